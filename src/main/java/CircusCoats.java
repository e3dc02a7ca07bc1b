import java.util.NoSuchElementException;

/** The sewing room of a circus. What each call answers is said in ../shared/DOC.md, by promise. */
public final class CircusCoats {
    private static final int MOST_COATS = 12;
    private static final int MOST_ACTS = 6;
    private static final int MOST_SEAMSTRESSES = 4;
    private static final int MOST_TRUNKS = 4;
    private static final int TRUNK_PLACES = 5;
    private static final int PANELS = 32;

    private static final int SMALLEST = 30;
    private static final int GREATEST_NEW = 60;
    private static final int GREATEST_COAT = 70;
    private static final int GREATEST_ACT = 99;
    private static final int MOST_GROWTH = 3;
    private static final int MOST_RIPS = 9;
    private static final int MOST_MISSING = 60;
    private static final int MISSING_UNSEEN = 10;
    private static final int LOST_BY_GOING_ON = 4;

    private static final int HOURS_A_DAY = 8;
    private static final int SOREST = 9;
    private static final int SOREST_SEWING = 5;
    private static final int SORE_HEALED = 2;
    private static final int MEND_HOURS = 1;
    private static final int MEND_THREAD = 1;
    private static final int LET_OUT_HOURS = 2;
    private static final int LET_OUT_THREAD = 3;
    private static final int PATCH_HOURS = 1;
    private static final int SPANGLES_AN_HOUR = 10;
    private static final int SPANGLES_A_METRE = 5;

    private static final int MOST_STORED = 999;
    private static final int MOST_BROUGHT = 99;
    private static final int MOST_TORN_SHOWN = 8;
    private static final int WEEK = 7;
    private static final int MOST_DAYS = 60;
    private static final int MOST_SIGNS = 60;
    private static final int MOST_UNDONE = 8;
    private static final int NONE = -1;

    private final Room room;
    private final Room saved;
    private final History history;
    private final Refusals refusals;
    private final Input input;
    private boolean isSaved;

    public CircusCoats() {
        room = new Room();
        saved = new Room();
        history = new History();
        refusals = new Refusals();
        input = new Input();
        isSaved = false;
    }

    // Coats and acts

    public int coat(int size) throws IllegalArgumentException, UnsupportedOperationException {
        needRange(size, SMALLEST, GREATEST_NEW);
        heed(refusals.againstMore(room.at(Room.COATS), MOST_COATS));
        history.keep(room);
        return Wardrobe.addCoat(room, size);
    }

    public int act(int size, int growth) throws IllegalArgumentException, UnsupportedOperationException {
        needRange(size, SMALLEST, GREATEST_NEW);
        needRange(growth, 0, MOST_GROWTH);
        heed(refusals.againstMore(room.at(Room.ACTS), MOST_ACTS));
        history.keep(room);
        return Wardrobe.addAct(room, size, growth);
    }

    public int wear(int act, int coat) throws IndexOutOfBoundsException, UnsupportedOperationException {
        needThere(room.hasAct(act));
        needThere(room.hasCoat(coat));
        heed(refusals.againstWearing(room, act, coat));
        history.keep(room);
        return Wardrobe.give(room, act, coat);
    }

    public int rip(int coat, int rips) throws IndexOutOfBoundsException, IllegalArgumentException {
        needThere(room.hasCoat(coat));
        needRange(rips, 1, MOST_RIPS);
        history.keep(room);
        return Wardrobe.addRips(room, coat, rips);
    }

    public int lose(int coat, int spangles) throws IndexOutOfBoundsException, IllegalArgumentException {
        needThere(room.hasCoat(coat));
        needRange(spangles, 1, MOST_MISSING);
        history.keep(room);
        return Wardrobe.takeOff(room, coat, spangles);
    }

    public int coatOf(int coat, int what) throws IndexOutOfBoundsException, IllegalArgumentException {
        needThere(room.hasCoat(coat));
        switch (what) {
            case 0: return room.at(Room.COAT_SIZE + coat);
            case 1: return room.at(Room.RIPS + coat);
            case 2: return room.at(Room.MISSING + coat);
            case 3: return room.at(Room.COAT_ACT + coat);
            case 4: return room.at(Room.COAT_TRUNK + coat);
            case 5: return room.at(Room.COAT_SHOWS + coat);
            default: throw new IllegalArgumentException("no such number of a coat");
        }
    }

    public int actOf(int act, int what) throws IndexOutOfBoundsException, IllegalArgumentException {
        needThere(room.hasAct(act));
        switch (what) {
            case 0: return room.at(Room.ACT_SIZE + act);
            case 1: return room.at(Room.GROWTH + act);
            case 2: return room.at(Room.ACT_COAT + act);
            case 3: return room.at(Room.ACT_SHOWS + act);
            default: throw new IllegalArgumentException("no such number of an act");
        }
    }

    public boolean open(int coat, int act) throws IndexOutOfBoundsException {
        needThere(room.hasCoat(coat));
        needThere(room.hasAct(act));
        return Wardrobe.isOpen(room, coat, act);
    }

    public int best(int act) throws IndexOutOfBoundsException, NoSuchElementException {
        needThere(room.hasAct(act));
        return found(Wardrobe.bestFor(room, act));
    }

    public int work(int coat, int act) throws IndexOutOfBoundsException, NoSuchElementException {
        needThere(room.hasCoat(coat));
        needThere(room.hasAct(act));
        return found(Wardrobe.hoursByCount(room, coat, act));
    }

    public int workAgain(int coat, int act) throws IndexOutOfBoundsException, NoSuchElementException {
        needThere(room.hasCoat(coat));
        needThere(room.hasAct(act));
        return found(Wardrobe.hoursOneByOne(room, coat, act));
    }

    // Seamstresses, thread, the tent

    public int seamstress() throws UnsupportedOperationException {
        heed(refusals.againstMore(room.at(Room.SEAMSTRESSES), MOST_SEAMSTRESSES));
        history.keep(room);
        return Sewing.addSeamstress(room);
    }

    public int seamstressOf(int seamstress, int what) throws IndexOutOfBoundsException, IllegalArgumentException {
        needThere(room.hasSeamstress(seamstress));
        switch (what) {
            case 0: return room.at(Room.HOURS + seamstress);
            case 1: return room.at(Room.SORE + seamstress);
            case 2: return room.at(Room.HOURS_SEWN + seamstress);
            default: throw new IllegalArgumentException("no such number of a seamstress");
        }
    }

    public int bring(int what, int many) throws IllegalArgumentException {
        needRange(what, 0, 2);
        needRange(many, 1, MOST_BROUGHT);
        history.keep(room);
        return Sewing.store(room, what, many);
    }

    public int sew(int seamstress, int coat) throws IndexOutOfBoundsException, UnsupportedOperationException {
        needThere(room.hasSeamstress(seamstress));
        needThere(room.hasCoat(coat));
        heed(refusals.againstMending(room, seamstress, coat));
        history.keep(room);
        return Sewing.mend(room, seamstress, coat);
    }

    public int spangle(int seamstress, int coat, int spangles)
            throws IndexOutOfBoundsException, IllegalArgumentException, UnsupportedOperationException {
        needThere(room.hasSeamstress(seamstress));
        needThere(room.hasCoat(coat));
        needRange(spangles, 1, MOST_MISSING);
        heed(refusals.againstSewingOn(room, seamstress, coat, spangles));
        history.keep(room);
        return Sewing.sewOn(room, seamstress, coat, spangles);
    }

    public int letOut(int seamstress, int coat) throws IndexOutOfBoundsException, UnsupportedOperationException {
        needThere(room.hasSeamstress(seamstress));
        needThere(room.hasCoat(coat));
        heed(refusals.againstWidening(room, seamstress, coat));
        history.keep(room);
        return Sewing.widen(room, seamstress, coat);
    }

    public int tear(int panel) throws IndexOutOfBoundsException {
        needThere(isPanel(panel));
        history.keep(room);
        room.put(Room.TORN + panel, 1);
        return room.tornPanels();
    }

    public int patch(int seamstress) throws IndexOutOfBoundsException, UnsupportedOperationException {
        needThere(room.hasSeamstress(seamstress));
        heed(refusals.againstPatching(room, seamstress));
        history.keep(room);
        return Sewing.patchLowest(room, seamstress);
    }

    public int torn(int panel) throws IndexOutOfBoundsException, NoSuchElementException {
        needThere(isPanel(panel));
        return found(room.tornFrom(panel));
    }

    // Trunks, the train, going on

    public int trunk() throws UnsupportedOperationException {
        heed(refusals.againstMore(room.at(Room.TRUNKS), MOST_TRUNKS));
        history.keep(room);
        return Packing.addTrunk(room);
    }

    public int pack(int coat, int trunk) throws IndexOutOfBoundsException, UnsupportedOperationException {
        needThere(room.hasCoat(coat));
        needThere(room.hasTrunk(trunk));
        heed(refusals.againstPacking(room, coat, trunk));
        history.keep(room);
        return Packing.putInto(room, coat, trunk);
    }

    public int unpack(int coat) throws IndexOutOfBoundsException, UnsupportedOperationException {
        needThere(room.hasCoat(coat));
        heed(refusals.againstUnpacking(room, coat));
        history.keep(room);
        return Packing.takeOut(room, coat);
    }

    public int packed(int trunk, int place) throws IndexOutOfBoundsException, NoSuchElementException {
        needThere(room.hasTrunk(trunk));
        return found(Packing.coatAt(room, trunk, place));
    }

    public int load(int trunk) throws IndexOutOfBoundsException, UnsupportedOperationException {
        needThere(room.hasTrunk(trunk));
        heed(refusals.againstLoading(room, trunk));
        history.keep(room);
        return Packing.putOnTrain(room, trunk);
    }

    public int unload() throws UnsupportedOperationException {
        heed(refusals.againstUnloading(room));
        history.keep(room);
        return Packing.takeOffTrain(room);
    }

    public int onTrain(int place) throws NoSuchElementException {
        return found(Packing.trunkAt(room, place));
    }

    public int unloads(int coat) throws IndexOutOfBoundsException {
        needThere(room.hasCoat(coat));
        return 1 + Packing.placeOnTrain(room, room.at(Room.COAT_TRUNK + coat));
    }

    public int goOn(int act) throws IndexOutOfBoundsException, UnsupportedOperationException {
        needThere(room.hasAct(act));
        heed(refusals.againstGoingOn(room, act));
        history.keep(room);
        return Stage.show(room, act);
    }

    public int tightIn(int act) throws IndexOutOfBoundsException, NoSuchElementException {
        needThere(room.hasAct(act));
        return found(Stage.daysUntilTight(room, act));
    }

    public int pass(int days) throws IllegalArgumentException {
        needRange(days, 1, MOST_DAYS);
        history.keep(room);
        return Stage.letDaysGoBy(room, days);
    }

    // Texts, accounts, undo and snapshot

    public int append(char c) throws IllegalStateException {
        if (input.isFull()) {
            throw new IllegalStateException("the input is full");
        }
        return input.add(c);
    }

    public int read() throws IllegalArgumentException, UnsupportedOperationException {
        input.parse();
        if (input.errorAt() != NONE) {
            throw new IllegalArgumentException("the text has an error");
        }
        history.mark(room);
        int outcome = Orders.carryOutAll(input, room, refusals);
        if (outcome != Orders.DONE) {
            history.backToMark(room);
        }
        heed(outcome == Orders.REFUSED);
        if (outcome == Orders.WRONG) {
            throw new IllegalArgumentException("an order names what is not there");
        }
        history.keepMark();
        return input.orders();
    }

    public int errorPosition() {
        return input.errorAt();
    }

    public int refusal(boolean isDetail) throws NoSuchElementException {
        if (refusals.reason() == 0) {
            throw new NoSuchElementException("nothing was refused");
        }
        return isDetail ? refusals.detail() : refusals.reason();
    }

    public char sign(int coat) throws IndexOutOfBoundsException {
        needThere(room.hasCoat(coat));
        return Wardrobe.signOf(room, coat);
    }

    public int account(int what) throws IllegalArgumentException {
        switch (what) {
            case 17: return input.length();
            case 18: return history.kept();
            default:
                needRange(what, 0, 16);
                return Audit.accountOf(room, what);
        }
    }

    public boolean isWell() {
        return Audit.spanglesAddUp(room) && Audit.trunksAgree(room) && Audit.actsAgree(room);
    }

    public double meanThumb() throws ArithmeticException {
        int seamstresses = room.at(Room.SEAMSTRESSES);
        if (seamstresses == 0) {
            throw new ArithmeticException("there are no seamstresses");
        }
        return (double) room.sum(Room.SORE, seamstresses) / (double) seamstresses;
    }

    public float tornShare() {
        return (float) room.tornPanels() / (float) PANELS;
    }

    public int undo() throws IllegalStateException {
        if (history.kept() == 0) {
            throw new IllegalStateException("no change can be undone");
        }
        history.back(room);
        return history.kept();
    }

    public int save() {
        saved.copyFrom(room);
        isSaved = true;
        return room.at(Room.COATS);
    }

    public int restore() throws IllegalStateException {
        if (!isSaved) {
            throw new IllegalStateException("there is no snapshot");
        }
        room.copyFrom(saved);
        history.forget();
        return room.at(Room.COATS);
    }

    private static void needRange(int number, int least, int most) {
        if (number < least || number > most) {
            throw new IllegalArgumentException("a number is out of range");
        }
    }

    private static void needThere(boolean isThere) {
        if (!isThere) {
            throw new IndexOutOfBoundsException("there is no such number");
        }
    }

    private static void heed(boolean isRefused) {
        if (isRefused) {
            throw new UnsupportedOperationException("refused");
        }
    }

    private static int found(int number) {
        if (number == NONE) {
            throw new NoSuchElementException("there is none");
        }
        return number;
    }

    private static boolean isPanel(int panel) {
        return panel >= 0 && panel < PANELS;
    }

    /** Every number that a change can change, in one row, so that undo and the snapshot copy it whole. */
    private static final class Room {
        // Bringing relies on spangles, thread and patches standing side by side.
        static final int DAY = 0;
        static final int SPANGLES = 1;
        static final int THREAD = 2;
        static final int PATCHES = 3;
        static final int SEWN_ON = 4;
        static final int LOST = 5;
        static final int BROUGHT = 6;
        static final int SHOWS = 7;
        static final int COATS = 8;
        static final int ACTS = 9;
        static final int SEAMSTRESSES = 10;
        static final int TRUNKS = 11;
        static final int LOADED = 12;

        static final int COAT_SIZE = 13;
        static final int RIPS = COAT_SIZE + MOST_COATS;
        static final int MISSING = RIPS + MOST_COATS;
        static final int COAT_ACT = MISSING + MOST_COATS;
        static final int COAT_TRUNK = COAT_ACT + MOST_COATS;
        static final int COAT_SHOWS = COAT_TRUNK + MOST_COATS;

        static final int ACT_SIZE = COAT_SHOWS + MOST_COATS;
        static final int GROWTH = ACT_SIZE + MOST_ACTS;
        static final int ACT_COAT = GROWTH + MOST_ACTS;
        static final int ACT_SHOWS = ACT_COAT + MOST_ACTS;

        static final int HOURS = ACT_SHOWS + MOST_ACTS;
        static final int SORE = HOURS + MOST_SEAMSTRESSES;
        static final int HOURS_SEWN = SORE + MOST_SEAMSTRESSES;

        static final int IN_TRUNK = HOURS_SEWN + MOST_SEAMSTRESSES;
        static final int TRAIN = IN_TRUNK + MOST_TRUNKS;
        static final int PLACES = TRAIN + MOST_TRUNKS;

        static final int TORN = PLACES + MOST_TRUNKS * TRUNK_PLACES;
        static final int CELLS = TORN + PANELS;

        private final int[] cells;

        Room() {
            cells = new int[CELLS];
            cells[SPANGLES] = 200;
            cells[THREAD] = 100;
            cells[PATCHES] = 20;
            cells[BROUGHT] = 200;
        }

        int at(int cell) {
            return cell >= 0 && cell < cells.length ? cells[cell] : 0;
        }

        void put(int cell, int number) {
            if (cell >= 0 && cell < cells.length) {
                cells[cell] = number;
            }
        }

        /** Makes a number greater, and returns what it is then. */
        int add(int cell, int more) {
            put(cell, at(cell) + more);
            return at(cell);
        }

        int sum(int first, int many) {
            int sum = 0;
            for (int i = 0; i < many && i < CELLS; i++) {
                sum += at(first + i);
            }
            return sum;
        }

        void copyFrom(Room other) {
            for (int i = 0; i < CELLS; i++) {
                put(i, other.at(i));
            }
        }

        boolean hasCoat(int number) {
            return number >= 0 && number < at(COATS);
        }

        boolean hasAct(int number) {
            return number >= 0 && number < at(ACTS);
        }

        boolean hasSeamstress(int number) {
            return number >= 0 && number < at(SEAMSTRESSES);
        }

        boolean hasTrunk(int number) {
            return number >= 0 && number < at(TRUNKS);
        }

        int tornPanels() {
            return sum(TORN, PANELS);
        }

        /** The first panel from one on that is torn, or none. */
        int tornFrom(int first) {
            for (int panel = first; panel < PANELS; panel++) {
                if (at(TORN + panel) != 0) {
                    return panel;
                }
            }
            return NONE;
        }
    }

    /** Coats and acts. */
    private static final class Wardrobe {
        // 9 rips, 5 hours for spangles and 40 sizes of 2 hours stay far below.
        private static final int MORE_HOURS_THAN_ANY_WORK = 1000;

        static int addCoat(Room room, int size) {
            int coat = room.at(Room.COATS);
            room.put(Room.COAT_SIZE + coat, size);
            room.put(Room.RIPS + coat, 0);
            room.put(Room.MISSING + coat, 0);
            room.put(Room.COAT_ACT + coat, NONE);
            room.put(Room.COAT_TRUNK + coat, NONE);
            room.put(Room.COAT_SHOWS + coat, 0);
            room.add(Room.COATS, 1);
            return coat;
        }

        static int addAct(Room room, int size, int growth) {
            int act = room.at(Room.ACTS);
            room.put(Room.ACT_SIZE + act, size);
            room.put(Room.GROWTH + act, growth);
            room.put(Room.ACT_COAT + act, NONE);
            room.put(Room.ACT_SHOWS + act, 0);
            room.add(Room.ACTS, 1);
            return act;
        }

        static int give(Room room, int act, int coat) {
            int before = room.at(Room.ACT_COAT + act);
            if (room.hasCoat(before)) {
                room.put(Room.COAT_ACT + before, NONE);
            }
            room.put(Room.ACT_COAT + act, coat);
            room.put(Room.COAT_ACT + coat, act);
            return before;
        }

        static int addRips(Room room, int coat, int rips) {
            int made = Math.min(rips, MOST_RIPS - room.at(Room.RIPS + coat));
            return room.add(Room.RIPS + coat, made);
        }

        static int takeOff(Room room, int coat, int spangles) {
            int off = Math.min(spangles, MOST_MISSING - room.at(Room.MISSING + coat));
            room.add(Room.LOST, off);
            return room.add(Room.MISSING + coat, off);
        }

        static boolean hasGaps(Room room, int coat) {
            return room.at(Room.MISSING + coat) > MISSING_UNSEEN;
        }

        static boolean isTooSmall(Room room, int coat, int act) {
            return room.at(Room.COAT_SIZE + coat) < room.at(Room.ACT_SIZE + act);
        }

        static boolean isOpen(Room room, int coat, int act) {
            return room.at(Room.RIPS + coat) > 0 || hasGaps(room, coat) || isTooSmall(room, coat, act);
        }

        static boolean isOfAnother(Room room, int coat, int act) {
            int owner = room.at(Room.COAT_ACT + coat);
            return owner != NONE && owner != act;
        }

        static int bestFor(Room room, int act) {
            int best = NONE;
            for (int coat = 0; coat < MOST_COATS && coat < room.at(Room.COATS); coat++) {
                boolean fits = !isOfAnother(room, coat, act) && !isOpen(room, coat, act);
                if (fits && (best == NONE || room.at(Room.COAT_SIZE + coat) < room.at(Room.COAT_SIZE + best))) {
                    best = coat;
                }
            }
            return best;
        }

        /** The hours of work, or none if no coat can be let out that far. */
        static int hoursByCount(Room room, int coat, int act) {
            int size = room.at(Room.ACT_SIZE + act);
            if (size > GREATEST_COAT) {
                return NONE;
            }
            int gaps = Math.max(0, room.at(Room.MISSING + coat) - MISSING_UNSEEN);
            int sizes = Math.max(0, size - room.at(Room.COAT_SIZE + coat));
            return room.at(Room.RIPS + coat) * MEND_HOURS + Sewing.hoursFor(gaps) + sizes * LET_OUT_HOURS;
        }

        /** The same, by working on copies of the numbers for an hour at a time. */
        static int hoursOneByOne(Room room, int coat, int act) {
            int wanted = room.at(Room.ACT_SIZE + act);
            if (wanted > GREATEST_COAT) {
                return NONE;
            }
            int rips = room.at(Room.RIPS + coat);
            int missing = room.at(Room.MISSING + coat);
            int size = room.at(Room.COAT_SIZE + coat);
            int begun = 0;
            int hours = 0;
            while (hours < MORE_HOURS_THAN_ANY_WORK && (rips > 0 || missing > MISSING_UNSEEN || size < wanted)) {
                hours++;
                if (rips > 0) {
                    rips--;
                } else if (missing > MISSING_UNSEEN) {
                    missing = Math.max(MISSING_UNSEEN, missing - SPANGLES_AN_HOUR);
                } else if (begun + 1 < LET_OUT_HOURS) {
                    begun++;
                } else {
                    begun = 0;
                    size++;
                }
            }
            return hours;
        }

        static char signOf(Room room, int coat) {
            if (room.at(Room.COAT_TRUNK + coat) != NONE) {
                return 't';
            }
            if (room.at(Room.RIPS + coat) > 0) {
                return 'r';
            }
            if (hasGaps(room, coat)) {
                return 's';
            }
            return room.at(Room.COAT_ACT + coat) != NONE ? 'w' : 'c';
        }
    }

    /** Seamstresses, what they sew with, and the tent. */
    private static final class Sewing {
        static int addSeamstress(Room room) {
            int seamstress = room.at(Room.SEAMSTRESSES);
            room.put(Room.HOURS + seamstress, HOURS_A_DAY);
            room.put(Room.SORE + seamstress, 0);
            room.put(Room.HOURS_SEWN + seamstress, 0);
            room.add(Room.SEAMSTRESSES, 1);
            return seamstress;
        }

        static int store(Room room, int what, int many) {
            int cell = Room.SPANGLES + what;
            int brought = Math.min(many, MOST_STORED - room.at(cell));
            if (cell == Room.SPANGLES) {
                room.add(Room.BROUGHT, brought);
            }
            return room.add(cell, brought);
        }

        static int hoursFor(int spangles) {
            return (spangles + SPANGLES_AN_HOUR - 1) / SPANGLES_AN_HOUR;
        }

        static int threadFor(int spangles) {
            return (spangles + SPANGLES_A_METRE - 1) / SPANGLES_A_METRE;
        }

        static int mend(Room room, int seamstress, int coat) {
            spend(room, seamstress, MEND_HOURS);
            room.add(Room.THREAD, -MEND_THREAD);
            return room.add(Room.RIPS + coat, -1);
        }

        static int sewOn(Room room, int seamstress, int coat, int spangles) {
            spend(room, seamstress, hoursFor(spangles));
            room.add(Room.THREAD, -threadFor(spangles));
            room.add(Room.SPANGLES, -spangles);
            room.add(Room.SEWN_ON, spangles);
            return room.add(Room.MISSING + coat, -spangles);
        }

        static int widen(Room room, int seamstress, int coat) {
            spend(room, seamstress, LET_OUT_HOURS);
            room.add(Room.THREAD, -LET_OUT_THREAD);
            return room.add(Room.COAT_SIZE + coat, 1);
        }

        static int patchLowest(Room room, int seamstress) {
            int panel = room.tornFrom(0);
            spend(room, seamstress, PATCH_HOURS);
            room.add(Room.PATCHES, -1);
            if (panel != NONE) {
                room.put(Room.TORN + panel, 0);
            }
            return panel;
        }

        private static void spend(Room room, int seamstress, int hours) {
            room.add(Room.HOURS + seamstress, -hours);
            room.add(Room.HOURS_SEWN + seamstress, hours);
            room.put(Room.SORE + seamstress, Math.min(SOREST, room.at(Room.SORE + seamstress) + 1));
        }
    }

    /** Trunks and the train. */
    private static final class Packing {
        static int addTrunk(Room room) {
            int trunk = room.at(Room.TRUNKS);
            room.put(Room.IN_TRUNK + trunk, 0);
            room.add(Room.TRUNKS, 1);
            return trunk;
        }

        private static int cellOf(int trunk, int place) {
            return Room.PLACES + trunk * TRUNK_PLACES + place;
        }

        static int putInto(Room room, int coat, int trunk) {
            room.put(cellOf(trunk, room.at(Room.IN_TRUNK + trunk)), coat);
            room.put(Room.COAT_TRUNK + coat, trunk);
            return room.add(Room.IN_TRUNK + trunk, 1);
        }

        static int takeOut(Room room, int coat) {
            int trunk = room.at(Room.COAT_TRUNK + coat);
            int place = placeInTrunk(room, coat);
            int last = room.add(Room.IN_TRUNK + trunk, -1);
            for (int i = place; i < last && i < TRUNK_PLACES; i++) {
                room.put(cellOf(trunk, i), room.at(cellOf(trunk, i + 1)));
            }
            room.put(Room.COAT_TRUNK + coat, NONE);
            return place;
        }

        static int placeInTrunk(Room room, int coat) {
            int trunk = room.at(Room.COAT_TRUNK + coat);
            for (int place = 0; place < TRUNK_PLACES; place++) {
                if (coatAt(room, trunk, place) == coat) {
                    return place;
                }
            }
            return NONE;
        }

        static int coatAt(Room room, int trunk, int place) {
            if (!room.hasTrunk(trunk) || place < 0 || place >= room.at(Room.IN_TRUNK + trunk)) {
                return NONE;
            }
            return room.at(cellOf(trunk, place));
        }

        static int putOnTrain(Room room, int trunk) {
            room.put(Room.TRAIN + room.at(Room.LOADED), trunk);
            return room.add(Room.LOADED, 1);
        }

        static int takeOffTrain(Room room) {
            int trunk = room.at(Room.TRAIN);
            int last = room.add(Room.LOADED, -1);
            for (int i = 0; i < last && i < MOST_TRUNKS; i++) {
                room.put(Room.TRAIN + i, room.at(Room.TRAIN + i + 1));
            }
            return trunk;
        }

        static int trunkAt(Room room, int place) {
            return place >= 0 && place < room.at(Room.LOADED) ? room.at(Room.TRAIN + place) : NONE;
        }

        /** The place of a trunk on the train, or none; no trunk has none either. */
        static int placeOnTrain(Room room, int trunk) {
            for (int place = 0; place < MOST_TRUNKS && place < room.at(Room.LOADED); place++) {
                if (room.at(Room.TRAIN + place) == trunk) {
                    return place;
                }
            }
            return NONE;
        }
    }

    /** Going on, and days that go by. */
    private static final class Stage {
        static int show(Room room, int act) {
            int coat = room.at(Room.ACT_COAT + act);
            boolean isTight = room.at(Room.COAT_SIZE + coat) == room.at(Room.ACT_SIZE + act);
            if (isTight) {
                Wardrobe.addRips(room, coat, 1);
            }
            room.add(Room.SHOWS, 1);
            room.add(Room.ACT_SHOWS + act, 1);
            room.add(Room.COAT_SHOWS + coat, 1);
            return Wardrobe.takeOff(room, coat, LOST_BY_GOING_ON);
        }

        /** In how many days the coat of an act is too small, or none if it has no coat or never grows. */
        static int daysUntilTight(Room room, int act) {
            int coat = room.at(Room.ACT_COAT + act);
            if (coat == NONE) {
                return NONE;
            }
            int ease = room.at(Room.COAT_SIZE + coat) - room.at(Room.ACT_SIZE + act);
            if (ease < 0) {
                return 0;
            }
            int growth = room.at(Room.GROWTH + act);
            if (growth <= 0) {
                return NONE;
            }
            int weeks = ease / growth + 1;
            return weeks * WEEK - room.at(Room.DAY) % WEEK;
        }

        static int letDaysGoBy(Room room, int days) {
            int grown = 0;
            for (int i = 0; i < days && i < MOST_DAYS; i++) {
                rest(room);
                int day = room.add(Room.DAY, 1);
                if (day % WEEK == 0) {
                    grown += grow(room);
                }
            }
            return grown;
        }

        private static void rest(Room room) {
            for (int seamstress = 0; seamstress < MOST_SEAMSTRESSES; seamstress++) {
                if (room.hasSeamstress(seamstress)) {
                    room.put(Room.HOURS + seamstress, HOURS_A_DAY);
                    int sore = room.at(Room.SORE + seamstress);
                    room.put(Room.SORE + seamstress, Math.max(0, sore - SORE_HEALED));
                }
            }
        }

        private static int grow(Room room) {
            int grown = 0;
            for (int act = 0; act < MOST_ACTS; act++) {
                if (room.hasAct(act)) {
                    int more = Math.min(room.at(Room.GROWTH + act), GREATEST_ACT - room.at(Room.ACT_SIZE + act));
                    room.add(Room.ACT_SIZE + act, more);
                    grown += more;
                }
            }
            return grown;
        }
    }

    /** Tells whether a change is refused, by its reasons in their order, and keeps the latest reason. */
    private static final class Refusals {
        private int reason;
        private int detail;

        int reason() {
            return reason;
        }

        int detail() {
            return detail;
        }

        boolean againstMore(int there, int most) {
            return tell(there >= most, 1, most);
        }

        boolean againstWearing(Room room, int act, int coat) {
            return tell(Wardrobe.isOfAnother(room, coat, act), 2, room.at(Room.COAT_ACT + coat));
        }

        boolean againstMending(Room room, int seamstress, int coat) {
            return isPackedAway(room, coat)
                || isTooSore(room, seamstress)
                || tell(room.at(Room.RIPS + coat) == 0, 6, coat)
                || lacksHours(room, seamstress, MEND_HOURS)
                || lacksThread(room, MEND_THREAD);
        }

        boolean againstSewingOn(Room room, int seamstress, int coat, int spangles) {
            int missing = room.at(Room.MISSING + coat);
            int there = room.at(Room.SPANGLES);
            return isPackedAway(room, coat)
                || isTooSore(room, seamstress)
                || tell(missing < spangles, 8, missing)
                || tell(there < spangles, 9, spangles - there)
                || lacksHours(room, seamstress, Sewing.hoursFor(spangles))
                || lacksThread(room, Sewing.threadFor(spangles));
        }

        boolean againstWidening(Room room, int seamstress, int coat) {
            int size = room.at(Room.COAT_SIZE + coat);
            return isPackedAway(room, coat)
                || isTooSore(room, seamstress)
                || tell(size >= GREATEST_COAT, 10, size)
                || lacksHours(room, seamstress, LET_OUT_HOURS)
                || lacksThread(room, LET_OUT_THREAD);
        }

        boolean againstPatching(Room room, int seamstress) {
            return isTooSore(room, seamstress)
                || tell(room.tornPanels() == 0, 11, 0)
                || tell(room.at(Room.PATCHES) == 0, 12, 0)
                || lacksHours(room, seamstress, PATCH_HOURS);
        }

        boolean againstPacking(Room room, int coat, int trunk) {
            return isPackedAway(room, coat)
                || isLoaded(room, trunk)
                || againstMore(room.at(Room.IN_TRUNK + trunk), TRUNK_PLACES);
        }

        boolean againstUnpacking(Room room, int coat) {
            int trunk = room.at(Room.COAT_TRUNK + coat);
            return tell(trunk == NONE, 18, coat) || isLoaded(room, trunk);
        }

        boolean againstLoading(Room room, int trunk) {
            return isLoaded(room, trunk);
        }

        boolean againstUnloading(Room room) {
            return tell(room.at(Room.LOADED) == 0, 17, 0);
        }

        boolean againstGoingOn(Room room, int act) {
            int coat = room.at(Room.ACT_COAT + act);
            int torn = room.tornPanels();
            return tell(coat == NONE, 13, act)
                || isPackedAway(room, coat)
                || isOpen(room, coat, act)
                || tell(torn > MOST_TORN_SHOWN, 15, torn);
        }

        private boolean isPackedAway(Room room, int coat) {
            int trunk = room.at(Room.COAT_TRUNK + coat);
            return tell(trunk != NONE, 3, trunk);
        }

        private boolean isTooSore(Room room, int seamstress) {
            int sore = room.at(Room.SORE + seamstress);
            return tell(sore > SOREST_SEWING, 4, sore - SOREST_SEWING);
        }

        private boolean lacksHours(Room room, int seamstress, int needed) {
            int missing = needed - room.at(Room.HOURS + seamstress);
            return tell(missing > 0, 5, missing);
        }

        private boolean lacksThread(Room room, int needed) {
            int missing = needed - room.at(Room.THREAD);
            return tell(missing > 0, 7, missing);
        }

        private boolean isOpen(Room room, int coat, int act) {
            return tell(room.at(Room.RIPS + coat) > 0, 14, 0)
                || tell(Wardrobe.hasGaps(room, coat), 14, 1)
                || tell(Wardrobe.isTooSmall(room, coat, act), 14, 2);
        }

        private boolean isLoaded(Room room, int trunk) {
            int place = Packing.placeOnTrain(room, trunk);
            return tell(place != NONE, 16, place);
        }

        private boolean tell(boolean applies, int why, int what) {
            if (applies) {
                reason = why;
                detail = what;
            }
            return applies;
        }
    }

    /** The input, and the orders of the text that was parsed last. */
    private static final class Input {
        // An order takes a character at least, and a semicolon stands between two of them.
        private static final int MOST_ORDERS = (MOST_SIGNS + 1) / 2;

        private final char[] signs;
        private final char[] kinds;
        private final int[] firsts;
        private final int[] seconds;
        private int length;
        private int cursor;
        private int orders;
        private int errorAt;

        Input() {
            signs = new char[MOST_SIGNS];
            kinds = new char[MOST_ORDERS];
            firsts = new int[MOST_ORDERS];
            seconds = new int[MOST_ORDERS];
            errorAt = NONE;
        }

        int length() {
            return length;
        }

        int errorAt() {
            return errorAt;
        }

        int orders() {
            return orders;
        }

        char kind(int order) {
            return order >= 0 && order < kinds.length ? kinds[order] : (char) 0;
        }

        int first(int order) {
            return order >= 0 && order < firsts.length ? firsts[order] : NONE;
        }

        int second(int order) {
            return order >= 0 && order < seconds.length ? seconds[order] : NONE;
        }

        boolean isFull() {
            return length >= signs.length;
        }

        int add(char sign) {
            if (length >= 0 && length < signs.length) {
                signs[length] = sign;
                length++;
            }
            return length;
        }

        /** Takes the text out of the input; its orders and its error position stay. */
        void parse() {
            cursor = 0;
            orders = 0;
            errorAt = isText() ? NONE : cursor;
            length = 0;
        }

        /** Whether the input is a text; if not, the cursor stands at the error. */
        private boolean isText() {
            for (int i = 0; i <= MOST_SIGNS; i++) {
                if (!takeOrder()) {
                    return false;
                }
                if (cursor >= length) {
                    return true;
                }
                if (!take(';')) {
                    return false;
                }
            }
            return false;
        }

        private boolean takeOrder() {
            char kind = next();
            if (!isKind(kind)) {
                return false;
            }
            cursor++;
            int first = kind == 'u' ? 0 : takeNumber(firstDigits(kind));
            if (first == NONE) {
                return false;
            }
            char link = linkOf(kind);
            if (link == 0) {
                keep(kind, first, 0);
                return true;
            }
            int second = take(link) ? takeNumber(secondDigits(kind)) : NONE;
            if (second == NONE) {
                return false;
            }
            keep(kind, first, second);
            return true;
        }

        private static boolean isKind(char sign) {
            return "swklugp".indexOf(sign) >= 0;
        }

        private static int firstDigits(char kind) {
            return kind == 'k' || kind == 'p' ? 2 : 1;
        }

        private static int secondDigits(char kind) {
            return kind == 'k' ? 1 : 2;
        }

        /** What stands between the two numbers of an order; 0 if it has not two. */
        private static char linkOf(char kind) {
            switch (kind) {
                case 's': return '@';
                case 'w': return ':';
                case 'k': return '>';
                default: return (char) 0;
            }
        }

        /** The sign that comes next; 0, which no order has, at the end. */
        private char next() {
            return cursor >= 0 && cursor < length && cursor < signs.length ? signs[cursor] : (char) 0;
        }

        private boolean take(char wanted) {
            if (next() != wanted) {
                return false;
            }
            cursor++;
            return true;
        }

        private int takeNumber(int mostDigits) {
            int number = NONE;
            for (int i = 0; i < mostDigits && next() >= '0' && next() <= '9'; i++) {
                number = (number == NONE ? 0 : number * 10) + (next() - '0');
                cursor++;
            }
            return number;
        }

        private void keep(char kind, int first, int second) {
            if (orders >= 0 && orders < kinds.length && orders < firsts.length && orders < seconds.length) {
                kinds[orders] = kind;
                firsts[orders] = first;
                seconds[orders] = second;
                orders++;
            }
        }
    }

    /** Carries out the orders of a text. */
    private static final class Orders {
        static final int DONE = 0;
        static final int REFUSED = 1;
        static final int WRONG = 2;

        /** How it ends; on an end other than done some orders may stand carried out. */
        static int carryOutAll(Input text, Room room, Refusals refusals) {
            for (int i = 0; i < text.orders() && i < MOST_SIGNS; i++) {
                char kind = text.kind(i);
                int first = text.first(i);
                int second = text.second(i);
                if (!namesRightly(room, kind, first, second)) {
                    return WRONG;
                }
                if (isRefused(refusals, room, kind, first, second)) {
                    return REFUSED;
                }
                carryOut(room, kind, first, second);
            }
            return DONE;
        }

        private static boolean namesRightly(Room room, char kind, int first, int second) {
            switch (kind) {
                case 's': return room.hasSeamstress(first) && room.hasCoat(second);
                case 'w': return room.hasAct(first) && room.hasCoat(second);
                case 'k': return room.hasCoat(first) && room.hasTrunk(second);
                case 'l': return room.hasTrunk(first);
                case 'u': return true;
                case 'g': return room.hasAct(first);
                case 'p': return first >= 1 && first <= MOST_DAYS;
                default: return false;
            }
        }

        private static boolean isRefused(Refusals refusals, Room room, char kind, int first, int second) {
            switch (kind) {
                case 's': return refusals.againstMending(room, first, second);
                case 'w': return refusals.againstWearing(room, first, second);
                case 'k': return refusals.againstPacking(room, first, second);
                case 'l': return refusals.againstLoading(room, first);
                case 'u': return refusals.againstUnloading(room);
                case 'g': return refusals.againstGoingOn(room, first);
                default: return false;
            }
        }

        private static void carryOut(Room room, char kind, int first, int second) {
            switch (kind) {
                case 's': Sewing.mend(room, first, second); break;
                case 'w': Wardrobe.give(room, first, second); break;
                case 'k': Packing.putInto(room, first, second); break;
                case 'l': Packing.putOnTrain(room, first); break;
                case 'u': Packing.takeOffTrain(room); break;
                case 'g': Stage.show(room, first); break;
                case 'p': Stage.letDaysGoBy(room, first); break;
                default: break;
            }
        }
    }

    /** Accounts, and whether they agree with one another. */
    private static final class Audit {
        static int accountOf(Room room, int what) {
            switch (what) {
                case 0: return room.at(Room.DAY);
                case 1: return room.at(Room.COATS);
                case 2: return room.at(Room.ACTS);
                case 3: return room.at(Room.SEAMSTRESSES);
                case 4: return room.at(Room.TRUNKS);
                case 5: return room.at(Room.LOADED);
                case 6: return room.sum(Room.IN_TRUNK, room.at(Room.TRUNKS));
                case 7: return room.at(Room.SPANGLES);
                case 8: return room.at(Room.THREAD);
                case 9: return room.at(Room.PATCHES);
                case 10: return room.sum(Room.RIPS, room.at(Room.COATS));
                case 11: return room.sum(Room.MISSING, room.at(Room.COATS));
                case 12: return room.at(Room.SEWN_ON);
                case 13: return room.at(Room.LOST);
                case 14: return room.at(Room.BROUGHT);
                case 15: return room.tornPanels();
                case 16: return room.at(Room.SHOWS);
                default: return 0;
            }
        }

        static boolean spanglesAddUp(Room room) {
            int sewnOn = room.at(Room.SEWN_ON);
            int missing = room.sum(Room.MISSING, room.at(Room.COATS));
            return room.at(Room.BROUGHT) == room.at(Room.SPANGLES) + sewnOn
                && room.at(Room.LOST) == missing + sewnOn;
        }

        static boolean trunksAgree(Room room) {
            for (int coat = 0; coat < MOST_COATS; coat++) {
                boolean isAway = room.hasCoat(coat) && room.at(Room.COAT_TRUNK + coat) != NONE;
                if (isAway && Packing.placeInTrunk(room, coat) == NONE) {
                    return false;
                }
            }
            return true;
        }

        static boolean actsAgree(Room room) {
            for (int coat = 0; coat < MOST_COATS; coat++) {
                int act = room.hasCoat(coat) ? room.at(Room.COAT_ACT + coat) : NONE;
                if (act != NONE && room.at(Room.ACT_COAT + act) != coat) {
                    return false;
                }
            }
            return true;
        }
    }

    /** The rooms before the latest changes. One more than can be undone, so that a mark costs none of them. */
    private static final class History {
        private final Room[] before;
        private int next;
        private int kept;

        History() {
            before = new Room[MOST_UNDONE + 1];
            for (int i = 0; i < before.length; i++) {
                before[i] = new Room();
            }
        }

        int kept() {
            return kept;
        }

        void keep(Room room) {
            mark(room);
            keepMark();
        }

        /** Notes how the room is, as a change that may still come to nothing. */
        void mark(Room room) {
            Room spare = pageAt(next);
            if (spare != null) {
                spare.copyFrom(room);
            }
        }

        void keepMark() {
            next = next < MOST_UNDONE ? next + 1 : 0;
            kept = Math.min(MOST_UNDONE, kept + 1);
        }

        void backToMark(Room room) {
            Room page = pageAt(next);
            if (page != null) {
                room.copyFrom(page);
            }
        }

        void back(Room room) {
            next = next > 0 ? next - 1 : MOST_UNDONE;
            kept = Math.max(0, kept - 1);
            backToMark(room);
        }

        void forget() {
            kept = 0;
        }

        private Room pageAt(int page) {
            return page >= 0 && page < before.length ? before[page] : null;
        }
    }
}
