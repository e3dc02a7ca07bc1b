import java.util.ArrayDeque;
import java.util.ArrayList;
import java.util.Deque;
import java.util.List;
import java.util.TreeSet;
import java.util.regex.Matcher;
import java.util.regex.Pattern;

/**
 * The document once more, told in another way: lists of small objects in place of rows, the act and the trunk of a
 * coat looked for and not kept, texts by a pattern. An answer is a text: what is answered, or the name of what is
 * thrown.
 */
final class Model {
    static final String BOUNDS = "IndexOutOfBoundsException";
    static final String ILLEGAL = "IllegalArgumentException";
    static final String REFUSED = "UnsupportedOperationException";
    static final String NO_SUCH = "NoSuchElementException";
    static final String STATE = "IllegalStateException";
    private static final String ORDER = "(s\\d@\\d\\d?|w\\d:\\d\\d?|k\\d\\d?>\\d|l\\d|u|g\\d|p\\d\\d?)";
    private static final Pattern TEXT = Pattern.compile(ORDER + "(;" + ORDER + ")*", Pattern.DOTALL);

    private static final class State {
        int day = 0;
        int[] store = {200, 100, 20};
        int sewnOn = 0;
        int lost = 0;
        int brought = 200;
        List<int[]> coats = new ArrayList<>(); // size, rips, missing, shows
        List<int[]> acts = new ArrayList<>(); // size, growth, coat, shows
        List<int[]> seamstresses = new ArrayList<>(); // hours, sore, hours sewn
        List<List<Integer>> trunks = new ArrayList<>();
        List<Integer> train = new ArrayList<>();
        TreeSet<Integer> torn = new TreeSet<>();

        State copy() {
            State c = new State();
            c.day = day;
            c.store = store.clone();
            c.sewnOn = sewnOn;
            c.lost = lost;
            c.brought = brought;
            coats.forEach(row -> c.coats.add(row.clone()));
            acts.forEach(row -> c.acts.add(row.clone()));
            seamstresses.forEach(row -> c.seamstresses.add(row.clone()));
            trunks.forEach(row -> c.trunks.add(new ArrayList<>(row)));
            c.train.addAll(train);
            c.torn.addAll(torn);
            return c;
        }

        int actOf(int coat) {
            for (int a = 0; a < acts.size(); a++) {
                if (acts.get(a)[2] == coat) {
                    return a;
                }
            }
            return -1;
        }

        int trunkOf(int coat) {
            for (int t = 0; t < trunks.size(); t++) {
                if (trunks.get(t).contains(coat)) {
                    return t;
                }
            }
            return -1;
        }
    }

    private State s = new State();
    private State saved = null;
    private final Deque<State> past = new ArrayDeque<>();
    private String input = "";
    private int error = -1;
    private int reason = 0;
    private int detail = 0;

    /** The answer of a call by its number in the face, in the order of the document. */
    String call(int method, int a, int b, int c) {
        State before = s.copy();
        String answer = answer(method, a, b, c);
        boolean isChange = method <= Walk.LAST_CHANGE;
        if (isChange && answer.matches("-?\\d+")) {
            past.addLast(before);
            if (past.size() > 8) {
                past.removeFirst();
            }
        }
        return answer;
    }

    int reason() {
        return reason;
    }

    private String answer(int method, int a, int b, int c) {
        switch (method) {
            case Walk.COAT: return coat(a);
            case Walk.ACT: return act(a, b);
            case Walk.WEAR: return wear(a, b);
            case Walk.RIP: return rip(a, b);
            case Walk.LOSE: return lose(a, b);
            case Walk.SEAMSTRESS: return seamstress();
            case Walk.BRING: return bring(a, b);
            case Walk.SEW: return sew(a, b);
            case Walk.SPANGLE: return spangle(a, b, c);
            case Walk.LET_OUT: return letOut(a, b);
            case Walk.TEAR: return tear(a);
            case Walk.PATCH: return patch(a);
            case Walk.TRUNK: return trunk();
            case Walk.PACK: return pack(a, b);
            case Walk.UNPACK: return unpack(a);
            case Walk.LOAD: return load(a);
            case Walk.UNLOAD: return unload();
            case Walk.GO_ON: return goOn(a);
            case Walk.PASS: return pass(a);
            case Walk.READ: return read();
            case Walk.UNDO: return undo();
            case Walk.SAVE: return save();
            case Walk.RESTORE: return restore();
            case Walk.APPEND: return append((char) a);
            default: return question(method, a, b);
        }
    }

    private String question(int method, int a, int b) {
        switch (method) {
            case Walk.OPEN: return noCoat(a) || noAct(b) ? BOUNDS : "" + (gap(a, b) >= 0);
            case Walk.BEST: return best(a);
            case Walk.WORK: case Walk.WORK_AGAIN: return work(a, b);
            case Walk.TORN: return torn(a);
            case Walk.TIGHT_IN: return tightIn(a);
            case Walk.ERROR_POSITION: return "" + error;
            case Walk.REFUSAL: return reason == 0 ? NO_SUCH : "" + (a == 1 ? detail : reason);
            case Walk.MEAN_THUMB: return meanThumb();
            case Walk.TORN_SHARE: return "" + s.torn.size() / 32f;
            default: return "no such method";
        }
    }

    private boolean noCoat(int n) {
        return n < 0 || n >= s.coats.size();
    }

    private boolean noAct(int n) {
        return n < 0 || n >= s.acts.size();
    }

    private boolean noSeamstress(int n) {
        return n < 0 || n >= s.seamstresses.size();
    }

    private boolean noTrunk(int n) {
        return n < 0 || n >= s.trunks.size();
    }

    /** The reasons that are looked at, each as three numbers: whether it applies, it and its detail. */
    private boolean refused(int[]... reasons) {
        for (int[] one : reasons) {
            if (one[0] == 1) {
                reason = one[1];
                detail = one[2];
                return true;
            }
        }
        return false;
    }

    private static int[] why(boolean applies, int reason, int detail) {
        return new int[] {applies ? 1 : 0, reason, detail};
    }

    private int[] packedAway(int coat) {
        return why(s.trunkOf(coat) >= 0, 3, s.trunkOf(coat));
    }

    private int[] sore(int seamstress) {
        return why(s.seamstresses.get(seamstress)[1] >= 6, 4, s.seamstresses.get(seamstress)[1] - 5);
    }

    private int[] hours(int seamstress, int hours) {
        int there = s.seamstresses.get(seamstress)[0];
        return why(there < hours, 5, hours - there);
    }

    private int[] thread(int metres) {
        return why(s.store[1] < metres, 7, metres - s.store[1]);
    }

    private int[] onTrain(int trunk) {
        return why(s.train.contains(trunk), 16, s.train.indexOf(trunk));
    }

    private void spend(int seamstress, int hours, int thread) {
        int[] her = s.seamstresses.get(seamstress);
        her[0] -= hours;
        her[1] = her[1] == 9 ? 9 : her[1] + 1;
        her[2] += hours;
        s.store[1] -= thread;
    }

    private String coat(int size) {
        if (size < 30 || size > 60) {
            return ILLEGAL;
        }
        if (refused(why(s.coats.size() == 12, 1, 12))) {
            return REFUSED;
        }
        s.coats.add(new int[] {size, 0, 0, 0});
        return "" + (s.coats.size() - 1);
    }

    private String act(int size, int growth) {
        if (size < 30 || size > 60 || growth < 0 || growth > 3) {
            return ILLEGAL;
        }
        if (refused(why(s.acts.size() == 6, 1, 6))) {
            return REFUSED;
        }
        s.acts.add(new int[] {size, growth, -1, 0});
        return "" + (s.acts.size() - 1);
    }

    private String wear(int act, int coat) {
        if (noAct(act) || noCoat(coat)) {
            return BOUNDS;
        }
        int of = s.actOf(coat);
        if (refused(why(of >= 0 && of != act, 2, of))) {
            return REFUSED;
        }
        int had = s.acts.get(act)[2];
        s.acts.get(act)[2] = coat;
        return "" + had;
    }

    private String rip(int coat, int rips) {
        if (noCoat(coat)) {
            return BOUNDS;
        }
        if (rips < 1 || rips > 9) {
            return ILLEGAL;
        }
        int[] it = s.coats.get(coat);
        it[1] = it[1] + rips > 9 ? 9 : it[1] + rips;
        return "" + it[1];
    }

    private String lose(int coat, int spangles) {
        if (noCoat(coat)) {
            return BOUNDS;
        }
        if (spangles < 1 || spangles > 60) {
            return ILLEGAL;
        }
        int[] it = s.coats.get(coat);
        for (int i = 0; i < spangles && it[2] < 60; i++) {
            it[2]++;
            s.lost++;
        }
        return "" + it[2];
    }

    private int gap(int coat, int act) {
        int[] it = s.coats.get(coat);
        return it[1] > 0 ? 0 : it[2] >= 11 ? 1 : it[0] < s.acts.get(act)[0] ? 2 : -1;
    }

    private String best(int act) {
        if (noAct(act)) {
            return BOUNDS;
        }
        for (int size = 30; size <= 70; size++) {
            for (int coat = 0; coat < s.coats.size(); coat++) {
                int of = s.actOf(coat);
                if (s.coats.get(coat)[0] == size && (of < 0 || of == act) && gap(coat, act) < 0) {
                    return "" + coat;
                }
            }
        }
        return NO_SUCH;
    }

    private String work(int coat, int act) {
        if (noCoat(coat) || noAct(act)) {
            return BOUNDS;
        }
        int[] it = s.coats.get(coat);
        int size = s.acts.get(act)[0];
        if (size > 70) {
            return NO_SUCH;
        }
        int spangles = it[2] > 50 ? 5 : it[2] > 40 ? 4 : it[2] > 30 ? 3 : it[2] > 20 ? 2 : it[2] > 10 ? 1 : 0;
        return "" + (it[1] + spangles + (size > it[0] ? 2 * (size - it[0]) : 0));
    }

    private String seamstress() {
        if (refused(why(s.seamstresses.size() == 4, 1, 4))) {
            return REFUSED;
        }
        s.seamstresses.add(new int[] {8, 0, 0});
        return "" + (s.seamstresses.size() - 1);
    }

    private String bring(int what, int many) {
        if (what < 0 || what > 2 || many < 1 || many > 99) {
            return ILLEGAL;
        }
        for (int i = 0; i < many && s.store[what] < 999; i++) {
            s.store[what]++;
            s.brought += what == 0 ? 1 : 0;
        }
        return "" + s.store[what];
    }

    private String sew(int seamstress, int coat) {
        if (noSeamstress(seamstress) || noCoat(coat)) {
            return BOUNDS;
        }
        int[] it = s.coats.get(coat);
        if (refused(packedAway(coat), sore(seamstress), why(it[1] == 0, 6, coat), hours(seamstress, 1), thread(1))) {
            return REFUSED;
        }
        spend(seamstress, 1, 1);
        return "" + --it[1];
    }

    private String spangle(int seamstress, int coat, int spangles) {
        if (noSeamstress(seamstress) || noCoat(coat)) {
            return BOUNDS;
        }
        if (spangles < 1 || spangles > 60) {
            return ILLEGAL;
        }
        int[] it = s.coats.get(coat);
        int hours = (int) Math.ceil(spangles / 10.0);
        int thread = (int) Math.ceil(spangles / 5.0);
        if (refused(packedAway(coat), sore(seamstress), why(it[2] < spangles, 8, it[2]),
            why(s.store[0] < spangles, 9, spangles - s.store[0]), hours(seamstress, hours), thread(thread))) {
            return REFUSED;
        }
        spend(seamstress, hours, thread);
        s.store[0] -= spangles;
        s.sewnOn += spangles;
        it[2] -= spangles;
        return "" + it[2];
    }

    private String letOut(int seamstress, int coat) {
        if (noSeamstress(seamstress) || noCoat(coat)) {
            return BOUNDS;
        }
        int[] it = s.coats.get(coat);
        if (refused(packedAway(coat), sore(seamstress), why(it[0] == 70, 10, 70), hours(seamstress, 2), thread(3))) {
            return REFUSED;
        }
        spend(seamstress, 2, 3);
        return "" + ++it[0];
    }

    private String tear(int panel) {
        if (panel < 0 || panel > 31) {
            return BOUNDS;
        }
        s.torn.add(panel);
        return "" + s.torn.size();
    }

    private String patch(int seamstress) {
        if (noSeamstress(seamstress)) {
            return BOUNDS;
        }
        if (refused(sore(seamstress), why(s.torn.isEmpty(), 11, 0), why(s.store[2] == 0, 12, 0),
            hours(seamstress, 1))) {
            return REFUSED;
        }
        spend(seamstress, 1, 0);
        s.store[2]--;
        return "" + s.torn.pollFirst();
    }

    private String torn(int panel) {
        Integer first = s.torn.ceiling(panel);
        return panel < 0 || panel > 31 ? BOUNDS : first == null ? NO_SUCH : "" + first;
    }

    private String trunk() {
        if (refused(why(s.trunks.size() == 4, 1, 4))) {
            return REFUSED;
        }
        s.trunks.add(new ArrayList<>());
        return "" + (s.trunks.size() - 1);
    }

    private String pack(int coat, int trunk) {
        if (noCoat(coat) || noTrunk(trunk)) {
            return BOUNDS;
        }
        List<Integer> into = s.trunks.get(trunk);
        if (refused(packedAway(coat), onTrain(trunk), why(into.size() == 5, 1, 5))) {
            return REFUSED;
        }
        into.add(coat);
        return "" + into.size();
    }

    private String unpack(int coat) {
        if (noCoat(coat)) {
            return BOUNDS;
        }
        int trunk = s.trunkOf(coat);
        if (refused(why(trunk < 0, 18, coat), onTrain(trunk))) {
            return REFUSED;
        }
        int place = s.trunks.get(trunk).indexOf(coat);
        s.trunks.get(trunk).remove(place);
        return "" + place;
    }

    private String load(int trunk) {
        if (noTrunk(trunk)) {
            return BOUNDS;
        }
        if (refused(onTrain(trunk))) {
            return REFUSED;
        }
        s.train.add(trunk);
        return "" + s.train.size();
    }

    private String unload() {
        return refused(why(s.train.isEmpty(), 17, 0)) ? REFUSED : "" + s.train.remove(0);
    }

    private String goOn(int act) {
        if (noAct(act)) {
            return BOUNDS;
        }
        int[] it = s.acts.get(act);
        int coat = it[2];
        if (refused(why(coat < 0, 13, act), packedAway(coat))) {
            return REFUSED;
        }
        if (refused(why(gap(coat, act) >= 0, 14, gap(coat, act)), why(s.torn.size() >= 9, 15, s.torn.size()))) {
            return REFUSED;
        }
        int[] worn = s.coats.get(coat);
        it[3]++;
        worn[3]++;
        if (worn[0] == it[0]) {
            rip(coat, 1);
        }
        return lose(coat, 4);
    }

    private String tightIn(int act) {
        if (noAct(act)) {
            return BOUNDS;
        }
        int[] it = s.acts.get(act);
        if (it[2] < 0) {
            return NO_SUCH;
        }
        int coat = s.coats.get(it[2])[0];
        int size = it[0];
        for (int days = 0; days < 1000; days++) {
            if (size > coat) {
                return "" + days;
            }
            size = (s.day + days + 1) % 7 == 0 ? Math.min(99, size + it[1]) : size;
        }
        return NO_SUCH;
    }

    private String pass(int days) {
        if (days < 1 || days > 60) {
            return ILLEGAL;
        }
        int grown = 0;
        for (int i = 0; i < days; i++) {
            for (int[] her : s.seamstresses) {
                her[0] = 8;
                her[1] = her[1] <= 2 ? 0 : her[1] - 2;
            }
            s.day++;
            for (int[] it : s.acts) {
                int was = it[0];
                it[0] = s.day % 7 == 0 ? Math.min(99, it[0] + it[1]) : it[0];
                grown += it[0] - was;
            }
        }
        return "" + grown;
    }

    private String append(char c) {
        if (input.length() == 60) {
            return STATE;
        }
        input += c;
        return "" + input.length();
    }

    private static int errorOf(String text) {
        if (TEXT.matcher(text).matches()) {
            return -1;
        }
        for (int end = 1; end <= text.length(); end++) {
            Matcher start = TEXT.matcher(text.substring(0, end));
            if (!start.matches() && !start.hitEnd()) {
                return end - 1;
            }
        }
        return text.length();
    }

    private String read() {
        String text = input;
        input = "";
        error = errorOf(text);
        if (error >= 0) {
            return ILLEGAL;
        }
        State before = s.copy();
        String[] orders = text.split(";");
        for (String order : orders) {
            String answer = order(order);
            if (!answer.matches("-?\\d+")) {
                s = before;
                return answer.equals(REFUSED) ? REFUSED : ILLEGAL;
            }
        }
        return "" + orders.length;
    }

    private String order(String order) {
        String[] numbers = order.substring(1).split("[@:>]");
        int a = order.length() == 1 ? 0 : Integer.parseInt(numbers[0]);
        int b = numbers.length == 1 ? 0 : Integer.parseInt(numbers[1]);
        switch (order.charAt(0)) {
            case 's': return sew(a, b);
            case 'w': return wear(a, b);
            case 'k': return pack(a, b);
            case 'l': return load(a);
            case 'u': return unload();
            case 'g': return goOn(a);
            default: return pass(a);
        }
    }

    private String meanThumb() {
        double sum = 0;
        for (int[] her : s.seamstresses) {
            sum += her[1];
        }
        return s.seamstresses.isEmpty() ? "ArithmeticException" : "" + sum / s.seamstresses.size();
    }

    private String undo() {
        if (past.isEmpty()) {
            return STATE;
        }
        s = past.removeLast();
        return "" + past.size();
    }

    private String save() {
        saved = s.copy();
        return "" + s.coats.size();
    }

    private String restore() {
        if (saved == null) {
            return STATE;
        }
        s = saved.copy();
        past.clear();
        return "" + s.coats.size();
    }

    /** What Check.print says of an object. */
    String print() {
        StringBuilder seen = new StringBuilder();
        int inTrunks = s.trunks.stream().mapToInt(List::size).sum();
        int rips = s.coats.stream().mapToInt(row -> row[1]).sum();
        int missing = s.coats.stream().mapToInt(row -> row[2]).sum();
        int shows = s.acts.stream().mapToInt(row -> row[3]).sum();
        int[] accounts = {s.day, s.coats.size(), s.acts.size(), s.seamstresses.size(), s.trunks.size(), s.train.size(),
            inTrunks, s.store[0], s.store[1], s.store[2], rips, missing, s.sewnOn, s.lost, s.brought, s.torn.size(),
            shows, 0};
        for (int account : accounts) {
            seen.append(account).append(' ');
        }
        seen.append(past.size()).append('\n');
        for (int coat = 0; coat < s.coats.size(); coat++) {
            int[] it = s.coats.get(coat);
            int act = s.actOf(coat);
            int trunk = s.trunkOf(coat);
            for (int number : new int[] {it[0], it[1], it[2], act, trunk, it[3]}) {
                seen.append(number).append(' ');
            }
            seen.append(trunk >= 0 ? 't' : it[1] > 0 ? 'r' : it[2] > 10 ? 's' : act >= 0 ? 'w' : 'c');
            seen.append(s.train.indexOf(trunk) + 1).append('\n');
        }
        for (int[] row : s.acts) {
            seen.append(row[0] + " " + row[1] + " " + row[2] + " " + row[3] + " \n");
        }
        for (int[] row : s.seamstresses) {
            seen.append(row[0] + " " + row[1] + " " + row[2] + " \n");
        }
        for (List<Integer> trunk : s.trunks) {
            places(seen, trunk, 5);
        }
        places(seen, s.train, 4);
        for (int panel = 0; panel < 32; panel++) {
            seen.append(s.torn.contains(panel) ? '#' : '.');
        }
        return seen.append(true).toString();
    }

    private static void places(StringBuilder seen, List<Integer> numbers, int places) {
        for (int place = 0; place < places; place++) {
            seen.append(place < numbers.size() ? "" + numbers.get(place) : NO_SUCH).append(' ');
        }
        seen.append('\n');
    }
}
