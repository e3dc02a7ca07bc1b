/** A long run of calls by fixed pseudo-random numbers, each made on an object and on the model. */
final class Walk {
    static final int COAT = 0;
    static final int ACT = 1;
    static final int WEAR = 2;
    static final int RIP = 3;
    static final int LOSE = 4;
    static final int SEAMSTRESS = 5;
    static final int BRING = 6;
    static final int SEW = 7;
    static final int SPANGLE = 8;
    static final int LET_OUT = 9;
    static final int TEAR = 10;
    static final int PATCH = 11;
    static final int TRUNK = 12;
    static final int PACK = 13;
    static final int UNPACK = 14;
    static final int LOAD = 15;
    static final int UNLOAD = 16;
    static final int GO_ON = 17;
    static final int PASS = 18;
    static final int READ = 19;
    static final int LAST_CHANGE = READ;
    static final int UNDO = 20;
    static final int SAVE = 21;
    static final int RESTORE = 22;
    static final int APPEND = 23;
    static final int OPEN = 24;
    static final int BEST = 25;
    static final int WORK = 26;
    static final int WORK_AGAIN = 27;
    static final int TORN = 28;
    static final int TIGHT_IN = 29;
    static final int ERROR_POSITION = 30;
    static final int REFUSAL = 31;
    static final int MEAN_THUMB = 32;
    static final int TORN_SHARE = 33;
    static final int METHODS = 34;

    private static final int MOST_CALLS = 512;
    // A refused call asks for its reason and detail.
    private static final int CALLS_AFTER_THE_LAST = 2;
    private static final int LONGEST_TEXT = 80;
    private static final int[] SETTING_UP = {COAT, COAT, ACT, COAT, SEAMSTRESS, TRUNK, WEAR};
    private static final int[][] MOODS = {
        {RIP, LOSE, SEW, SEW, SPANGLE, SPANGLE, LET_OUT, PASS, PATCH, TEAR, BRING, WORK, WORK_AGAIN},
        {PACK, PACK, UNPACK, UNPACK, LOAD, UNLOAD, UNLOAD, WEAR, TRUNK, BEST},
        {GO_ON, GO_ON, GO_ON, WEAR, SEW, SPANGLE, PASS, BEST, TIGHT_IN, TIGHT_IN, LET_OUT, WORK},
        {LOSE, LOSE, LOSE, SPANGLE, SPANGLE, SPANGLE, PASS},
        {LET_OUT, LET_OUT, PASS, BRING, BRING, BRING},
        {TEAR, TEAR, PATCH, PASS},
        {TEAR, GO_ON, WEAR, SEW, SPANGLE, PASS},
        {RIP, SEW, SEW, SEW, SEW, SEW, LOSE, SPANGLE, PATCH, TEAR},
        {COAT, COAT, COAT, ACT, ACT, SEAMSTRESS, TRUNK, WEAR, RIP, LOSE},
        {COAT, PACK, PACK, PACK, PACK, PACK, PACK, TRUNK, LOAD, UNLOAD},
    };

    private final CircusCoats x = new CircusCoats();
    private final Model model = new Model();
    private final StringBuilder story = new StringBuilder();
    private final int[] reached;
    private long seed;
    private int made = 0;

    Walk(long seed, int[] reached) {
        this.seed = seed;
        this.reached = reached;
    }

    /** Whether object and model agree in each answer, and at last, where calls enough are left, in all that is seen. */
    boolean agrees() {
        boolean isSingleMinded = below(2) == 0;
        int calls = 1 + below(MOST_CALLS - CALLS_AFTER_THE_LAST);
        int mood = below(MOODS.length);
        for (int i = 0; i < 20 && isSingleMinded; i++) {
            if (!makes(SETTING_UP[i % SETTING_UP.length])) {
                return false;
            }
        }
        while (made < calls) {
            if (!isSingleMinded && below(12) == 0) {
                mood = below(MOODS.length);
            }
            boolean isAny = below(isSingleMinded ? 100 : 3) == 0;
            int[] methods = MOODS[mood];
            boolean isText = below(isSingleMinded ? 50 : 9) == 0 && made + LONGEST_TEXT < calls;
            boolean same = isText ? readsText() : makes(isAny ? below(METHODS) : methods[below(methods.length)]);
            if (!same) {
                return false;
            }
        }
        return made + Check.CALLS_OF_PRINT > MOST_CALLS || looksTheSame();
    }

    private boolean looksTheSame() {
        String seen = Check.print(x);
        String due = model.print();
        story.append(seen).append("\nin the model\n").append(due).append('\n');
        return seen.equals(due);
    }

    String story() {
        return story.toString();
    }

    private boolean makes(int method) {
        int a = first(method);
        int b = second(method);
        int c = 1 + below(below(20) == 0 ? 62 : 25);
        return calls(method, a, b, c);
    }

    private boolean calls(int method, int a, int b, int c) {
        String due = model.call(method, a, b, c);
        String got = Check.outcome(() -> answer(method, a, b, c));
        made++;
        story.append(method).append('(').append(a).append(", ").append(b).append(", ").append(c).append(") -> ");
        story.append(got).append(", in the model ").append(due).append('\n');
        if (!got.equals(due)) {
            return false;
        }
        return !got.equals(Model.REFUSED) || sameReason(method);
    }

    private boolean sameReason(int method) {
        reached[model.reason()] |= 1 << method;
        return calls(REFUSAL, 0, 0, 0) && calls(REFUSAL, 1, 0, 0);
    }

    private int first(int method) {
        switch (method) {
            case COAT: case ACT: return 29 + below(34);
            case WEAR: case GO_ON: case TIGHT_IN: case BEST: return below(40) == 0 ? below(10) - 2 : below(6);
            case RIP: case LOSE: case PACK: case UNPACK: case OPEN: case WORK: case WORK_AGAIN: return someCoat();
            case BRING: return below(20) == 0 ? below(6) - 2 : below(3);
            case SEW: case SPANGLE: case LET_OUT: case PATCH: return below(40) == 0 ? below(7) - 1 : below(2);
            case TEAR: case TORN: return below(20) == 0 ? below(40) - 4 : below(32);
            case LOAD: return below(20) == 0 ? below(7) - 1 : below(4);
            case PASS: return below(4) == 0 ? below(63) : 1 + below(2);
            case APPEND: return "swklugp;@:>0123456789x".charAt(below(22));
            case REFUSAL: return below(2);
            default: return 0;
        }
    }

    private int second(int method) {
        switch (method) {
            case ACT: return below(6) - 1;
            case WEAR: case SEW: case SPANGLE: case LET_OUT: return someCoat();
            case RIP: return below(12);
            case LOSE: return below(65);
            case PACK: return below(20) == 0 ? below(7) - 1 : below(2 + below(3));
            case BRING: return below(4) == 0 ? below(103) : 1 + below(3);
            case OPEN: case WORK: case WORK_AGAIN: return below(20) == 0 ? below(9) - 1 : below(6);
            default: return 0;
        }
    }

    private int someCoat() {
        return below(30) == 0 ? below(15) - 1 : below(5) == 0 ? below(12) : below(6);
    }

    private boolean readsText() {
        StringBuilder text = new StringBuilder();
        int orders = 1 + below(below(4) == 0 ? 12 : 3); // of at most 5 characters and a semicolon
        for (int i = 0; i < orders; i++) {
            text.append(i > 0 ? ";" : "").append(order());
        }
        for (int i = below(10) == 0 ? 1 + below(2) : 0; i > 0; i--) {
            text.setCharAt(below(text.length()), "swklugp;@:>0123456789x".charAt(below(22)));
        }
        for (int i = 0; i < text.length(); i++) {
            if (!calls(APPEND, text.charAt(i), 0, 0)) {
                return false;
            }
        }
        return calls(READ, 0, 0, 0) && calls(ERROR_POSITION, 0, 0, 0);
    }

    private String order() {
        String coat = (below(5) == 0 ? "0" : "") + below(below(10) == 0 ? 14 : 6);
        switch (below(7)) {
            case 0: return "s" + below(3) + "@" + coat;
            case 1: return "w" + below(6) + ":" + coat;
            case 2: return "k" + coat + ">" + below(2 + below(3));
            case 3: return "l" + below(4);
            case 4: return "u";
            case 5: return "g" + below(6);
            default: return "p" + (below(12) == 0 ? below(65) : 1 + below(4));
        }
    }

    private Object answer(int method, int a, int b, int c) {
        switch (method) {
            case COAT: return x.coat(a);
            case ACT: return x.act(a, b);
            case WEAR: return x.wear(a, b);
            case RIP: return x.rip(a, b);
            case LOSE: return x.lose(a, b);
            case SEAMSTRESS: return x.seamstress();
            case BRING: return x.bring(a, b);
            case SEW: return x.sew(a, b);
            case SPANGLE: return x.spangle(a, b, c);
            case LET_OUT: return x.letOut(a, b);
            case TEAR: return x.tear(a);
            case PATCH: return x.patch(a);
            case TRUNK: return x.trunk();
            case PACK: return x.pack(a, b);
            case UNPACK: return x.unpack(a);
            case LOAD: return x.load(a);
            case UNLOAD: return x.unload();
            case GO_ON: return x.goOn(a);
            case PASS: return x.pass(a);
            case READ: return x.read();
            case UNDO: return x.undo();
            case SAVE: return x.save();
            case RESTORE: return x.restore();
            case APPEND: return x.append((char) a);
            default: return question(method, a, b);
        }
    }

    private Object question(int method, int a, int b) {
        switch (method) {
            case OPEN: return x.open(a, b);
            case BEST: return x.best(a);
            case WORK: return x.work(a, b);
            case WORK_AGAIN: return x.workAgain(a, b);
            case TORN: return x.torn(a);
            case TIGHT_IN: return x.tightIn(a);
            case ERROR_POSITION: return x.errorPosition();
            case REFUSAL: return x.refusal(a == 1);
            case MEAN_THUMB: return x.meanThumb();
            case TORN_SHARE: return x.tornShare();
            default: return "no such method";
        }
    }

    private int below(int bound) {
        seed = seed * 6364136223846793005L + 1442695040888963407L;
        return (int) ((seed >>> 33) % bound);
    }
}
