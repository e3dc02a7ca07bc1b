/** What the tests share: calls that are compared with what is due, and a print of all that an object shows. */
final class Check {
    interface Call {
        Object answer();
    }

    /** How many calls a print asks at the most. */
    static final int CALLS_OF_PRINT = 240;

    private static final int MOST_TOLD = 100;
    private static int wrong = 0;
    private static int checked = 0;
    private static String part = "";

    private Check() {
    }

    static void part(String name) {
        part = name;
    }

    static void is(Object answered, Object due) {
        checked++;
        if (!due.equals(answered)) {
            report("answered " + answered + ", due is " + due);
        }
    }

    /** What a call answers, or the name of what it throws. */
    static String outcome(Call call) {
        try {
            return String.valueOf(call.answer());
        } catch (RuntimeException e) {
            return e.getClass().getSimpleName();
        }
    }

    /** All that changes can change, and the changes that can be undone, but not the input. */
    static String print(CircusCoats x) {
        StringBuilder seen = new StringBuilder();
        for (int what = 0; what <= 18; what++) {
            seen.append(what == 17 ? 0 : x.account(what)).append(what == 18 ? '\n' : ' ');
        }
        for (int coat = 0; coat < x.account(1); coat++) {
            for (int what = 0; what <= 5; what++) {
                seen.append(x.coatOf(coat, what)).append(' ');
            }
            seen.append(x.sign(coat)).append(x.unloads(coat)).append('\n');
        }
        for (int act = 0; act < x.account(2); act++) {
            for (int what = 0; what <= 3; what++) {
                seen.append(x.actOf(act, what)).append(' ');
            }
            seen.append('\n');
        }
        for (int seamstress = 0; seamstress < x.account(3); seamstress++) {
            for (int what = 0; what <= 2; what++) {
                seen.append(x.seamstressOf(seamstress, what)).append(' ');
            }
            seen.append('\n');
        }
        printTrunks(x, seen);
        for (int panel = 0; panel < 32; panel++) {
            int from = panel;
            seen.append(outcome(() -> x.torn(from)).equals("" + panel) ? '#' : '.');
        }
        return seen.append(x.isWell()).toString();
    }

    /** The print without the number of changes that can be undone, the last of the accounts. */
    static String withoutChanges(String print) {
        int end = print.indexOf('\n');
        return print.substring(0, print.lastIndexOf(' ', end)) + print.substring(end);
    }

    private static void printTrunks(CircusCoats x, StringBuilder seen) {
        for (int trunk = 0; trunk < x.account(4); trunk++) {
            for (int place = 0; place < 5; place++) {
                int t = trunk;
                int p = place;
                seen.append(outcome(() -> x.packed(t, p))).append(' ');
            }
            seen.append('\n');
        }
        for (int place = 0; place < 4; place++) {
            int p = place;
            seen.append(outcome(() -> x.onTrain(p))).append(' ');
        }
        seen.append('\n');
    }

    static void report(String what) {
        wrong++;
        StackTraceElement[] lines = new Throwable().getStackTrace();
        String where = "";
        for (StackTraceElement line : lines) {
            if (!line.getClassName().equals("Check")) {
                where = line.toString();
                break;
            }
        }
        System.out.println(part + ": " + what + " at " + where);
        if (wrong >= MOST_TOLD) {
            end();
        }
    }

    static void end() {
        System.out.println(checked + " checks, " + wrong + " wrong");
        if (wrong != 0) {
            System.exit(1);
        }
    }
}
