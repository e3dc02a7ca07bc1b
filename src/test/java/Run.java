import java.util.ArrayList;
import java.util.Arrays;
import java.util.List;

/** A run of calls in the notation of the document's examples, as src/test/runs/sentences.txt tells it. */
final class Run {
    /** The calls of one run, each after the other. */
    final List<Step> steps = new ArrayList<>();
    private final String text;
    private int at = 0;

    Run(String text) {
        this.text = text;
        steps.addAll(list());
        if (at < text.length()) {
            throw new IllegalArgumentException("what is this, at " + at + ": " + text);
        }
    }

    private List<Step> list() {
        List<Step> all = new ArrayList<>();
        do {
            all.addAll(item());
        } while (takes(";"));
        return all;
    }

    private List<Step> item() {
        int times = 1;
        if (Character.isDigit(next())) {
            times = Integer.parseInt(word());
            needs("*");
        }
        List<Step> once;
        if (takes("(")) {
            once = list();
            needs(")");
        } else {
            once = call();
        }
        List<Step> all = new ArrayList<>();
        for (int i = 0; i < times; i++) {
            all.addAll(once);
        }
        return takes("->") ? due(all) : all;
    }

    private List<Step> call() {
        String method = word();
        List<Object> arguments = new ArrayList<>();
        needs("(");
        while (!takes(")")) {
            arguments.add(next() == '"' ? quoted() : number(word()));
            takes(",");
        }
        if (method.equals("append")) {
            return characters(arguments.get(0));
        }
        return List.of(new Step(method, arguments.toArray(), null));
    }

    private static List<Step> characters(Object argument) {
        List<Step> all = new ArrayList<>();
        String signs = argument instanceof Integer ? "" + (char) (int) (Integer) argument : (String) argument;
        for (char sign : signs.toCharArray()) {
            all.add(new Step("append", new Object[] {sign}, null));
        }
        return all;
    }

    private static Object number(String word) {
        switch (word) {
            case "MIN": return Integer.MIN_VALUE;
            case "MAX": return Integer.MAX_VALUE;
            case "true": return true;
            case "false": return false;
            default: return Integer.parseInt(word);
        }
    }

    /** The steps with what is due of the last one. */
    private List<Step> due(List<Step> all) {
        String due = word();
        Step last = all.remove(all.size() - 1);
        if (due.equals("refused")) {
            String reason = word();
            String detail = word();
            all.add(last.with("UnsupportedOperationException"));
            all.add(new Step("refusal", new Object[] {false}, reason));
            all.add(new Step("refusal", new Object[] {true}, detail));
        } else {
            all.add(last.with(due.equals("throws") ? word() : due));
        }
        return all;
    }

    private char next() {
        while (at < text.length() && text.charAt(at) == ' ') {
            at++;
        }
        return at < text.length() ? text.charAt(at) : ' ';
    }

    private boolean takes(String wanted) {
        next();
        boolean isThere = text.startsWith(wanted, at);
        at += isThere ? wanted.length() : 0;
        return isThere;
    }

    private void needs(String wanted) {
        if (!takes(wanted)) {
            throw new IllegalArgumentException(wanted + " is missing at " + at + ": " + text);
        }
    }

    /** A name or a number, whole or with a point. */
    private String word() {
        next();
        int start = at;
        while (at < text.length() && (Character.isLetterOrDigit(text.charAt(at)) || ".-".indexOf(text.charAt(at)) >= 0)) {
            at++;
        }
        return text.substring(start, at);
    }

    private String quoted() {
        needs("\"");
        int end = text.indexOf('"', at);
        String inside = text.substring(at, end);
        at = end + 1;
        return inside;
    }

    /** A call, with what it must answer or throw; without it (null), it may answer anything, but throws nothing. */
    static final class Step {
        final String method;
        final String due;
        private final Object[] arguments;

        Step(String method, Object[] arguments, String due) {
            this.method = method;
            this.arguments = arguments;
            this.due = due;
        }

        Step with(String due) {
            return new Step(method, arguments, due);
        }

        Object[] arguments() {
            return arguments.clone();
        }

        @Override
        public String toString() {
            return method + Arrays.toString(arguments);
        }
    }
}
