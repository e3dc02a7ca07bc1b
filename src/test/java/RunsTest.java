import java.io.IOException;
import java.lang.reflect.InvocationTargetException;
import java.lang.reflect.Method;
import java.nio.file.Files;
import java.nio.file.Path;
import java.util.HashMap;
import java.util.LinkedHashMap;
import java.util.List;
import java.util.Map;
import java.util.Set;
import java.util.regex.Matcher;
import java.util.regex.Pattern;

/**
 * The runs of src/test/runs/sentences.txt, and that of README.md. Besides what each call of them answers: every sentence
 * of the document stands there; a call that throws, or only tells, leaves no trace, neither now nor after any number of
 * calls of undo nor after restore; a change is undone whole; and only append, read and a refusal touch the input, the
 * error position and the reason.
 */
public final class RunsTest {
    private static final String RUNS = "src/test/runs/sentences.txt";
    private static final String DOCUMENT = "../shared/DOC.md";
    private static final String README = "README.md";
    private static final Pattern CALL_IN_README = Pattern.compile("    room\\.([^;]*);\\s*//\\s*(->.*)");
    private static final Pattern TEXT_IN_README =
        Pattern.compile("    for \\(char c : (\"[^\"]*\")\\.toCharArray\\(\\)\\) room\\.append\\(c\\);");
    private static final int MOST_CALLS = 512;
    private static final int MOST_UNDONE = 8;
    // The call that is looked at, those of undo, and the print.
    private static final int CALLS_TO_LOOK = 1 + MOST_UNDONE + Check.CALLS_OF_PRINT;
    // A step, and what it leaves of the input, the error position and the reason.
    private static final int CALLS_OF_STEP_TOLD = 5;
    private static final Set<String> CHANGES = Set.of("seamstress", "coat", "act", "wear", "rip", "lose", "bring", "sew",
        "spangle", "letOut", "tear", "patch", "trunk", "pack", "unpack", "load", "unload", "goOn", "pass", "read");
    private static final Set<String> OTHERS_THAT_ACT = Set.of("append", "undo", "save", "restore");
    private static final Map<String, Method> METHODS = new HashMap<>();

    public static void main(String[] args) throws IOException {
        for (Method method : CircusCoats.class.getMethods()) {
            METHODS.put(method.getName(), method);
        }
        Map<String, String> sections = sections(Files.readAllLines(Path.of(DOCUMENT)));
        String section = "";
        boolean isRunDue = false;
        for (String line : wholeLines()) {
            if (line.startsWith("## ")) {
                section = line;
            } else if (line.startsWith("> ") || line.startsWith("* ")) {
                needsRun(isRunDue);
                Check.part(section + ": " + line);
                strike(sections, section, line.substring(2));
                isRunDue = line.startsWith("> ");
            } else {
                isRunDue = false;
                play(new Run(line));
            }
        }
        needsRun(isRunDue);
        sections.forEach(RunsTest::nothingLeft);
        playReadme();
        Check.end();
    }

    /** The lines of Java in the README, each with the answer behind its arrow, as one run. */
    private static void playReadme() throws IOException {
        Check.part(README);
        StringBuilder run = new StringBuilder();
        for (String line : Files.readAllLines(Path.of(README))) {
            Matcher call = CALL_IN_README.matcher(line);
            Matcher text = TEXT_IN_README.matcher(line);
            if (call.matches()) {
                run.append(';').append(call.group(1)).append(call.group(2));
            } else if (text.matches()) {
                run.append(";append(").append(text.group(1)).append(')');
            } else {
                Check.is(line.startsWith("    room.") || line.startsWith("    for "), false);
            }
        }
        play(new Run(run.substring(1)));
    }

    private static void needsRun(boolean isRunDue) {
        if (isRunDue) {
            Check.report("the sentence has no run");
        }
    }

    /** The lines of the runs without comments, and those that go on with the one before joined to it. */
    private static List<String> wholeLines() throws IOException {
        String all = Files.readString(Path.of(RUNS)).replaceAll("\n +", " ");
        return all.lines().filter(line -> !line.isEmpty() && !line.startsWith("//")).toList();
    }

    /** The text under each heading of the second level, without the signs of the methods that open the promises. */
    private static Map<String, String> sections(List<String> lines) {
        Map<String, String> sections = new LinkedHashMap<>();
        String section = "";
        boolean isCode = false;
        for (String line : lines) {
            isCode ^= line.startsWith("```");
            if (line.startsWith("#")) {
                section = line;
                sections.put(section, "");
            } else if (!isCode && !line.startsWith("```")) {
                sections.put(section, sections.get(section) + " " + line.replaceFirst("^`[^`]*\\)[^`]*`:", ""));
            }
        }
        sections.replaceAll((heading, text) -> text.replaceAll("\\s+", " "));
        return sections;
    }

    private static void strike(Map<String, String> sections, String section, String sentence) {
        String text = sections.getOrDefault(section, "");
        int at = text.indexOf(sentence);
        if (at < 0) {
            Check.report("the document does not say it there");
        } else {
            sections.put(section, text.substring(0, at) + "|" + text.substring(at + sentence.length()));
        }
    }

    private static void nothingLeft(String section, String text) {
        Check.part(section + ": what the document says and the runs do not quote");
        Check.is(text.replaceAll("[|\\s-]+", " ").trim(), "");
    }

    private static void play(Run run) {
        List<Run.Step> steps = run.steps;
        Check.is(steps.size() <= MOST_CALLS, true);
        CircusCoats x = new CircusCoats();
        String told = told(x);
        boolean isTold = (steps.size() + 1) * CALLS_OF_STEP_TOLD <= MOST_CALLS;
        for (int i = 0; i < steps.size(); i++) {
            Run.Step step = steps.get(i);
            String got = outcome(x, step);
            if (step.due == null ? isThrown(got) : !step.due.equals(got)) {
                Check.report("call " + i + ", " + step + ", answered " + got + ", due is " + step.due);
                return;
            }
            if (isTold) {
                String toldNow = told(x);
                staysTold(step, got, told, toldNow);
                told = toldNow;
            }
            if (i + CALLS_TO_LOOK <= MOST_CALLS) {
                looks(steps, i, isThrown(got));
            }
        }
    }

    private static void looks(List<Run.Step> steps, int at, boolean isThrown) {
        String method = steps.get(at).method;
        if (CHANGES.contains(method) && !isThrown) {
            // The change forgets the eighth one before it, so that fewer can be undone after it is.
            Check.is(Check.withoutChanges(look(steps, at + 1, 1)), Check.withoutChanges(look(steps, at, 0)));
        } else if (isThrown || !OTHERS_THAT_ACT.contains(method)) {
            for (int undone = 0; undone <= MOST_UNDONE; undone++) {
                Check.is(look(steps, at + 1, undone), look(steps, at, undone));
            }
            Check.is(lookRestored(steps, at + 1), lookRestored(steps, at));
        }
    }

    private static CircusCoats after(List<Run.Step> steps, int many) {
        CircusCoats x = new CircusCoats();
        for (int i = 0; i < many; i++) {
            outcome(x, steps.get(i));
        }
        return x;
    }

    /** What is seen after some of the steps and some calls of undo, on an object of its own. */
    private static String look(List<Run.Step> steps, int many, int undone) {
        CircusCoats x = after(steps, many);
        for (int i = 0; i < undone; i++) {
            Check.outcome(() -> x.undo());
        }
        return Check.print(x);
    }

    private static String lookRestored(List<Run.Step> steps, int many) {
        CircusCoats x = after(steps, many);
        String answer = Check.outcome(() -> x.restore());
        return answer + Check.print(x);
    }

    private static String told(CircusCoats x) {
        return x.account(17) + " " + x.errorPosition() + " " + Check.outcome(() -> x.refusal(false)) + " "
            + Check.outcome(() -> x.refusal(true));
    }

    private static void staysTold(Run.Step step, String got, String before, String after) {
        String[] was = before.split(" ");
        String[] is = after.split(" ");
        if (step.method.equals("read")) {
            Check.is(is[0], "0");
        } else {
            Check.is(is[0], step.method.equals("append") && !isThrown(got) ? got : was[0]);
            Check.is(is[1], was[1]);
        }
        if (!got.equals("UnsupportedOperationException")) {
            Check.is(is[2] + is[3], was[2] + was[3]);
        }
    }

    private static boolean isThrown(String outcome) {
        return outcome.endsWith("Exception") || outcome.endsWith("Error");
    }

    private static String outcome(CircusCoats x, Run.Step step) {
        Method method = METHODS.get(step.method);
        if (method == null) {
            throw new IllegalStateException("no such method: " + step);
        }
        try {
            return String.valueOf(method.invoke(x, step.arguments()));
        } catch (InvocationTargetException e) {
            return e.getCause().getClass().getSimpleName();
        } catch (IllegalAccessException | IllegalArgumentException e) {
            throw new IllegalStateException("no such call: " + step);
        }
    }
}
