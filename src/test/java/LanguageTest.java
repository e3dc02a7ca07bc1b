import java.io.IOException;
import java.lang.reflect.Constructor;
import java.lang.reflect.Field;
import java.lang.reflect.Method;
import java.lang.reflect.Modifier;
import java.nio.file.Files;
import java.nio.file.Path;
import java.util.Set;
import java.util.TreeSet;
import java.util.regex.Matcher;
import java.util.regex.Pattern;

/** The face as the document has it, and what of ../shared/LANGUAGE.md can be seen without reading. */
public final class LanguageTest {
    private static final String[] FACE = {
        "int coat(int)", "int act(int,int)", "int wear(int,int)", "int rip(int,int)", "int lose(int,int)",
        "int coatOf(int,int)", "int actOf(int,int)", "boolean open(int,int)", "int best(int)", "int work(int,int)",
        "int workAgain(int,int)", "int seamstress()", "int seamstressOf(int,int)", "int bring(int,int)",
        "int sew(int,int)", "int spangle(int,int,int)", "int letOut(int,int)", "int tear(int)", "int patch(int)",
        "int torn(int)", "int trunk()", "int pack(int,int)", "int unpack(int)", "int packed(int,int)", "int load(int)",
        "int unload()", "int onTrain(int)", "int unloads(int)", "int goOn(int)", "int tightIn(int)", "int pass(int)",
        "int append(char)", "int read()", "int errorPosition()", "int refusal(boolean)", "char sign(int)",
        "int account(int)", "boolean isWell()", "double meanThumb()", "float tornShare()", "int undo()", "int save()",
        "int restore()"};
    private static final String[] UNWANTED = {
        "catch", "finally", "synchronized", "assert", "instanceof", "->", "::", "System", "Object", "Exact",
        "import static", "package", "extends", "implements", "equals", "hashCode", "toString", "volatile", "native", "transient"};

    public static void main(String[] args) throws IOException {
        face();
        classesInside();
        source();
        Check.end();
    }

    private static void face() {
        Check.part("rule 1, the face");
        Class<?> it = CircusCoats.class;
        Set<String> open = new TreeSet<>();
        Set<String> names = new TreeSet<>();
        for (Method method : it.getDeclaredMethods()) {
            if (!Modifier.isPrivate(method.getModifiers())) {
                String whole = method.toString().replace("CircusCoats.", "").replaceFirst(" throws .*", "");
                open.add(whole.replaceFirst("public ", ""));
                names.add(method.getName());
            }
        }
        Check.is(open, new TreeSet<>(Set.of(FACE)));
        for (Field field : it.getDeclaredFields()) {
            Check.is(Modifier.isPrivate(field.getModifiers()), true);
        }
        Check.is(it.getDeclaredConstructors().length, 1);
        Check.is(it.getModifiers(), Modifier.PUBLIC | Modifier.FINAL);
        noSameNames(it, names);
        for (Class<?> inside : it.getDeclaredClasses()) {
            noSameNames(inside, names);
        }
    }

    private static void noSameNames(Class<?> it, Set<String> names) {
        for (Method method : it.getDeclaredMethods()) {
            boolean isFace = it == CircusCoats.class && !Modifier.isPrivate(method.getModifiers());
            if (!isFace && names.contains(method.getName())) {
                Check.report(it + " has a method with the name of the face: " + method.getName());
            }
        }
    }

    private static void classesInside() {
        Check.part("rules 2, 5 and 11, the classes inside");
        Class<?>[] inside = CircusCoats.class.getDeclaredClasses();
        Check.is(inside.length < 12, true);
        for (Class<?> it : inside) {
            Check.is(Modifier.isPrivate(it.getModifiers()) && Modifier.isStatic(it.getModifiers()), true);
            shape(it);
        }
        shape(CircusCoats.class);
    }

    private static void shape(Class<?> it) {
        int own = 0;
        for (Field field : it.getDeclaredFields()) {
            boolean isStatic = Modifier.isStatic(field.getModifiers());
            own += isStatic ? 0 : 1;
            Check.is(!isStatic || Modifier.isFinal(field.getModifiers()) && field.getType().isPrimitive(), true);
        }
        Check.is(own <= 20, true);
        for (Method method : it.getDeclaredMethods()) {
            Check.is(method.getParameterCount() <= 7, true);
        }
        for (Constructor<?> constructor : it.getDeclaredConstructors()) {
            Check.is(constructor.getParameterCount() <= 7, true);
        }
    }

    private static void source() throws IOException {
        Check.part("rules 1 to 13, the source");
        String source = Files.readString(Path.of("src/main/java/CircusCoats.java"));
        Check.is(source.chars().allMatch(c -> c == '\n' || c >= ' ' && c < 127), true);
        String code = source.replaceAll("(?s)/\\*.*?\\*/", "").replaceAll("//[^\n]*", "");
        code = code.replaceAll("\"[^\"\n]*\"", "\"\"");
        for (String word : UNWANTED) {
            String edge = Character.isLetter(word.charAt(0)) ? "\\b" : "";
            if (Pattern.compile(edge + word + edge).matcher(code).find()) {
                Check.report("the source has " + word);
            }
        }
        Matcher imports = Pattern.compile("(?m)^import .*$").matcher(code);
        Check.is(imports.find(), true);
        Check.is(imports.group(), "import java.util.NoSuchElementException;");
        Check.is(imports.find(), false);
        Matcher maths = Pattern.compile("Math\\.(\\w+)").matcher(code);
        while (maths.find()) {
            Check.is(Set.of("min", "max").contains(maths.group(1)), true);
        }
        methodLengths(source);
    }

    private static void methodLengths(String source) {
        int length = 0;
        for (String line : source.split("\n")) {
            boolean isStart = line.matches(" {4}( {4})?\\w[^=;]*\\) ?(throws [\\w, ]+)?\\{?");
            boolean isEnd = line.matches(" {4}( {4})?\\}");
            length = isStart ? 1 : length + 1;
            if (isEnd && length > 60) {
                // The end of a class inside counts from the start of its last method, which is short too.
                Check.report("a method has " + length + " lines");
            }
        }
    }
}
