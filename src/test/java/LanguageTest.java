import java.lang.reflect.Field;
import java.lang.reflect.Member;
import java.lang.reflect.Method;
import java.lang.reflect.Modifier;
import java.nio.file.Files;
import java.nio.file.Path;
import java.util.ArrayList;
import java.util.Arrays;
import java.util.List;
import java.util.Set;
import java.util.TreeSet;
import java.util.regex.Matcher;
import java.util.regex.Pattern;

/** The rules of LANGUAGE.md that can be seen from the text of the class or from its face. */
public final class LanguageTest {
    private static final Checks c = new Checks();
    private static final String[] NEVER = {
        "\\bthrow\\b", "\\btry\\b", "\\bcatch\\b", "\\bsynchronized\\b", "\\bassert\\b", "\\bimport\\b", "\\bpackage\\b",
        "->", "::", "\\bSystem\\.(?!arraycopy\\b)", "\\bThread\\b", "\\bRandom\\b", "\\bwhile\\s*\\(\\s*true", "Exact\\b",
        "\\bhashCode\\b", "\\btoString\\b", "\\bprotected\\b", "\\bvar\\b", "\\bObject\\b", "\\bstatic\\s*\\{",
    };
    private static final Set<String> FACE = new TreeSet<>(Arrays.asList(
        "letter(int):int", "blank():int", "fault():int", "piece():int", "bar(int,int):int", "player(int,int):int",
        "about(int,int):int", "as(int,int):int", "coffee(int):int", "tire(int,int):int", "play():int", "again():int",
        "hearing(int):int", "cups(int):int", "order(int):int", "tell(int,int):int", "forget():int", "guess(int):int",
        "listen(int):int", "draughts(int,int,int):int", "image():int", "restore():int", "count(int):int", "digest():long",
        "NONE", "UNKNOWN", "OUTSIDE", "STATE", "FULL"));

    public static void main(String[] args) throws Exception {
        String text = Files.readString(Path.of("src/main/java/QuartetNods.java"));
        String code = text.replaceAll("(?s)/\\*.*?\\*/", "").replaceAll("//[^\\n]*", "");
        for (String never : NEVER) {
            Matcher found = Pattern.compile(never).matcher(code);
            c.due("'" + never + "' stands in the class", found.find() ? 1 : 0, 0);
        }
        face();
        noNameTwice();
        sizes();
        shortMethods(code.split("\\n"));
        madeInConstructors(code.split("\\n"));
        c.end();
    }

    private static void face() {
        Class<?> k = QuartetNods.class;
        c.due("the class is public and final", k.getModifiers(), Modifier.PUBLIC | Modifier.FINAL);
        c.due("constructors", k.getDeclaredConstructors().length, 1);
        c.due("it is public", k.getDeclaredConstructors()[0].getModifiers(), Modifier.PUBLIC);
        Set<String> seen = new TreeSet<>();
        for (Method m : k.getDeclaredMethods()) {
            if (isSeen(m)) {
                String args = Arrays.toString(m.getParameterTypes()).replaceAll("[\\[\\] ]", "");
                seen.add(m.getName() + "(" + args + "):" + m.getReturnType());
            }
        }
        for (Member f : k.getDeclaredFields()) {
            if (isSeen(f)) {
                seen.add(f.getName());
            }
        }
        c.due("the face is that of the document: " + seen, seen.equals(FACE) ? 1 : 0, 1);
        for (Class<?> inside : k.getDeclaredClasses()) {
            c.due(inside + " is static", inside.getModifiers() & Modifier.STATIC, Modifier.STATIC);
        }
    }

    private static boolean isSeen(Member m) {
        return !Modifier.isPrivate(m.getModifiers()) && !m.isSynthetic();
    }

    private static void noNameTwice() {
        Set<String> names = new TreeSet<>();
        for (Method m : QuartetNods.class.getDeclaredMethods()) {
            c.due("two methods are named " + m.getName(), names.add(m.getName()) ? 0 : 1, 0);
        }
        for (Class<?> inside : QuartetNods.class.getDeclaredClasses()) {
            for (Method m : inside.getDeclaredMethods()) {
                boolean ofFace = FACE.toString().contains(" " + m.getName() + "(");
                c.due(inside + "." + m.getName() + " is named as one of the face", ofFace ? 1 : 0, 0);
            }
        }
    }

    private static List<Class<?>> classes() {
        List<Class<?>> all = new ArrayList<>(Arrays.asList(QuartetNods.class.getDeclaredClasses()));
        all.add(QuartetNods.class);
        return all;
    }

    /** Rules 5 and 11. */
    private static void sizes() {
        c.due("more than 12 classes", classes().size() > 12 ? 1 : 0, 0);
        for (Class<?> k : classes()) {
            int fields = 0;
            for (Field f : k.getDeclaredFields()) {
                boolean isStatic = Modifier.isStatic(f.getModifiers());
                fields += isStatic ? 0 : 1;
                c.due(f + " is static and not final", isStatic && !Modifier.isFinal(f.getModifiers()) ? 1 : 0, 0);
            }
            c.due(k + " has more than 20 fields", fields > 20 ? 1 : 0, 0);
            for (Method m : k.getDeclaredMethods()) {
                c.due(m + " takes more than seven", m.getParameterCount() > 7 ? 1 : 0, 0);
            }
        }
    }

    /** Rule 11: a method ends with the next brace that stands as far in as its head does. */
    private static void shortMethods(String[] lines) {
        Pattern head = Pattern.compile("^( +)(?:[\\w\\[\\]]+ )*\\w+\\([^;=]*\\) \\{$");
        int seen = 0;
        for (int i = 0; i < lines.length; i++) {
            Matcher found = head.matcher(lines[i]);
            if (found.find() && !lines[i].matches(" *(if|for|while|switch) .*")) {
                int last = i;
                while (last < lines.length && !lines[last].equals(found.group(1) + "}")) {
                    last++;
                }
                seen++;
                c.due("longer than 60 lines: " + lines[i].trim(), last - i > 60 ? 1 : 0, 0);
            }
        }
        c.due("methods were seen", seen > 24 ? 1 : 0, 1);
    }

    /** Rule 12, and the one room of a run: what is made is made with the object, so that no call makes anything. */
    private static void madeInConstructors(String[] lines) {
        int constructor = Arrays.asList(lines).indexOf("    public QuartetNods() {");
        int end = Arrays.asList(lines).subList(Math.max(constructor, 0), lines.length).indexOf("    }") + constructor;
        for (int i = 0; i < lines.length; i++) {
            boolean makes = lines[i].matches(".*(\\bnew\\b|\\bclone\\(|\\bcopyOf|\\bsubstring\\(|\\bvalues\\().*");
            boolean withObject = i > constructor && i < end || lines[i].matches(" +(private )?final [\\w\\[\\]]+ \\w+ = new .*");
            c.due("a call makes something: " + lines[i].trim(), makes && !withObject ? 1 : 0, 0);
        }
    }
}
