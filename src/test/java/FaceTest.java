import java.io.IOException;
import java.lang.reflect.Constructor;
import java.lang.reflect.Field;
import java.lang.reflect.Method;
import java.lang.reflect.Modifier;
import java.nio.file.Files;
import java.nio.file.Path;
import java.util.ArrayList;
import java.util.List;
import java.util.Set;
import java.util.TreeSet;
import java.util.regex.Matcher;
import java.util.regex.Pattern;

/** The public face, and those rules of LANGUAGE.md that can be seen from the text; it is run in the project's folder. */
public final class FaceTest {
    private static final Due DUE = new Due("FaceTest");
    private static final String SOURCE = "src/main/java/StateWear.java";

    public static void main(String[] args) throws IOException {
        constants();
        methods();
        nothingElseIsSeen();
        words(Files.readString(Path.of(SOURCE)));
        DUE.end();
    }

    private static void constants() {
        DUE.due("NONE", StateWear.NONE, -1);
        DUE.due("BAD", StateWear.BAD, -2);
        DUE.due("NO", StateWear.NO, -3);
        DUE.due("FULL", StateWear.FULL, -4);
        DUE.due("SPENT", StateWear.SPENT, -5);
    }

    private static void methods() {
        Set<String> due = new TreeSet<>(List.of("int kind(int,int)", "int heir(int,int)", "int use(int,int,int,int,int)",
                "int drop(int,int,int)", "int ends(int,int)", "int leads(int,int,int,boolean)", "int fits(int,int)",
                "int parts()", "int routine()", "int statement(int,int,int,int)", "int cut(int)",
                "int told(int,int,int)", "int open(int)", "int judge()", "int wrong(int,int)", "int may(int,int,int)",
                "int one(int,int,int,int)", "int paper(int,boolean,int,int)", "int count(int)", "int run(long,int)",
                "int ended(int)", "int breaks(int)", "long digest()"));
        Set<String> names = new TreeSet<>();
        for (Method m : StateWear.class.getDeclaredMethods()) {
            if (!Modifier.isPublic(m.getModifiers())) continue;
            names.add(m.getName());
            List<String> types = new ArrayList<>();
            for (Class<?> type : m.getParameterTypes()) types.add(type.getName());
            String face = m.getReturnType().getName() + " " + m.getName() + "(" + String.join(",", types) + ")";
            DUE.holds("the document has " + face, due.remove(face));
        }
        DUE.holds("no method is lacking: " + due, due.isEmpty());
        for (Class<?> inside : StateWear.class.getDeclaredClasses()) {
            for (Method m : inside.getDeclaredMethods()) {
                DUE.holds(inside.getName() + "." + m.getName() + " has a name of its own", !names.contains(m.getName()));
            }
        }
    }

    private static void nothingElseIsSeen() {
        DUE.holds("the class is public and final", Modifier.isPublic(StateWear.class.getModifiers())
                && Modifier.isFinal(StateWear.class.getModifiers()));
        for (Method m : StateWear.class.getDeclaredMethods()) {
            DUE.holds(m + " is public or private", isPublicOrPrivate(m.getModifiers()));
        }
        int constants = 0;
        for (Field f : StateWear.class.getDeclaredFields()) {
            if (Modifier.isPublic(f.getModifiers())) constants++;
            DUE.holds(f + " is public or private", isPublicOrPrivate(f.getModifiers()));
        }
        DUE.due("public constants", constants, 5);
        Constructor<?>[] makers = StateWear.class.getDeclaredConstructors();
        DUE.due("constructors", makers.length, 1);
        DUE.holds("it is public", Modifier.isPublic(makers[0].getModifiers()) && makers[0].getParameterCount() == 0);
        Class<?>[] inside = StateWear.class.getDeclaredClasses();
        DUE.holds("there are at most twelve classes", inside.length <= 11);
        for (Class<?> c : inside) seeInside(c);
    }

    private static boolean isPublicOrPrivate(int modifiers) {
        return Modifier.isPublic(modifiers) || Modifier.isPrivate(modifiers);
    }

    private static void seeInside(Class<?> c) {
        DUE.holds(c + " is private and static",
                Modifier.isPrivate(c.getModifiers()) && Modifier.isStatic(c.getModifiers()));
        int fields = 0;
        for (Field f : c.getDeclaredFields()) {
            if (!Modifier.isStatic(f.getModifiers())) fields++;
            DUE.holds(f + ", static, is final", !Modifier.isStatic(f.getModifiers()) || Modifier.isFinal(f.getModifiers()));
        }
        DUE.holds(c + " has at most twenty fields", fields <= 20);
        for (Method m : c.getDeclaredMethods()) DUE.holds(m + " takes at most seven", m.getParameterCount() <= 7);
    }

    private static void words(String text) {
        String code = text.replaceAll("(?s)/\\*.*?\\*/", " ").replaceAll("//[^\n]*", " ");
        String[] never = {"throw", "throws", "try", "catch", "finally", "synchronized", "assert", "instanceof", "Exact",
            "protected", "package", "Exception", "System\\.(?!arraycopy)", "Object", "HashMap", "double", "float"};
        for (String word : never) {
            DUE.holds("'" + word + "' is not used", !Pattern.compile("\\b" + word + "\\b").matcher(code).find());
        }
        DUE.holds("there is no lambda or method reference", !code.contains("->") && !code.contains("::"));
        Matcher imports = Pattern.compile("import ([^;]*);").matcher(code);
        while (imports.find()) DUE.due("import " + imports.group(1), imports.group(1).equals("java.util.Arrays") ? 1 : 0, 1);
        for (int i = 0; i < text.length(); i++) {
            if (text.charAt(i) > 126) DUE.holds("the text is plain at " + i, false);
        }
    }
}
