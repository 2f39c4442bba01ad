import java.lang.reflect.Constructor;
import java.lang.reflect.Field;
import java.lang.reflect.Method;
import java.lang.reflect.Modifier;
import java.nio.file.Files;
import java.nio.file.Path;
import java.util.ArrayList;
import java.util.Arrays;
import java.util.List;
import java.util.TreeSet;
import java.util.regex.Pattern;

/** The public face, and those rules of LANGUAGE.md that can be looked at from outside. */
public final class FaceTest {
    private static final String[] FACE = {
        "int type(int,int)", "int wipe(int)", "int undo(int)", "int fault(int)", "int order()", "int ahead(int,int)",
        "int term(int,int,int)", "int why(int)", "int basis(int,int,int)", "int size(int)", "int good(int)", "int cone(int)",
        "int outside(int)", "int within(int)", "int form(int,int)", "int made()", "int spare()", "int by(int,int)",
        "int shown(int,int)", "int sheet(int,int,int)", "int lose(int)", "int put(int,int,int,int)", "int get(int,int,int)",
        "int copy(int,int,int,int,int)", "int write(int)", "int read(int,int)", "int count(int)", "long digest()"};

    public static void main(String[] args) throws Exception {
        methods();
        fields();
        classes();
        source();
        Check.end();
    }

    private static void methods() {
        TreeSet<String> due = new TreeSet<>(Arrays.asList(FACE));
        TreeSet<String> found = new TreeSet<>();
        for (Method m : JanetCones.class.getDeclaredMethods()) {
            if (Modifier.isPrivate(m.getModifiers())) continue;
            List<String> types = new ArrayList<>();
            for (Class<?> t : m.getParameterTypes()) types.add(t.getName());
            found.add(m.getReturnType().getName() + " " + m.getName() + "(" + String.join(",", types) + ")");
            Check.yes(m.getName() + " is public", Modifier.isPublic(m.getModifiers()));
            Check.yes(m.getName() + " is no static one", !Modifier.isStatic(m.getModifiers()));
        }
        Check.same("the face", found.toString(), due.toString());
        Constructor<?>[] made = JanetCones.class.getDeclaredConstructors();
        Check.due("constructors", made.length, 1);
        Check.due("its parameters", made[0].getParameterCount(), 0);
        Check.yes("it is public", Modifier.isPublic(made[0].getModifiers()));
        int modifiers = JanetCones.class.getModifiers();
        Check.yes("the class is public and final", Modifier.isPublic(modifiers) && Modifier.isFinal(modifiers));
    }

    private static void fields() throws Exception {
        String[] names = {"NONE", "BAD", "NOT", "FULL"};
        for (int i = 0; i < 4; i++) Check.due(names[i], JanetCones.class.getDeclaredField(names[i]).getInt(null), -1 - i);
        for (Field f : JanetCones.class.getDeclaredFields()) {
            boolean isConstant = Arrays.asList(names).contains(f.getName());
            Check.yes(f.getName() + " is as it is to be", isConstant
                ? Modifier.isPublic(f.getModifiers()) : Modifier.isPrivate(f.getModifiers()));
        }
    }

    private static void classes() {
        TreeSet<String> faceNames = new TreeSet<>();
        for (String m : FACE) faceNames.add(m.substring(m.indexOf(' ') + 1, m.indexOf('(')));
        List<Class<?>> all = new ArrayList<>(Arrays.asList(JanetCones.class.getDeclaredClasses()));
        Check.yes("at most twelve classes", all.size() < 12);
        all.add(JanetCones.class);
        for (Class<?> c : all) {
            boolean inside = c != JanetCones.class;
            if (inside) Check.yes(c + " is static", Modifier.isStatic(c.getModifiers()));
            if (inside) Check.yes(c + " is not public", !Modifier.isPublic(c.getModifiers()));
            int own = 0;
            for (Field f : c.getDeclaredFields()) {
                if (Modifier.isStatic(f.getModifiers())) Check.yes(f + " is final", Modifier.isFinal(f.getModifiers()));
                else own++;
            }
            Check.yes(c + " has at most twenty fields", own <= 20);
            for (Method m : c.getDeclaredMethods()) {
                Check.yes(m + " has at most seven parameters", m.getParameterCount() <= 7);
                if (inside) Check.yes(m + " bears no name of the face", !faceNames.contains(m.getName()));
            }
        }
    }

    private static void source() throws Exception {
        String source = Files.readString(Path.of("src/main/java/JanetCones.java"));
        for (int i = 0; i < source.length(); i++) Check.yes("plain signs alone", source.charAt(i) < 128);
        String code = source.replaceAll("(?s)/\\*.*?\\*/", "").replaceAll("//[^\n]*", "");
        for (String word : new String[] {"throw", "throws", "try", "catch", "finally", "synchronized", "assert", "package",
            "import", "var", "protected", "volatile", "native", "Object", "Thread", "System\\.(?!arraycopy\\b)\\w+",
            "Random", "hashCode", "toString", "\\w+Exact"}) {
            Check.yes("no " + word, !Pattern.compile("\\b" + word + "\\b").matcher(code).find());
        }
        Check.yes("no lambda", !code.contains("->"));
        Check.yes("no method reference", !code.contains("::"));
        for (String line : source.split("\n")) Check.yes("a line of at most 130 signs: " + line, line.length() <= 130);
    }
}
