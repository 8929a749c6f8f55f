import java.lang.reflect.Constructor;
import java.lang.reflect.Field;
import java.lang.reflect.Method;
import java.lang.reflect.Modifier;
import java.nio.file.Files;
import java.nio.file.Path;
import java.util.Arrays;
import java.util.Set;
import java.util.TreeSet;
import java.util.regex.Matcher;
import java.util.regex.Pattern;

/** The face that the document tells, and of LANGUAGE.md what can be seen from the source and the classes. */
public final class LanguageTest {
    private static final Due DUE = new Due("LanguageTest");
    private static final String FACE = "bidder(int,int,boolean)int book(int,int)int clue(int,boolean)int coin(int)int "
        + "days(int)int end(int)boolean every(int)int fault(int)int feed(int,int,int,int,int)int game(int)int "
        + "give(int,int,int)boolean goes(int,int)int halves(int)int image(boolean)boolean inside(int,int)int "
        + "length(int)int look(int)int of(int,int)int parcel(int,int,int)int pay(int,int)boolean pays(int,int)int "
        + "police(int)int put(int,int)int puts(int)int rank(int,int)boolean sell(int)int set(int,int,int)boolean "
        + "settle(int)int shill(int,int,int)int state(int)int strings(int,int)int swaps(int)int text(int)int "
        + "undo()boolean weighs(int,int)boolean which(int)int who(int,int)int wishes(int)int would(int,int)int";

    private LanguageTest() {
    }

    public static void main(String[] args) throws Exception {
        face();
        classes();
        source(Files.readString(Path.of(System.getProperty("source", "src/main/java/MockParcels.java"))));
        DUE.end();
    }

    private static void face() {
        Class<?> c = MockParcels.class;
        DUE.is("public and final", Modifier.isPublic(c.getModifiers()) && Modifier.isFinal(c.getModifiers()), true);
        Set<String> methods = new TreeSet<>();
        Set<String> names = new TreeSet<>();
        for (Method m : c.getDeclaredMethods()) {
            if (Modifier.isPublic(m.getModifiers())) {
                StringBuilder t = new StringBuilder();
                for (Class<?> p : m.getParameterTypes()) {
                    t.append(t.length() == 0 ? "" : ",").append(p.getName());
                }
                methods.add(m.getName() + "(" + t + ")" + m.getReturnType().getName());
                names.add(m.getName());
            }
        }
        DUE.is("the face: " + methods, methods.equals(new TreeSet<>(Arrays.asList(FACE.split(" ")))), true);
        for (Method m : c.getDeclaredMethods()) {
            if (!Modifier.isPublic(m.getModifiers()) && !m.isSynthetic()) {
                DUE.is("private: " + m.getName(), Modifier.isPrivate(m.getModifiers()), true);
                DUE.is("no public one's name: " + m.getName(), names.contains(m.getName()), false);
            }
        }
        for (Field f : c.getDeclaredFields()) {
            boolean none = f.getName().equals("NONE");
            DUE.is("field " + f.getName(), none ? Modifier.isPublic(f.getModifiers())
                : Modifier.isPrivate(f.getModifiers()), true);
        }
        Constructor<?>[] made = c.getDeclaredConstructors();
        DUE.is("one constructor", made.length == 1 && Modifier.isPublic(made[0].getModifiers())
            && made[0].getParameterCount() == 0, true);
    }

    private static void classes() {
        Class<?>[] inside = MockParcels.class.getDeclaredClasses();
        DUE.is("at most twelve classes", inside.length <= 11, true);
        for (Class<?> c : inside) {
            DUE.is("static: " + c, Modifier.isStatic(c.getModifiers()), true);
            rules(c);
        }
        rules(MockParcels.class);
    }

    private static void rules(Class<?> c) {
        int fields = 0;
        for (Field f : c.getDeclaredFields()) {
            if (!Modifier.isStatic(f.getModifiers())) {
                fields++;
            } else {
                DUE.is("final: " + f, Modifier.isFinal(f.getModifiers()), true);
                DUE.is("a constant: " + f, f.getType() == int.class || f.getType() == String.class, true);
            }
        }
        DUE.is("at most twenty fields: " + c, fields <= 20, true);
        for (Method m : c.getDeclaredMethods()) {
            DUE.is("at most seven parameters: " + m, m.getParameterCount() <= 7, true);
        }
    }

    private static void source(String text) {
        String bare = text.replaceAll("(?s)/\\*.*?\\*/", "").replaceAll("//[^\n]*", "")
            .replaceAll("\"[^\"\n]*\"", "\"\"");
        String[] none = {"\\bthrow\\b", "\\btry\\b", "\\bcatch\\b", "\\bsynchronized\\b", "\\bassert\\b", "->", "::",
            "\\bimport\\b", "\\bpackage\\b", "\\bstatic\\s*\\{", "Exact\\b", "\\binstanceof\\b", "\\bMAX_VALUE\\b",
            "\\bdouble\\b", "\\bfloat\\b", "\\bSystem\\b", "\"\\s*\\+", "\\+\\s*\""};
        for (String word : none) {
            Matcher m = Pattern.compile(word).matcher(bare);
            DUE.is("not in the source: " + word, m.find(), false);
        }
        for (int i = 0; i < text.length(); i++) {
            if (text.charAt(i) > 127) {
                DUE.is("signs 1 to 127 alone, at " + i, text.charAt(i), 0);
            }
        }
    }
}
