import java.io.IOException;
import java.lang.reflect.Constructor;
import java.lang.reflect.Field;
import java.lang.reflect.Method;
import java.lang.reflect.Modifier;
import java.nio.file.Files;
import java.nio.file.Path;
import java.util.ArrayList;
import java.util.Collections;
import java.util.List;
import java.util.regex.Matcher;
import java.util.regex.Pattern;

/** The public face is the document's and no more, and the text of the class keeps to what LANGUAGE.md forbids. */
public final class FaceTest {
    private static final String[] FACE = {
        "letter(1)", "town(0)", "sort(2)", "rule(2)", "remembered(1)", "penny(1)", "week(0)", "next(0)", "goes(1)",
        "worth(1)", "after(1)", "mean(1)", "swing(1)", "good(1)", "again(0)", "gains(2)", "rests(0)", "rest(1)",
        "best(1)", "off(0)", "pennies(0)", "chairs(0)", "sees(4)", "which(1)", "longer(1)", "seeds(2)", "row(1)",
        "judge(0)", "image(0)", "on(0)", "count(1)"};

    private static final String[] FORBIDDEN = {
        "\\bthrow\\b", "\\bthrows\\b", "\\btry\\b", "\\bcatch\\b", "\\bsynchronized\\b", "\\bassert\\b", "->", "::",
        "\\bimport\\b", "\\bpackage\\b", "\\bprotected\\b", "\\bMath\\.random\\b", "\\bSystem\\.(?!arraycopy)",
        "Exact\\(", "\\bfloat\\b", "\\bdouble\\b", "\\bwhile\\b", "\\[\\]\\[\\]"};

    private static int wrong = 0;

    private static void due(String what, Object got, Object want) {
        if (!want.equals(got)) {
            wrong++;
            System.out.println(what + " is " + got + ", due is " + want);
        }
    }

    private static boolean isInt(Class<?>[] types) {
        for (Class<?> type : types) {
            if (type != int.class) {
                return false;
            }
        }
        return true;
    }

    private static void publicNamesAreNot(Method m) {
        for (String name : FACE) {
            due("a public name of " + m, m.getName().equals(name.substring(0, name.indexOf('('))), false);
        }
    }

    private static void face() {
        List<String> got = new ArrayList<>();
        for (Method m : GoodHalfEmpty.class.getDeclaredMethods()) {
            if (m.isSynthetic()) {
                continue;
            }
            if (Modifier.isPublic(m.getModifiers())) {
                got.add(m.getName() + "(" + m.getParameterCount() + ")");
                due("ints alone in " + m.getName(), m.getReturnType() == int.class && isInt(m.getParameterTypes()), true);
                due("static " + m.getName(), Modifier.isStatic(m.getModifiers()), false);
            } else {
                due("private " + m.getName(), Modifier.isPrivate(m.getModifiers()), true);
                publicNamesAreNot(m);
            }
        }
        List<String> want = new ArrayList<>(List.of(FACE));
        Collections.sort(got);
        Collections.sort(want);
        due("the face", got, want);
        due("final class", Modifier.isFinal(GoodHalfEmpty.class.getModifiers()), true);
        for (Field f : GoodHalfEmpty.class.getDeclaredFields()) {
            due("private " + f.getName(), Modifier.isPrivate(f.getModifiers()), true);
        }
        Constructor<?>[] made = GoodHalfEmpty.class.getDeclaredConstructors();
        due("constructors", made.length, 1);
        due("public constructor without arguments",
            Modifier.isPublic(made[0].getModifiers()) && made[0].getParameterCount() == 0, true);
    }

    private static void inside() {
        Class<?>[] classes = GoodHalfEmpty.class.getDeclaredClasses();
        due("twelve classes at most", classes.length < 12, true);
        for (Class<?> c : classes) {
            due("static " + c, Modifier.isStatic(c.getModifiers()), true);
            for (Method m : c.getDeclaredMethods()) {
                publicNamesAreNot(m);
            }
            int fields = 0;
            for (Field f : c.getDeclaredFields()) {
                fields += Modifier.isStatic(f.getModifiers()) ? 0 : 1;
            }
            due("twenty fields at most in " + c, fields <= 20, true);
        }
    }

    private static void text() throws IOException {
        String all = Files.readString(Path.of("src/main/java/GoodHalfEmpty.java"));
        String code = all.replaceAll("(?s)/\\*.*?\\*/", "").replaceAll("//[^\n]*", "");
        for (String bad : FORBIDDEN) {
            Matcher m = Pattern.compile(bad).matcher(code);
            due("the class has " + bad, m.find(), false);
        }
        for (int i = 0; i < all.length(); i++) {
            if (all.charAt(i) > 127) {
                due("sign " + (int) all.charAt(i), false, true);
            }
        }
    }

    public static void main(String[] args) throws IOException {
        face();
        inside();
        text();
        System.out.println(wrong == 0 ? "the face is as due" : wrong + " wrong");
        if (wrong != 0) {
            System.exit(1);
        }
    }
}
