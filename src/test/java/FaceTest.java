import java.io.IOException;
import java.lang.reflect.Constructor;
import java.lang.reflect.Field;
import java.lang.reflect.InvocationTargetException;
import java.lang.reflect.Method;
import java.lang.reflect.Modifier;
import java.nio.file.Files;
import java.nio.file.Path;
import java.util.ArrayList;
import java.util.Comparator;
import java.util.HashSet;
import java.util.List;
import java.util.NoSuchElementException;
import java.util.Random;
import java.util.Set;
import java.util.TreeSet;
import java.util.regex.Matcher;
import java.util.regex.Pattern;

/** The public face and the rules of the language, and that no call throws by itself, whatever it is given. */
public final class FaceTest {
    private static final Checks CHECKS = new Checks();
    private static final String FACE = "int feed(int,int,int,int,int);int dream(int);int fault();int where();int quick(int)"
        + ";long clock(int);long ticks();long minutes(int,int,int,boolean);int sleeper(int,int);long lived(int,boolean)"
        + ";int meet(int,int);int off();int floorIn(int,int);int headIn(int,int);int meetsIn(int,int,int)"
        + ";int awakeIn(int,int);int lonely(int,int);int crowd(int);int left();int woken(int,int);long felt(int,int,int)"
        + ";int task(int);long best(int);long soonest();int together(int);int togetherAt(int,int);int deep();int ask()"
        + ";int askMost();int letter(int,int,int);int tells(int,int,int,int);long words(int,int,int,int)"
        + ";long meeting(int,int,int);int meetingHead(int,int,int);int takes(int);long gains(int);int price(int,int)"
        + ";int enough(int,int);int rates();int rate(int);long waking(int,int,int,boolean);long mean(int,int,boolean)"
        + ";int pass(int,int);int lie(int,int);int wake(int);int knock(int,int,int);boolean undo();int image()"
        + ";boolean back(int);int led(int);int size(int);int trouble()";

    public static void main(String[] args) throws IOException {
        face();
        source();
        for (int seed = 1; seed <= 150; seed++) {
            wild(new Random(seed));
        }
        CHECKS.end();
    }

    private static void face() {
        Set<String> got = new TreeSet<>();
        for (Method m : publicMethods()) {
            StringBuilder b = new StringBuilder(m.getReturnType() + " " + m.getName() + "(");
            for (Class<?> type : m.getParameterTypes()) {
                b.append(b.charAt(b.length() - 1) == '(' ? "" : ",").append(type);
            }
            got.add(b.append(')').toString());
        }
        Set<String> want = new TreeSet<>(List.of(FACE.split(";")));
        CHECKS.due("the face " + got, got.equals(want), true);
        Set<String> names = new HashSet<>();
        for (Method m : publicMethods()) {
            names.add(m.getName());
        }
        for (Class<?> inside : AsleepInside.class.getDeclaredClasses()) {
            CHECKS.due(inside + " is static", Modifier.isStatic(inside.getModifiers()), true);
            looksRight(inside, names);
        }
        looksRight(AsleepInside.class, names);
        for (Field f : AsleepInside.class.getDeclaredFields()) {
            CHECKS.due(f + " is private", Modifier.isPrivate(f.getModifiers()), !f.getName().equals("NONE"));
        }
        for (Constructor<?> c : AsleepInside.class.getDeclaredConstructors()) {
            CHECKS.due(c + " takes nothing", c.getParameterCount(), 0);
        }
    }

    private static void looksRight(Class<?> one, Set<String> names) {
        int fields = 0;
        for (Field f : one.getDeclaredFields()) {
            boolean isStatic = Modifier.isStatic(f.getModifiers());
            CHECKS.due(f + " is final", isStatic && !Modifier.isFinal(f.getModifiers()), false);
            fields += isStatic ? 0 : 1;
        }
        CHECKS.due(one + " has few fields", fields <= 20, true);
        for (Method m : one.getDeclaredMethods()) {
            CHECKS.due(m + " takes at most seven", m.getParameterCount() <= 7, true);
            boolean own = one == AsleepInside.class && Modifier.isPublic(m.getModifiers());
            CHECKS.due(m + " has a name of its own", !own && names.contains(m.getName()), false);
            boolean shown = one == AsleepInside.class && !own && !Modifier.isPrivate(m.getModifiers());
            CHECKS.due(m + " is private", shown, false);
        }
    }

    private static List<Method> publicMethods() {
        List<Method> all = new ArrayList<>();
        for (Method m : AsleepInside.class.getDeclaredMethods()) {
            if (Modifier.isPublic(m.getModifiers())) {
                all.add(m);
            }
        }
        all.sort(Comparator.comparing(Method::getName));
        return all;
    }

    /** What of the rules a plain look at the text can tell. */
    private static void source() throws IOException {
        String text = Files.readString(Path.of("src/main/java/AsleepInside.java"));
        String code = text.replaceAll("(?s)/\\*.*?\\*/", "").replaceAll("//[^\n]*", "").replaceAll("\"[^\"\n]*\"", "\"\"");
        for (String word : "try,catch,finally,synchronized,assert,package,double,float,System,Object,Thread,lambda".split(",")) {
            CHECKS.due(word + " isn't used", Pattern.compile("\\b" + word + "\\b").matcher(code).find(), false);
        }
        CHECKS.due("no lambda", code.contains("->") || code.contains("::"), false);
        Matcher imports = Pattern.compile("import ([^;]*);").matcher(code);
        while (imports.find()) {
            CHECKS.due("import " + imports.group(1), imports.group(1).equals("java.util.NoSuchElementException"), true);
        }
        Matcher used = Pattern.compile("\\b(Math|Integer|Long|String|StringBuilder|Arrays|List|ArrayList)\\.(\\w+)").matcher(code);
        while (used.find()) {
            CHECKS.due("the library's " + used.group(), Set.of("Math.max", "Math.min", "Integer.bitCount").contains(used.group()), true);
        }
        int begin = -1;
        String[] lines = code.split("\n");
        for (int i = 0; i < lines.length; i++) {
            begin = lines[i].matches("\\s+(private|public|static|int|long|void|boolean)\\b.*\\) *(throws .*)?\\{") ? i : begin;
            CHECKS.due("line " + i + " is far into a method", lines[i].isBlank() || begin < 0 || !lines[i].startsWith("        ")
                || i - begin <= 60, true);
        }
    }

    private static void wild(Random r) {
        AsleepInside x = new AsleepInside();
        List<Method> methods = publicMethods();
        for (int i = 0; i < 500; i++) {
            if (i % 100 == 20) {
                String text = Spec.chance(r).text();
                Checks.feedText(x, text);
                x.dream(Math.min(text.length() - r.nextInt(20) / 19, 1000));
            }
            call(x, methods.get(r.nextInt(methods.size())), r);
        }
    }

    private static void call(AsleepInside x, Method m, Random r) {
        Class<?>[] types = m.getParameterTypes();
        Object[] given = new Object[types.length];
        StringBuilder what = new StringBuilder(m.getName());
        for (int i = 0; i < types.length; i++) {
            given[i] = types[i] == boolean.class ? (Object) r.nextBoolean() : (Object) number(r);
            what.append(' ').append(given[i]);
        }
        try {
            m.invoke(x, given);
            CHECKS.due(what + " throws nothing", 0, 0);
        } catch (InvocationTargetException e) {
            boolean right = e.getCause() instanceof NoSuchElementException && m.getName().equals("led");
            CHECKS.due(what + " throws " + e.getCause(), right, true);
        } catch (IllegalAccessException e) {
            CHECKS.due(what + " can be called", false, true);
        }
    }

    private static int number(Random r) {
        switch (r.nextInt(8)) {
            case 0:
                return r.nextBoolean() ? Integer.MAX_VALUE : Integer.MIN_VALUE;
            case 1:
                return r.nextInt();
            case 2:
                return r.nextInt(1300) - 10;
            case 3:
                return r.nextInt(40) - 2;
            default:
                return r.nextInt(7) - 1;
        }
    }
}
