import java.io.IOException;
import java.lang.reflect.Array;
import java.lang.reflect.Constructor;
import java.lang.reflect.Field;
import java.lang.reflect.Method;
import java.lang.reflect.Modifier;
import java.nio.file.Files;
import java.nio.file.Path;
import java.util.ArrayDeque;
import java.util.Collections;
import java.util.Deque;
import java.util.IdentityHashMap;
import java.util.Set;
import java.util.TreeSet;
import java.util.regex.Matcher;
import java.util.regex.Pattern;

/** The face of the class, and what can be read of LANGUAGE.md off the class, its text and its objects. */
public final class LanguageTest {
    private static final String FACE = "boolean anew(int) / boolean clean() / boolean click(int,int) / "
        + "boolean knock(int,int) / boolean lay(int,int) / boolean lead(int,int) / boolean lock(int,int) / "
        + "boolean most(int) / boolean pour(int,int,int,int,int) / boolean press() / boolean rules(int,int) / "
        + "boolean still() / boolean tray(int,int,int) / boolean write(int,int,long) / int cannot(int) / "
        + "int cover() / int error(int) / int fault(int) / int feed(int,int,int,int,int) / int heard(int,int) / "
        + "int inTime(int) / int level(int,int) / int line(int) / int locked(int) / int longest() / "
        + "int mark(int,int) / int missed(int) / int order() / int parts(int) / int place(int,int) / "
        + "int placeBeside(int,int) / int ring(int,int) / int room(int) / int roomBeside() / int run() / "
        + "int sheet(int) / int sideOf(int) / int soften(int,int) / int softer(int) / int song(int,int,int) / "
        + "int songAt(int,int) / int songHeard(int,int) / int status() / int tight(int,int) / "
        + "int told(int,int) / long read(int,int)";

    public static void main(String[] args) throws IOException, IllegalAccessException {
        face();
        classesInside();
        text();
        room();
        Due.end();
    }

    private static void same(String what, Object got, Object want) {
        Due.due(what + ": " + got + ", due is " + want, got.equals(want), true);
    }

    // ---- rule 1

    private static void face() {
        Class<?> c = DiscCutter.class;
        same("the class", Modifier.toString(c.getModifiers()), "public final");
        Set<String> methods = new TreeSet<>();
        for (Method m : c.getDeclaredMethods()) {
            if (!Modifier.isPrivate(m.getModifiers())) {
                same(m.getName(), Modifier.toString(m.getModifiers()), "public");
                String whole = m.toString().replace("public ", "").replace("DiscCutter.", "");
                methods.add(whole);
            }
        }
        same("the methods", String.join(" / ", methods), FACE);
        Set<String> fields = new TreeSet<>();
        for (Field f : c.getDeclaredFields()) {
            if (!Modifier.isPrivate(f.getModifiers())) {
                fields.add(Modifier.toString(f.getModifiers()) + " " + f.getName());
            }
        }
        same("the constants", fields.toString(), "[public static final NONE]");
        Constructor<?>[] made = c.getDeclaredConstructors();
        same("constructors", made.length, 1);
        same("the constructor", made[0].toString(), "public DiscCutter()");
    }

    // ---- rules 1, 2, 5, 11

    private static void classesInside() {
        Set<String> faceNames = new TreeSet<>();
        for (Method m : DiscCutter.class.getDeclaredMethods()) {
            if (Modifier.isPublic(m.getModifiers())) {
                faceNames.add(m.getName());
            }
        }
        Class<?>[] inside = DiscCutter.class.getDeclaredClasses();
        Due.due("at most some twelve classes, have " + (inside.length + 1), inside.length + 1 <= 12, true);
        for (Class<?> c : inside) {
            Due.due(c + " is static", Modifier.isStatic(c.getModifiers()), true);
            Due.due(c + " isn't seen outside",
                Modifier.isPublic(c.getModifiers()) || Modifier.isProtected(c.getModifiers()), false);
            for (Method m : c.getDeclaredMethods()) {
                Due.due(m + " bears no name of the face", faceNames.contains(m.getName()), false);
            }
            looked(c);
        }
        for (Method m : DiscCutter.class.getDeclaredMethods()) {
            boolean twice = !Modifier.isPublic(m.getModifiers()) && faceNames.contains(m.getName());
            Due.due(m + " bears no name of the face", twice, false);
        }
        looked(DiscCutter.class);
    }

    private static void looked(Class<?> c) {
        int fields = 0;
        for (Field f : c.getDeclaredFields()) {
            if (Modifier.isStatic(f.getModifiers())) {
                Due.due(f + " is final", Modifier.isFinal(f.getModifiers()), true);
            } else {
                fields++;
            }
        }
        Due.due(c + " has some twenty fields at most: " + fields, fields <= 20, true);
        for (Method m : c.getDeclaredMethods()) {
            Due.due(m + " takes seven at most", m.getParameterCount() <= 7, true);
        }
    }

    // ---- rules 2, 4, 6, 11

    private static void text() throws IOException {
        String all = Files.readString(Path.of("src/main/java/DiscCutter.java"));
        Due.due("signs 1 to 127 alone", all.chars().allMatch(c -> c >= 1 && c <= 127), true);
        String code = all.replaceAll("(?s)/\\*.*?\\*/", " ").replaceAll("//[^\n]*", " ")
            .replaceAll("\"[^\"\n]*\"", "\"\"");
        Matcher word = Pattern.compile("\\b(throw|throws|try|catch|finally|synchronized|assert|package|native"
            + "|volatile|transient|var|hashCode|Object|System\\.(?!arraycopy)\\w+|Thread|Random|Runtime"
            + "|\\w+Exact)\\b|->|::|@\\w+").matcher(code);
        while (word.find()) {
            Due.due("the text has " + word.group(), true, false);
        }
        Matcher imported = Pattern.compile("import ([\\w.*]+);").matcher(code);
        while (imported.find()) {
            same("import", imported.group(1).matches("java\\.util\\.(Arrays|ArrayList|List|Iterator)"), true);
        }
        Matcher library = Pattern.compile("\\b(Math|Integer|Long|Arrays|System)\\.(\\w+)").matcher(code);
        while (library.find()) {
            same(library.group(), library.group(2).matches("compare|max|min|abs|bitCount|floorDiv|floorMod"
                + "|numberOfTrailingZeros|arraycopy|fill|copyOf|copyOfRange|MAX_VALUE|MIN_VALUE"), true);
        }
        Due.due("Arrays.fill over numbers alone",
            Pattern.compile("Arrays\\.fill\\([^;]*(true|false|null)\\)").matcher(code).find(), false);
        Matcher method = Pattern.compile("(?m)^( +)[\\w\\[\\] ]+\\([^;{}]*\\) \\{\n(?s:.*?)^\\1\\}").matcher(code);
        int methods = 0;
        while (method.find()) {
            methods++;
            long lines = method.group().lines().count();
            Due.due(method.group().lines().findFirst().get() + " has " + lines + " lines", lines <= 60, true);
        }
        Due.due("methods were found: " + methods, methods > 100, true);
    }

    // ---- the room that all calls of a run share

    private static void room() throws IllegalAccessException {
        DiscCutter x = new DiscCutter();
        long[] before = sizeOf(x);
        Due.due("fields and elements of a new object: " + before[1], before[1] <= 14000, true);
        Due.due("objects of a new object: " + before[0], before[0] <= 400, true);
        x.tray(0, 0, 60);
        for (int k = 0; k < 10; k++) {
            x.song(0, 60, k);
        }
        x.press();
        x.knock(5, 100);
        x.click(1, 1);
        x.cover();
        x.roomBeside();
        x.feed(0x6c656164, 0x20313b20, 0x6c656164, 0x20313b20, 0x20202020);
        x.sheet(20);
        x.run();
        long[] after = sizeOf(x);
        same("objects kept behind calls", after[0], before[0]);
        same("elements kept behind calls", after[1], before[1]);
    }

    /** How many objects can be reached, and how many fields and elements they have. */
    private static long[] sizeOf(Object root) throws IllegalAccessException {
        Set<Object> seen = Collections.newSetFromMap(new IdentityHashMap<>());
        Deque<Object> open = new ArrayDeque<>();
        open.add(root);
        seen.add(root);
        long size = 0;
        while (!open.isEmpty()) {
            Object o = open.poll();
            Class<?> c = o.getClass();
            if (c.isArray()) {
                size += Array.getLength(o);
                for (int k = 0; k < Array.getLength(o) && !c.getComponentType().isPrimitive(); k++) {
                    reach(Array.get(o, k), seen, open);
                }
                continue;
            }
            for (Field f : c.getDeclaredFields()) {
                if (!Modifier.isStatic(f.getModifiers())) {
                    size++;
                    f.setAccessible(true);
                    if (!f.getType().isPrimitive()) {
                        reach(f.get(o), seen, open);
                    }
                }
            }
        }
        return new long[] {seen.size(), size};
    }

    private static void reach(Object o, Set<Object> seen, Deque<Object> open) {
        if (o != null && seen.add(o)) {
            open.add(o);
        }
    }
}
