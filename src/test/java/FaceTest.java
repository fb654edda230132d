import java.io.IOException;
import java.lang.reflect.AccessibleObject;
import java.lang.reflect.Array;
import java.lang.reflect.Constructor;
import java.lang.reflect.Field;
import java.lang.reflect.Method;
import java.lang.reflect.Modifier;
import java.nio.file.Files;
import java.nio.file.Path;
import java.util.ArrayDeque;
import java.util.Arrays;
import java.util.Collections;
import java.util.Deque;
import java.util.IdentityHashMap;
import java.util.Map;
import java.util.Set;
import java.util.TreeMap;
import java.util.TreeSet;
import java.util.regex.Matcher;
import java.util.regex.Pattern;

/** The public face, and nothing beside it; the form of the class; and the room that an object takes. */
public final class FaceTest {
    private static final String SOURCE = "src/main/java/SheetPrinter.java";

    private FaceTest() {
    }

    public static void main(String[] args) throws ReflectiveOperationException, IOException {
        theClass();
        theMembers();
        theExceptions();
        theClassesInside();
        theForm();
        theRoom();
        objectsApart();
        Tester.end();
    }

    private static void theClass() {
        int modifiers = SheetPrinter.class.getModifiers();
        Tester.due("public and final", modifiers & (Modifier.PUBLIC | Modifier.FINAL | Modifier.ABSTRACT), Modifier.PUBLIC | Modifier.FINAL);
        Tester.due("superclass", SheetPrinter.class.getSuperclass().getName(), "java.lang.Object");
        Tester.due("interfaces", SheetPrinter.class.getInterfaces().length, 0);
        Tester.due("package", SheetPrinter.class.getPackageName(), "");
        Tester.due("NONE", SheetPrinter.NONE, -1);
    }

    /** All members that are not private, as they would be written. */
    private static void theMembers() {
        Set<String> want = new TreeSet<>(Arrays.asList(
                "public static final int SheetPrinter.NONE",
                "public SheetPrinter(int,int)",
                "public boolean SheetPrinter.tape(int,int,int,int,int)",
                "public int SheetPrinter.submit(int,int) throws java.lang.IllegalArgumentException,java.lang.IllegalStateException",
                "public int SheetPrinter.conclude()",
                "public long SheetPrinter.bytesAt(int)",
                "public int SheetPrinter.sheetOf(int,int) throws java.lang.IndexOutOfBoundsException",
                "public long SheetPrinter.printed(int,int,int)",
                "public int SheetPrinter.status(int)"));
        Set<String> got = new TreeSet<>();
        for (Field f : SheetPrinter.class.getDeclaredFields()) {
            if (!Modifier.isPrivate(f.getModifiers()) && !f.isSynthetic()) {
                got.add(f.toString());
            }
        }
        for (Constructor<?> c : SheetPrinter.class.getDeclaredConstructors()) {
            if (!Modifier.isPrivate(c.getModifiers()) && !c.isSynthetic()) {
                got.add(c.toString());
            }
        }
        Set<String> names = new TreeSet<>();
        for (Method m : SheetPrinter.class.getDeclaredMethods()) {
            if (!Modifier.isPrivate(m.getModifiers()) && !m.isSynthetic()) {
                got.add(m.toString());
                names.add(m.getName());
            }
        }
        Tester.due("the face", got.toString(), want.toString());
        for (Method m : SheetPrinter.class.getDeclaredMethods()) {
            Tester.due("a private method named " + m.getName(), Modifier.isPrivate(m.getModifiers()) && names.contains(m.getName()) ? 1 : 0, 0);
        }
    }

    private interface Call {
        long answer();
    }

    private static String thrown(Call call) {
        try {
            call.answer();
            return "nothing";
        } catch (RuntimeException e) {
            return e.getClass().getSimpleName();
        }
    }

    /** Those that the document names and no other ones, not even classes below them. */
    private static void theExceptions() {
        SheetPrinter x = new SheetPrinter(75, 8);
        Tester.due("submit", thrown(() -> x.submit(2, 1)), "IllegalArgumentException");
        Tester.due("submit", thrown(() -> x.submit(0, 0)), "IllegalArgumentException");
        Tester.due("sheetOf", thrown(() -> x.sheetOf(0, 0)), "IndexOutOfBoundsException");
        Tester.due("submit", thrown(() -> x.submit(1, 20)), "nothing");
        Tester.due("submit", thrown(() -> x.submit(0, 20)), "IllegalStateException");
        Tester.due("submit", thrown(() -> x.submit(0, 21)), "IllegalArgumentException");
        int[] odd = {Integer.MIN_VALUE, Integer.MIN_VALUE + 1, -65536, -1, 0, 1, 2, 63, 64, 65535, 1 << 26, 1 << 28, Integer.MAX_VALUE};
        for (int a : odd) {
            Tester.due("status", thrown(() -> x.status(a)), "nothing");
            Tester.due("bytesAt", thrown(() -> x.bytesAt(a)), "nothing");
            Tester.due("tape", thrown(() -> x.tape(a, a, a, a, a) ? 1 : 0), "nothing");
            Tester.due("a new one", thrown(() -> new SheetPrinter(a, -a).status(0)), "nothing");
            for (int b : odd) {
                Tester.due("sheetOf", thrown(() -> x.sheetOf(a, b)), "IndexOutOfBoundsException");
                for (int c : odd) {
                    Tester.due("printed", thrown(() -> x.printed(a, b, c)), "nothing");
                }
            }
        }
        Tester.due("conclude", thrown(() -> x.conclude()), "nothing");
    }

    private static void theClassesInside() {
        Class<?>[] inside = SheetPrinter.class.getDeclaredClasses();
        Tester.due("classes", inside.length + 1 <= 12 ? 1 : 0, 1);
        Set<Class<?>> all = new java.util.LinkedHashSet<>(Arrays.asList(inside));
        all.add(SheetPrinter.class);
        for (Class<?> c : all) {
            if (c != SheetPrinter.class) {
                Tester.due(c + " is static", Modifier.isStatic(c.getModifiers()) ? 1 : 0, 1);
                Tester.due(c + " is not public", c.getModifiers() & (Modifier.PUBLIC | Modifier.PROTECTED), 0);
            }
            int fields = 0;
            for (Field f : c.getDeclaredFields()) {
                fields += Modifier.isStatic(f.getModifiers()) ? 0 : 1;
                Tester.due(f + " is final", Modifier.isStatic(f.getModifiers()) && !Modifier.isFinal(f.getModifiers()) ? 1 : 0, 0);
            }
            Tester.due("fields of " + c + ": " + fields, fields <= 20 ? 1 : 0, 1);
            for (Method m : c.getDeclaredMethods()) {
                Tester.due("parameters of " + m, m.getParameterCount() <= 7 ? 1 : 0, 1);
            }
            for (Constructor<?> made : c.getDeclaredConstructors()) {
                Tester.due("parameters of " + made, made.getParameterCount() <= 7 ? 1 : 0, 1);
            }
        }
    }

    /** What LANGUAGE.md leaves out is not in the text of the class; comments are not looked at. */
    private static void theForm() throws IOException {
        String text = Files.readString(Path.of(SOURCE)).replaceAll("(?s)/\\*.*?\\*/", "").replaceAll("//[^\n]*", "")
                .replaceAll("\"[^\"\n]*\"", "\"\"").replaceAll("'(\\\\.|[^'\\\\])'", "' '");
        for (String word : new String[] {"try", "catch", "finally", "synchronized", "assert", "native", "volatile", "transient", "protected", "package",
            "double", "float", "instanceof", "var", "yield", "Object", "Random", "Thread", "getClass", "hashCode", "toString", "equals", "goto"}) {
            Tester.due("the word " + word, Pattern.compile("\\b" + word + "\\b").matcher(text).find() ? 1 : 0, 0);
        }
        for (String sign : new String[] {"->", "::", "static {", "@", "while (true)", "for (;;)", "Exact("}) {
            Tester.due("the sign " + sign, text.contains(sign) ? 1 : 0, 0);
        }
        Map<String, Integer> imports = counted(text, "import ([\\w.*]+);");
        Tester.due("imports", imports.keySet().toString(), "[java.util.Arrays]");
        Set<String> library = new TreeSet<>(counted(text, "\\b((?:Arrays|Math|System|Integer|Long|Character)\\.\\w+)").keySet());
        library.removeAll(Arrays.asList("Arrays.fill", "Math.max", "Math.min", "System.arraycopy"));
        Tester.due("the library", library.toString(), "[]");
        Map<String, Integer> thrown = counted(text, "throw (new \\w+)\\(");
        Tester.due("throws", thrown.toString(), "{new IllegalArgumentException=1, new IllegalStateException=1, new IndexOutOfBoundsException=1}");
        Tester.due("every throw makes its exception", counted(text, "\\b(throw)\\b").toString(), "{throw=3}");
    }

    private static Map<String, Integer> counted(String text, String pattern) {
        Map<String, Integer> found = new TreeMap<>();
        for (Matcher m = Pattern.compile(pattern).matcher(text); m.find();) {
            found.merge(m.group(1), 1, Integer::sum);
        }
        return found;
    }

    /** All is made with the object, little of it, and no call makes more that is kept. */
    private static void theRoom() throws ReflectiveOperationException {
        SheetPrinter x = new SheetPrinter(300, 1024);
        long[] first = room(x);
        Tester.due("objects: " + first[0], first[0] < 200 ? 1 : 0, 1);
        Tester.due("fields and elements: " + first[1], first[1] < 600000 ? 1 : 0, 1);
        Tester t = new Tester(300, 1024);
        t.stream(Refused.SETUP + Refused.OPEN_RASTER + Tester.rules(4097) + "\33&f5y2X\f");
        t.conclude();
        Field printer = FreshPrinter.class.getDeclaredField("printer");
        printer.setAccessible(true);
        long[] later = room(printer.get(t.x));
        Tester.due("objects later", later[0], first[0]);
        Tester.due("fields and elements later", later[1], first[1]);
    }

    private static long[] room(Object top) throws IllegalAccessException {
        Set<Object> seen = Collections.newSetFromMap(new IdentityHashMap<>());
        Deque<Object> open = new ArrayDeque<>();
        open.add(top);
        long elements = 0;
        while (!open.isEmpty()) {
            Object o = open.remove();
            if (!seen.add(o)) {
                continue;
            }
            if (o.getClass().isArray()) {
                elements += Array.getLength(o);
                continue;
            }
            Field[] fields = o.getClass().getDeclaredFields();
            AccessibleObject.setAccessible(fields, true);
            for (Field f : fields) {
                elements += Modifier.isStatic(f.getModifiers()) ? 0 : 1;
                if (!f.getType().isPrimitive() && !Modifier.isStatic(f.getModifiers()) && f.get(o) != null) {
                    open.add(f.get(o));
                }
            }
        }
        return new long[] {seen.size(), elements};
    }

    /** Several objects at once do not touch each other. */
    private static void objectsApart() {
        String[] parts = {Tester.plainFont(1, 1) + Tester.glyph(1, 65, 0, 0, 8, 2, 900, 170, 85), "\33&f3y0XA\33*c9a9b0P\33&f1X\33&f10X", "AB\33*b2W\17\360",
            "\33&f3X\33&l1O", "\33&l2xA\33&a3", "C\33*c20a5b50g2P", "\33&p3X\1\2\3\f", "\33&s0C" + "A".repeat(99)};
        Tester[] all = {new Tester(75, 3), new Tester(75, 100), new Tester(150, 9), new Tester(300, 64)};
        for (int step = 0; step < parts.length * 2; step++) {
            for (int i = 0; i < all.length; i++) {
                all[i].stream(parts[(step + i * 3) % parts.length]);
                if ((step + i) % 7 == 6) {
                    all[i].conclude();
                }
            }
        }
    }
}
