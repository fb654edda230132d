import java.lang.reflect.Constructor;
import java.lang.reflect.Field;
import java.lang.reflect.Method;
import java.lang.reflect.Modifier;
import java.util.Arrays;
import java.util.Set;
import java.util.TreeSet;

/** The public face, and nothing beside it; its exceptions, and no other ones; and objects side by side. */
public final class FaceTest {
    private FaceTest() {
    }

    public static void main(String[] args) {
        theClass();
        theMembers();
        theExceptions();
        objectsApart();
        Tester.end();
    }

    private static void theClass() {
        int modifiers = SheetPrinter.class.getModifiers();
        Tester.due("public and final", modifiers & (Modifier.PUBLIC | Modifier.FINAL | Modifier.ABSTRACT), Modifier.PUBLIC | Modifier.FINAL);
        Tester.due("superclass", SheetPrinter.class.getSuperclass().getName(), "java.lang.Object");
        Tester.due("interfaces", SheetPrinter.class.getInterfaces().length, 0);
        Tester.due("package", SheetPrinter.class.getPackageName(), "");
        Tester.due("NONE", SheetPrinter.NONE, -1);
    }

    /** All members that are not private, as they would be written. */
    private static void theMembers() {
        Set<String> want = new TreeSet<>(Arrays.asList(
                "public static final int SheetPrinter.NONE",
                "public SheetPrinter(int,int)",
                "public boolean SheetPrinter.tape(int,int,int,int,int)",
                "public int SheetPrinter.submit(int,int) throws java.lang.IllegalArgumentException,java.lang.IllegalStateException",
                "public int SheetPrinter.conclude()",
                "public long SheetPrinter.bytesAt(int)",
                "public int SheetPrinter.sheetOf(int,int) throws java.lang.IndexOutOfBoundsException",
                "public long SheetPrinter.printed(int,int,int)",
                "public int SheetPrinter.status(int)"));
        Set<String> got = new TreeSet<>();
        for (Field f : SheetPrinter.class.getDeclaredFields()) {
            if (!Modifier.isPrivate(f.getModifiers()) && !f.isSynthetic()) {
                got.add(f.toString());
            }
        }
        for (Constructor<?> c : SheetPrinter.class.getDeclaredConstructors()) {
            if (!Modifier.isPrivate(c.getModifiers()) && !c.isSynthetic()) {
                got.add(c.toString());
            }
        }
        for (Method m : SheetPrinter.class.getDeclaredMethods()) {
            if (!Modifier.isPrivate(m.getModifiers()) && !m.isSynthetic()) {
                got.add(m.toString());
            }
        }
        Tester.due("the face", got.toString(), want.toString());
    }

    private interface Call {
        long answer();
    }

    private static String thrown(Call call) {
        try {
            call.answer();
            return "nothing";
        } catch (RuntimeException e) {
            return e.getClass().getSimpleName();
        }
    }

    /** Those that the document names and no other ones, not even classes below them. */
    private static void theExceptions() {
        SheetPrinter x = new SheetPrinter(75, 8);
        Tester.due("submit", thrown(() -> x.submit(2, 1)), "IllegalArgumentException");
        Tester.due("submit", thrown(() -> x.submit(0, 0)), "IllegalArgumentException");
        Tester.due("sheetOf", thrown(() -> x.sheetOf(0, 0)), "IndexOutOfBoundsException");
        Tester.due("submit", thrown(() -> x.submit(1, 20)), "nothing");
        Tester.due("submit", thrown(() -> x.submit(0, 20)), "IllegalStateException");
        Tester.due("submit", thrown(() -> x.submit(0, 21)), "IllegalArgumentException");
        int[] odd = {Integer.MIN_VALUE, Integer.MIN_VALUE + 1, -65536, -1, 0, 1, 2, 63, 64, 65535, 1 << 26, 1 << 28, Integer.MAX_VALUE};
        for (int a : odd) {
            Tester.due("status", thrown(() -> x.status(a)), "nothing");
            Tester.due("bytesAt", thrown(() -> x.bytesAt(a)), "nothing");
            Tester.due("tape", thrown(() -> x.tape(a, a, a, a, a) ? 1 : 0), "nothing");
            Tester.due("a new one", thrown(() -> new SheetPrinter(a, -a).status(0)), "nothing");
            for (int b : odd) {
                Tester.due("sheetOf", thrown(() -> x.sheetOf(a, b)), "IndexOutOfBoundsException");
            }
            SheetPrinter y = new SheetPrinter(75, 8);
            Tester.due("tape", thrown(() -> y.tape(0x41424344, 0x0C0C0000, 0, 0, 0) ? 1 : 0), "nothing");
            Tester.due("submit", thrown(() -> y.submit(0, 6)), "nothing");
            Tester.due("conclude", thrown(() -> y.conclude()), "nothing");
            for (int b : odd) {
                for (int c : odd) {
                    Tester.due("printed", thrown(() -> y.printed(a, b, c)), "nothing");
                }
                boolean there = (a == 0 || a == 1) && b >= 0 && b <= 3;
                Tester.due("sheetOf", thrown(() -> y.sheetOf(a, b)), there ? "nothing" : "IndexOutOfBoundsException");
            }
        }
        Tester.due("conclude", thrown(() -> x.conclude()), "nothing");
    }

    /** Several objects at once do not touch each other. */
    private static void objectsApart() {
        String[] parts = {Tester.plainFont(1, 1) + Tester.glyph(1, 65, 0, 0, 8, 2, 900, 170, 85), "\33&f3y0XA\33*c9a9b0P\33&f1X\33&f10X", "AB\33*b2W\17\360",
            "\33&f3X\33&l1O", "\33&l2xA\33&a3", "C\33*c20a5b50g2P", "\33&p3X\1\2\3\f", "\33&s0C" + "A".repeat(99)};
        Tester[] all = {new Tester(75, 3), new Tester(75, 100), new Tester(150, 9), new Tester(300, 64)};
        for (int step = 0; step < parts.length * 2; step++) {
            for (int i = 0; i < all.length; i++) {
                all[i].stream(parts[(step + i * 3) % parts.length]);
                if ((step + i) % 7 == 6) {
                    all[i].conclude();
                }
            }
        }
    }
}
