import java.util.ArrayList;
import java.util.List;

/**
 * A printer that is not asked beyond its 512 calls, for what it answers then is free: ahead of that a
 * new one is made, which is told again all that was told. A run may not tell it more than fits into
 * that; only one that says so goes on beyond, with the printer that it has.
 */
final class FreshPrinter {
    static final int MOST_CALLS = 512;
    /** As many may be told, so that a new printer, told them again, can be asked some things. */
    static final int MOST_TOLD = 496;
    private static final int TAPE = 0;
    private static final int SUBMIT = 1;
    private static final int CONCLUDE = 2;

    private final int dpi;
    private final int band;
    private final boolean beyond;
    private final List<int[]> told = new ArrayList<>();
    private SheetPrinter printer;
    private int calls;

    FreshPrinter(int dpi, int band, boolean beyond) {
        this.dpi = dpi;
        this.band = band;
        this.beyond = beyond;
        printer = new SheetPrinter(dpi, band);
    }

    boolean tape(int a, int b, int c, int d, int e) {
        boolean answer = asked().tape(a, b, c, d, e);
        told.add(new int[] {TAPE, a, b, c, d, e});
        return answer;
    }

    int submit(int kind, int n) {
        SheetPrinter asked = asked();
        told.add(new int[] {SUBMIT, kind, n});
        return asked.submit(kind, n);
    }

    int conclude() {
        int answer = asked().conclude();
        told.add(new int[] {CONCLUDE});
        return answer;
    }

    long bytesAt(int k) {
        return asked().bytesAt(k);
    }

    int sheetOf(int p, int w) {
        return asked().sheetOf(p, w);
    }

    long printed(int p, int y, int k) {
        return asked().printed(p, y, k);
    }

    int status(int which) {
        return asked().status(which);
    }

    int told() {
        return told.size();
    }

    private SheetPrinter asked() {
        if (calls >= MOST_CALLS && !beyond) {
            if (told.size() > MOST_TOLD) {
                throw new AssertionError("the test tells a printer more than 512 calls can");
            }
            printer = new SheetPrinter(dpi, band);
            calls = 0;
            for (int[] call : told) {
                tellAgain(call);
            }
        }
        calls++;
        return printer;
    }

    private void tellAgain(int[] call) {
        calls++;
        if (call[0] == TAPE) {
            printer.tape(call[1], call[2], call[3], call[4], call[5]);
        } else if (call[0] == CONCLUDE) {
            printer.conclude();
        } else {
            try {
                printer.submit(call[1], call[2]);
            } catch (IllegalArgumentException | IllegalStateException e) {
                // it threw the first time, too
            }
        }
    }
}
