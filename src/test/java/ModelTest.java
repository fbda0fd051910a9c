import java.util.Arrays;
import java.util.Random;

/**
 * Runs of calls on MappingMoves beside a model of it on the Java machine's own typed arrays, casts,
 * System.arraycopy and exceptions: every answer must be the same, and at a run's end every cell of the
 * first places. With these looks a run stays within 512 calls. The seeds are fixed.
 */
public final class ModelTest {
    private static final int RUNS = 4000;
    private static final int CALLS = 380;
    private static final int FEW_PLACES = 3;
    private static final long[] EDGES = {0, 1, -1, 3, 8, -8, 1016, 1024, -1024, -1032, 127, 128, -128, -129, 32767, 32768,
        65535, 65536, 524280, 16777216, 16777217, 134217728, 1L << 31, (1L << 31) - 1, -(1L << 31), 8L << 31, 1L << 53,
        (1L << 53) + 1, 1L << 60, 1L << 62, Long.MAX_VALUE, Long.MAX_VALUE - 1023, Long.MIN_VALUE, Long.MIN_VALUE + 1};

    public static void main(String[] args) {
        int wrong = 0;
        for (int run = 0; run < RUNS && wrong < 5; run++) {
            wrong += goesApart(run) ? 1 : 0;
        }
        System.out.println(wrong == 0 ? RUNS + " runs beside the model" : wrong + " runs went apart");
        if (wrong != 0) {
            System.exit(1);
        }
    }

    private static boolean goesApart(int run) {
        Random random = new Random(run);
        MappingMoves x = new MappingMoves();
        Model model = new Model();
        StringBuilder calls = new StringBuilder();
        for (int call = 0; call < CALLS; call++) {
            int which = random.nextInt(NAMES.length);
            int[] a = new int[5];
            for (int k = 0; k < a.length; k++) {
                a[k] = argument(random, which, k, run % 4);
            }
            long v = random.nextBoolean() ? EDGES[random.nextInt(EDGES.length)] : random.nextLong() >> random.nextInt(64);
            if (!same(x, model, which, a, v, calls)) {
                System.out.println("run " + run + ":\n" + calls);
                return true;
            }
        }
        if (!sameCells(x, model, calls)) {
            System.out.println("run " + run + ", at its end:\n" + calls);
            return true;
        }
        return false;
    }

    private static boolean same(MappingMoves x, Model model, int which, int[] a, long v, StringBuilder calls) {
        String got = answer(x, which, a, v);
        String want = answer(model, which, a, v);
        calls.append(NAMES[which]).append(Arrays.toString(a)).append(' ').append(v).append(": ").append(got);
        calls.append(got.equals(want) ? "\n" : ", due is " + want);
        return got.equals(want);
    }

    private static boolean sameCells(MappingMoves x, Model model, StringBuilder calls) {
        for (int place = 0; place < FEW_PLACES; place++) {
            boolean same = same(x, model, KIND, new int[] {place}, 0, calls) && same(x, model, LENGTH, new int[] {place}, 0, calls);
            for (int i = 0; same && i < model.cellsAt(place); i++) {
                same = same(x, model, GET, new int[] {place, i}, 0, calls);
            }
            if (!same) {
                return false;
            }
        }
        return true;
    }

    private static final int KIND = 3, LENGTH = 4, GET = 6;
    private static final String[] NAMES = {"make", "let", "drop", "kind", "length", "put", "get", "sum", "turn", "part", "lay",
        "weigh", "rigid", "fault", "raise", "copy", "copied", "move", "like", "told", "put", "lay", "copy"};
    /** For each call, what its arguments are: p place, i cell, k kind, n number of cells, s sort, w weight, q part, c code, m mapping, r rule, t told. */
    private static final String[] FORMS = {"pkn", "p", "p", "p", "p", "pi", "pi", "pk", "pk", "sw", "piq",
        "pi", "pi", "qc", "pi", "pipin", "", "mmr", "pp", "t", "pi", "piq", "pipin"};

    /** Few places make the calls meet. Mode 0: all places, 1: few, 2: few, with shelves, 3: few, with numbers. */
    private static int argument(Random random, int which, int k, int mode) {
        int places = mode == 0 ? 24 : FEW_PLACES;
        String form = FORMS[which];
        if (k >= form.length()) {
            return 0;
        }
        int odd = random.nextInt(400);
        if (odd < 4) {
            return new int[] {Integer.MIN_VALUE, Integer.MAX_VALUE, -1, -2}[odd];
        }
        switch (form.charAt(k)) {
            case 'p': return random.nextInt(60) == 0 ? random.nextInt(26) - 1 : random.nextInt(places);
            case 'i': return random.nextInt(10) == 0 ? random.nextInt(44) - 2 : random.nextInt(5);
            case 'k': return random.nextInt(30) == 0 ? random.nextInt(14) - 2
                    : mode == 2 ? 7 + random.nextInt(3) : random.nextInt(mode == 3 ? 7 : 10);
            case 'n': return random.nextInt(10) == 0 ? random.nextInt(45) - 2 : random.nextInt(6);
            case 's': return random.nextInt(10) == 0 ? random.nextInt(5) - 1 : random.nextInt(3);
            case 'w': return random.nextInt(10) == 0 ? random.nextInt(1100) - 50 : random.nextInt(100);
            case 'q': return random.nextInt(10) == 0 ? random.nextInt(43) - 2 : random.nextInt(5) - 1;
            case 'c': return random.nextInt(14) - 2;
            case 'm': return random.nextInt(20) == 0 ? random.nextInt(6) - 1 : random.nextInt(places / 8 + 1);
            case 'r': return random.nextInt(20) == 0 ? random.nextInt(262200) - 20 : random.nextInt(262144);
            default: return random.nextInt(6) - 1;
        }
    }

    private static String answer(MappingMoves x, int which, int[] a, long v) {
        try {
            switch (NAMES[which]) {
                case "make": return "" + x.make(a[0], a[1], a[2]);
                case "let": return "" + x.let(a[0]);
                case "drop": return "" + x.drop(a[0]);
                case "kind": return "" + x.kind(a[0]);
                case "length": return "" + x.length(a[0]);
                case "put": return "" + x.put(a[0], a[1], v);
                case "get": return "" + x.get(a[0], a[1]);
                case "sum": return "" + x.sum(a[0], a[1]);
                case "turn": return "" + x.turn(a[0], a[1]);
                case "part": return "" + x.part(a[0], a[1]);
                case "lay": return "" + x.lay(a[0], a[1], a[2]);
                case "weigh": return "" + x.weigh(a[0], a[1]);
                case "rigid": return "" + x.rigid(a[0], a[1]);
                case "fault": return "" + x.fault(a[0], a[1]);
                case "raise": return "" + x.raise(a[0], a[1]);
                case "copy": return "" + x.copy(a[0], a[1], a[2], a[3], a[4]);
                case "copied": return "" + x.copied();
                case "move": return "" + x.move(a[0], a[1], a[2]);
                case "like": return "" + x.like(a[0], a[1]);
                default: return "" + x.told(a[0]);
            }
        } catch (RuntimeException e) {
            return e.getClass().getSimpleName();
        }
    }

    private static String answer(Model x, int which, int[] a, long v) {
        if (NAMES[which].equals("get")) {
            try {
                return "" + x.get(a[0], a[1]);
            } catch (RuntimeException e) {
                return e.getClass().getSimpleName();
            }
        }
        return "" + x.call(NAMES[which], a, v);
    }
}
