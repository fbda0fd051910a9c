/** 'Terms' of the document, sentence by sentence, in the calls that each of them binds. */
public final class TermsTest {
    private static final int BAD = MappingMoves.BAD, FULL = MappingMoves.FULL, GONE = MappingMoves.GONE;
    private static final int OUT = MappingMoves.OUT, OTHER = MappingMoves.OTHER, STORE = MappingMoves.STORE;
    private static final int CAST = MappingMoves.CAST, BELOW = MappingMoves.BELOW;
    private static final Class<NullPointerException> NONE_THERE = NullPointerException.class;
    private static final Class<ArrayIndexOutOfBoundsException> OUTSIDE = ArrayIndexOutOfBoundsException.class;

    public static void main(String[] args) {
        lastCall();
        places();
        noSuchPlaces();
        mappingsAndFields();
        noColumnAtFirst();
        cellsNumberedFromZero();
        letGo();
        kinds();
        kindsOfNumbers();
        lowestBitsWithSign();
        lowestBitsWithoutSign();
        nearestFloat();
        nearestDouble();
        toldTimesEight();
        toldBeyondAllLongs();
        partsAsTheyCome();
        partsFull();
        weights();
        plainWeighed();
        rigidWeighed();
        softHalved();
        softOddTimes();
        faultCodes();
        emptyOrAPart();
        onePartInMany();
        badFirst();
        fullAfterBad();
        gone();
        out();
        other();
        store();
        cast();
        below();
        wayOrder();
        changesNothing();
        copyIsLeftPartly();
        Due.end();
    }

    private static void lastCall() {
        Due.sentence("What it is", "An object is used for at most 512 calls after it has been made");
        MappingMoves x = new MappingMoves();
        x.make(0, 7, 1);
        x.part(1, 1000);
        for (int call = 3; call < 512; call++) {
            Due.is(x.lay(0, 0, 0), 1);
        }
        Due.is(x.weigh(0, 0), 1000 + 3 * 509);
    }

    // ---- places, mappings, columns

    private static void places() {
        Due.sentence("Terms", "PLACES are 0 .. 23");
        MappingMoves x = new MappingMoves();
        for (int place = 0; place < 24; place++) {
            Due.is(x.make(place, 4, 1), 1);
            Due.is(x.put(place, 0, 100 + place), 1);
        }
        for (int place = 0; place < 24; place++) {
            Due.gets(x, place, 0, 100 + place);
            Due.is(x.sum(place, 4), 100 + place);
            Due.is(x.turn(place, 0), 1);
            Due.is(x.like(place, place), 1);
            Due.is(x.copy(place, 0, 23 - place, 0, 0), place < 12 ? OTHER : 0);
            Due.is(x.let(place), 1);
            Due.is(x.drop(place), 1);
            Due.is(x.make(place, 0, 0), 0);
        }
    }

    private static void noSuchPlaces() {
        Due.sentence("Terms", "BAD -1: a PLACE, KIND, PART (there is none such) or other number is not as told");
        for (int place : Scene.NO_PLACES) {
            Scene.refused(x -> x.make(place, 0, 1), BAD);
            Scene.refused(x -> x.let(place), BAD);
            Scene.refused(x -> x.drop(place), BAD);
            Scene.refused(x -> x.kind(place), BAD);
            Scene.refused(x -> x.length(place), BAD);
            Scene.refused(x -> x.put(place, 0, 1), BAD);
            Scene.refused(x -> x.sum(place, 0), BAD);
            Scene.refused(x -> x.turn(place, 0), BAD);
            Scene.refused(x -> x.lay(place, 0, 0), BAD);
            Scene.refused(x -> x.weigh(place, 0), BAD);
            Scene.refused(x -> x.rigid(place, 0), BAD);
            Scene.refused(x -> x.raise(place, 0), BAD);
            Scene.refused(x -> x.copy(place, 0, Scene.BYTES, 0, 1), BAD);
            Scene.refused(x -> x.copy(Scene.BYTES, 0, place, 0, 1), BAD);
            Scene.refused(x -> x.like(place, Scene.BYTES), BAD);
            Scene.refused(x -> x.like(Scene.BYTES, place), BAD);
            Scene.refusedGet(place, 0, OUTSIDE);
        }
    }

    private static void mappingsAndFields() {
        Due.sentence("Terms", "6 for each of four MAPPINGS (6 * MAPPING + its FIELD)");
        for (int way = 0; way < 4 * 4 * 6 * 6; way++) {
            int a = way % 4;
            int b = way / 4 % 4;
            int source = way / 16 % 6;
            int target = way / 96;
            MappingMoves x = new MappingMoves();
            Scene.fill(x, 6 * a + source, 3, 7);
            int noneElsewhere = 0666666 - (6 << 3 * target);
            Due.is(x.move(a, b, noneElsewhere + (source << 3 * target)), 1);
            Due.gets(x, 6 * b + target, 0, 7);
            Due.is(x.told(0), a == b ? 1 : 2);
        }
    }

    private static void noColumnAtFirst() {
        Due.sentence("Terms", "A PLACE has no COLUMN at first");
        MappingMoves x = new MappingMoves();
        for (int place = 0; place < 24; place++) {
            Due.is(x.kind(place), GONE);
            Due.is(x.drop(place), 0);
        }
    }

    private static void cellsNumberedFromZero() {
        Due.sentence("Terms", "a COLUMN has a KIND and 0 .. 40 CELLS, numbered from 0");
        for (int kind = 0; kind < 10; kind++) {
            for (int n : new int[] {0, 1, 2, 39, 40}) {
                MappingMoves x = Scene.withParts();
                Due.is(x.make(0, kind, n), n);
                Due.is(x.kind(0), kind);
                Due.is(x.length(0), n);
                int part = kind == 9 ? 2 : 1;
                for (int i : new int[] {-1, 0, n - 1, n}) {
                    int want = i >= 0 && i < n ? 1 : OUT;
                    Due.is(kind < 7 ? x.put(0, i, 1) : x.lay(0, i, part), want);
                }
            }
        }
    }

    private static void letGo() {
        Due.sentence("Terms", "it may be LET GO: its KIND stays, its CELLS are gone");
        for (int kind = 0; kind < 10; kind++) {
            for (int n : new int[] {0, 3, 40}) {
                MappingMoves x = new MappingMoves();
                x.make(0, kind, n);
                Due.is(x.let(0), n);
                Due.is(x.kind(0), kind);
                Due.is(x.length(0), GONE);
                Due.getThrows(x, 0, 0, NONE_THERE);
                Due.is(x.told(0), 1);
                Due.is(x.told(1), 0);
            }
        }
    }

    private static void kinds() {
        Due.sentence("Terms", "KINDS: 0 BYTES (8 bits with sign), 1 SHORTS (16, with sign), 2 CHARS (16, without), 3 INTS (32), "
                + "4 LONGS (64), 5 FLOATS, 6 DOUBLES; 7 SHELVES of any PARTS, 8 of RIGID ones, 9 of SOFT ones");
        for (int kind : new int[] {-1, 10, Scene.LEAST, Scene.MOST}) {
            Scene.refused(x -> x.make(0, kind, 1), BAD);
            Scene.refused(x -> x.sum(0, kind), BAD);
            Scene.refused(x -> x.turn(0, kind), BAD);
        }
        long v = 0x123456789abcdef1L;
        long[] tell = {(byte) 0xf1, (short) 0xdef1, 0xdef1, (int) 0x9abcdef1L, v, 0x1234568000000000L, 0x123456789abcdf00L};
        for (int kind = 0; kind < 7; kind++) {
            Due.gets(Scene.numbers(kind, v), 0, 0, tell[kind]);
        }
        boolean[][] takes = {{true, true, true}, {false, true, false}, {false, false, true}};
        for (int kind = 7; kind < 10; kind++) {
            for (int part = 0; part < 3; part++) {
                MappingMoves x = Scene.withParts();
                x.make(0, kind, 1);
                Due.is(x.lay(0, 0, part), takes[kind - 7][part] ? 1 : STORE);
            }
        }
    }

    private static void kindsOfNumbers() {
        Due.sentence("Terms", "NUMBERS (KINDS 0 .. 6) are told as a long v");
        for (int kind = 0; kind < 10; kind++) {
            MappingMoves x = new MappingMoves();
            x.make(0, kind, 1);
            Due.is(x.put(0, 0, 8), kind < 7 ? 1 : OTHER);
            Due.is(x.sum(0, kind), kind < 7 ? 8 : BAD);
            Due.is(x.turn(0, kind), kind < 7 ? 1 : BAD);
        }
    }

    // ---- numbers

    private static void tells(int kind, long v, long want) {
        Due.gets(Scene.numbers(kind, v), 0, 0, want);
    }

    private static void lowestBitsWithSign() {
        Due.sentence("Terms", "a CELL of 0 to 4 gets the lowest bits of it, and tells what it is");
        int[] kinds = {0, 1, 3};
        int[] bits = {8, 16, 32};
        for (int k = 0; k < 3; k++) {
            long half = 1L << (bits[k] - 1);
            tells(kinds[k], half - 1, half - 1);
            tells(kinds[k], half, -half);
            tells(kinds[k], -half, -half);
            tells(kinds[k], -half - 1, half - 1);
            tells(kinds[k], 2 * half - 1, -1);
            tells(kinds[k], 2 * half, 0);
            tells(kinds[k], 2 * half + 1, 1);
            tells(kinds[k], -1, -1);
            tells(kinds[k], Long.MAX_VALUE, -1);
            tells(kinds[k], Long.MIN_VALUE, 0);
        }
        tells(4, Long.MAX_VALUE, Long.MAX_VALUE);
        tells(4, Long.MIN_VALUE, Long.MIN_VALUE);
    }

    private static void lowestBitsWithoutSign() {
        Due.sentence("Terms", "2 CHARS (16, without)");
        tells(2, 65535, 65535);
        tells(2, 65536, 0);
        tells(2, 65537, 1);
        tells(2, 32768, 32768);
        tells(2, -1, 65535);
        tells(2, -32768, 32768);
        tells(2, -65536, 0);
        tells(2, Long.MAX_VALUE, 65535);
        tells(2, Long.MIN_VALUE, 0);
    }

    private static void nearestFloat() {
        Due.sentence("Terms", "one of 5 gets v as a float (the nearest one) by 8.0f");
        for (int sign = -1; sign <= 1; sign += 2) {
            tells(5, sign * 16777215L, sign * 16777215L);
            tells(5, sign * 16777216L, sign * 16777216L);
            tells(5, sign * 16777217L, sign * 16777216L);
            tells(5, sign * 16777218L, sign * 16777218L);
            tells(5, sign * 16777219L, sign * 16777220L);
            // To the nearest float at once: by way of the nearest double it would be the one nearer to 0.
            tells(5, sign * ((1L << 54) + (1L << 30) + 1), sign * ((1L << 54) + (1L << 31)));
        }
        tells(5, Long.MAX_VALUE - (1L << 39) + 1, Long.MAX_VALUE - (1L << 39) + 1);
        tells(5, Long.MAX_VALUE - (1L << 38), Long.MAX_VALUE - (1L << 39) + 1);
        tells(5, Long.MAX_VALUE - (1L << 38) + 1, Long.MAX_VALUE);
    }

    private static void nearestDouble() {
        Due.sentence("Terms", "one of 6 v as a double by 8.0");
        for (int sign = -1; sign <= 1; sign += 2) {
            tells(6, sign * 16777217L, sign * 16777217L);
            tells(6, sign * ((1L << 53) - 1), sign * ((1L << 53) - 1));
            tells(6, sign * (1L << 53), sign * (1L << 53));
            tells(6, sign * ((1L << 53) + 1), sign * (1L << 53));
            tells(6, sign * ((1L << 53) + 2), sign * ((1L << 53) + 2));
            tells(6, sign * ((1L << 53) + 3), sign * ((1L << 53) + 4));
        }
        tells(6, Long.MAX_VALUE - 1023, Long.MAX_VALUE - 1023);
        tells(6, Long.MAX_VALUE - 512, Long.MAX_VALUE - 1023);
        tells(6, Long.MAX_VALUE - 511, Long.MAX_VALUE);
    }

    private static void toldTimesEight() {
        Due.sentence("Terms", "they tell themselves times 8.0f, 8.0, without what is behind the point");
        for (int kind = 5; kind < 7; kind++) {
            for (long v : new long[] {0, 1, -1, 7, -7, 8, 9, -9}) {
                tells(kind, v, v);
            }
            MappingMoves x = Scene.numbers(0, 127, -128, 1, 0);
            Due.is(x.turn(0, kind), 1);
            Scene.holds(x, 0, 8 * 127, 8 * -128, 8, 0);
        }
    }

    private static void toldBeyondAllLongs() {
        Due.sentence("Terms", "(what is beyond all longs as the greatest or least one: as Java casts)");
        for (int kind = 5; kind < 7; kind++) {
            tells(kind, Long.MAX_VALUE, Long.MAX_VALUE);
            tells(kind, Long.MIN_VALUE, Long.MIN_VALUE);
            long below = (1L << 60) - (1L << 36);
            MappingMoves x = Scene.numbers(4, below, 1L << 60, 1L << 61, 1L << 62, -below, -(1L << 60), -(1L << 61), Long.MIN_VALUE);
            Due.is(x.turn(0, kind), 1);
            Scene.holds(x, 0, 8 * below, Long.MAX_VALUE, Long.MAX_VALUE, Long.MAX_VALUE,
                    -8 * below, Long.MIN_VALUE, Long.MIN_VALUE, Long.MIN_VALUE);
        }
    }

    // ---- parts

    private static void partsAsTheyCome() {
        Due.sentence("Terms", "PARTS 0 .. 39, numbered as they come, are PLAIN, RIGID or SOFT");
        MappingMoves x = new MappingMoves();
        x.make(0, 7, 40);
        for (int number = 0; number < 40; number++) {
            Due.is(x.fault(number, 0), BAD);
            Due.is(x.lay(0, number, number), BAD);
            Due.is(x.part(number % 3, number), number);
            Due.is(x.fault(number, 0), 1);
            Due.is(x.lay(0, number, number), 1);
            Due.gets(x, 0, number, number);
            Due.is(x.rigid(0, number), number % 3 == 1 ? 1 : CAST);
        }
    }

    private static void partsFull() {
        Due.sentence("Terms", "FULL -2");
        MappingMoves x = new MappingMoves();
        for (int number = 0; number < 40; number++) {
            x.part(0, 0);
        }
        Due.is(x.part(0, 0), FULL);
        Due.is(x.part(1, 1000), FULL);
        Due.is(x.told(2), 40);
        Due.is(x.fault(39, 0), 1);
        for (int part : new int[] {40, 41, Scene.MOST, -1, -2, Scene.LEAST}) {
            Due.is(x.fault(part, 0), BAD);
        }
    }

    private static void weights() {
        Due.sentence("Terms", "with a WEIGHT w (0 .. 1000)");
        for (int w : new int[] {-1, 1001, Scene.LEAST, Scene.MOST}) {
            for (int sort = 0; sort < 3; sort++) {
                int which = sort;
                Scene.refused(x -> x.part(which, w), BAD);
            }
        }
        int[][] weighed = {{0, 1000}, {3, 1003}, {1, 501}};
        for (int sort = 0; sort < 3; sort++) {
            MappingMoves x = new MappingMoves();
            Due.is(x.part(sort, 0), 0);
            Due.is(x.part(sort, 1000), 1);
            Scene.fill(x, 0, 7, 0, 1);
            Due.is(x.weigh(0, 0), weighed[sort][0]);
            Due.is(x.weigh(0, 1), weighed[sort][1]);
        }
    }

    /** The part's weight each time it was laid once more. */
    private static void weighedAsLaid(int sort, int w, int... due) {
        MappingMoves x = new MappingMoves();
        x.part(sort, w);
        x.make(0, 7, 1);
        for (int weight : due) {
            x.lay(0, 0, 0);
            Due.is(x.weigh(0, 0), weight);
        }
    }

    private static void plainWeighed() {
        Due.sentence("Terms", "WEIGHED they are: PLAIN: w");
        weighedAsLaid(0, 17, 17, 17, 17, 17);
        weighedAsLaid(0, 0, 0, 0, 0);
    }

    private static void rigidWeighed() {
        Due.sentence("Terms", "RIGID: w and 3 for each time it was LAID");
        weighedAsLaid(1, 17, 20, 23, 26, 29);
        weighedAsLaid(1, 0, 3, 6, 9);
    }

    private static void softHalved() {
        Due.sentence("Terms", "SOFT: half of w (without what is behind the point)");
        weighedAsLaid(2, 0, 1);
        weighedAsLaid(2, 1, 1);
        weighedAsLaid(2, 2, 2);
        weighedAsLaid(2, 3, 2);
        weighedAsLaid(2, 999, 500);
        weighedAsLaid(2, 1000, 501);
    }

    private static void softOddTimes() {
        Due.sentence("Terms", "and 1 for each odd time it was LAID, one after the other (1st, 3rd, ..)");
        weighedAsLaid(2, 0, 1, 1, 2, 2, 3, 3, 4, 4, 5);
        weighedAsLaid(2, 1, 1, 1, 2, 2, 3, 3, 4, 4, 5);
    }

    private static void faultCodes() {
        Due.sentence("Terms", "A PART may have a FAULT, a code 0 .. 9");
        for (int code = 0; code < 10; code++) {
            MappingMoves x = Scene.scene();
            Due.is(x.raise(Scene.ANY, 2), GONE);
            Due.is(x.fault(1, code), 1);
            Due.is(x.raise(Scene.ANY, 2), -30 - code);
        }
        for (int code : new int[] {-2, 10, Scene.LEAST, Scene.MOST}) {
            Scene.refused(x -> x.fault(1, code), BAD);
        }
    }

    private static void emptyOrAPart() {
        Due.sentence("Terms", "CELLS of SHELVES are EMPTY, or hold a PART");
        for (int kind = 7; kind < 10; kind++) {
            MappingMoves x = Scene.withParts();
            x.make(0, kind, 2);
            Scene.holds(x, 0, -1, -1);
            int part = kind == 9 ? 2 : 1;
            x.lay(0, 1, part);
            Scene.holds(x, 0, -1, part);
        }
    }

    private static void onePartInMany() {
        Due.sentence("Terms", "one PART may lie in many");
        MappingMoves x = Scene.withParts();
        x.make(0, 7, 40);
        x.make(23, 8, 40);
        for (int i = 0; i < 40; i++) {
            Due.is(x.lay(0, i, 1), 1);
            Due.is(x.lay(23, i, 1), 1);
        }
        Due.is(x.told(3), 80);
        for (int i = 0; i < 40; i++) {
            Due.gets(x, 0, i, 1);
            Due.is(x.rigid(23, i), 80);
            Due.is(x.weigh(0, i), 20 + 3 * 80);
        }
    }

    // ---- the answers below 0

    private static void badFirst() {
        Due.sentence("Terms", "these first");
        int none = Scene.NOTHING, letGo = Scene.GONE_INTS, letGoShelf = Scene.GONE_SHELF;
        Scene.refused(x -> x.make(24, 0, -1), BAD);
        Scene.refused(x -> x.make(0, 10, -1), BAD);
        Scene.refused(x -> x.make(0, -1, Scene.LEAST), BAD);
        for (int kind : new int[] {-1, 7}) {
            Scene.refused(x -> x.sum(none, kind), BAD);
            Scene.refused(x -> x.sum(letGo, kind), BAD);
            Scene.refused(x -> x.turn(none, kind), BAD);
            Scene.refused(x -> x.turn(letGo, kind), BAD);
            Scene.refused(x -> x.turn(Scene.ANY, kind), BAD);
        }
        for (int part : new int[] {-2, 5}) {
            Scene.refused(x -> x.lay(none, 0, part), BAD);
            Scene.refused(x -> x.lay(letGoShelf, 0, part), BAD);
            Scene.refused(x -> x.lay(Scene.BYTES, 0, part), BAD);
            Scene.refused(x -> x.lay(Scene.ANY, 4, part), BAD);
        }
        Scene.refused(x -> x.copy(none, 0, 24, 0, 1), BAD);
        Scene.refused(x -> x.copy(-1, 0, letGo, 0, 1), BAD);
        Scene.refused(x -> x.copy(Scene.BYTES, -1, 24, -1, -1), BAD);
        Scene.refused(x -> x.like(none, 24), BAD);
        Scene.refused(x -> x.like(-1, letGo), BAD);
    }

    private static void fullAfterBad() {
        Due.sentence("Terms", "or other number is not as told, FULL -2; these first");
        MappingMoves x = new MappingMoves();
        for (int number = 0; number < 40; number++) {
            x.part(0, 0);
        }
        Due.is(x.part(-1, 0), BAD);
        Due.is(x.part(3, 0), BAD);
        Due.is(x.part(0, -1), BAD);
        Due.is(x.part(0, 1001), BAD);
        Due.is(x.part(2, 1000), FULL);
    }

    private static void gone() {
        Due.sentence("Terms", "GONE -11: there is no COLUMN, it was LET GO, or a CELL that is looked into is EMPTY");
        for (int place : new int[] {Scene.NOTHING, Scene.GONE_SHELF}) {
            Scene.refused(x -> x.let(place), -11);
            Scene.refused(x -> x.length(place), -11);
            Scene.refused(x -> x.lay(place, 0, 0), -11);
            Scene.refused(x -> x.lay(place, 0, -1), -11);
            Scene.refused(x -> x.weigh(place, 0), -11);
            Scene.refused(x -> x.rigid(place, 0), -11);
            Scene.refused(x -> x.raise(place, 0), -11);
            Scene.refused(x -> x.like(place, Scene.ANY), -11);
            Scene.refused(x -> x.like(Scene.ANY, place), -11);
        }
        for (int place : new int[] {Scene.NOTHING, Scene.GONE_INTS}) {
            Scene.refused(x -> x.put(place, 0, 1), -11);
            Scene.refused(x -> x.sum(place, 3), -11);
            Scene.refused(x -> x.turn(place, 3), -11);
        }
        Scene.refused(x -> x.kind(Scene.NOTHING), -11);
        Scene.refused(x -> x.weigh(Scene.ANY, 1), -11);
        Scene.refused(x -> x.rigid(Scene.RIGIDS, 1), -11);
        Scene.refused(x -> x.raise(Scene.ANY, 1), -11);
    }

    private static void out() {
        Due.sentence("Terms", "OUT -12: there is no such CELL");
        for (int i : new int[] {-1, 4, 40, Scene.LEAST, Scene.MOST}) {
            Scene.refused(x -> x.put(Scene.BYTES, i, 1), -12);
            Scene.refused(x -> x.lay(Scene.ANY, i, 0), -12);
            Scene.refused(x -> x.lay(Scene.ANY, i, -1), -12);
            Scene.refused(x -> x.weigh(Scene.ANY, i), -12);
            Scene.refused(x -> x.rigid(Scene.ANY, i), -12);
            Scene.refused(x -> x.raise(Scene.ANY, i), -12);
        }
        Scene.refused(x -> x.put(Scene.NO_CELLS, 0, 1), -12);
        Scene.refused(x -> x.lay(Scene.NO_SHELF_CELLS, 0, 0), -12);
        Scene.refused(x -> x.weigh(Scene.NO_SHELF_CELLS, 0), -12);
        Scene.refused(x -> x.rigid(Scene.NO_SHELF_CELLS, 0), -12);
        Scene.refused(x -> x.raise(Scene.NO_SHELF_CELLS, 0), -12);
    }

    private static void other() {
        Due.sentence("Terms", "OTHER -13: a COLUMN is of a KIND with which that is not done");
        for (int place : new int[] {Scene.ANY, Scene.RIGIDS, Scene.SOFTS}) {
            Scene.refused(x -> x.put(place, 0, 1), -13);
            Scene.refused(x -> x.turn(place, 0), -13);
        }
        for (int place : new int[] {Scene.BYTES, Scene.LONGS, Scene.FLOATS, Scene.DOUBLES}) {
            Scene.refused(x -> x.lay(place, 0, 0), -13);
            Scene.refused(x -> x.weigh(place, 0), -13);
            Scene.refused(x -> x.rigid(place, 0), -13);
            Scene.refused(x -> x.raise(place, 0), -13);
        }
    }

    private static void store() {
        Due.sentence("Terms", "STORE -14: a PART is none of those that a SHELF is for");
        Scene.refused(x -> x.lay(Scene.RIGIDS, 0, 0), -14);
        Scene.refused(x -> x.lay(Scene.RIGIDS, 1, 2), -14);
        Scene.refused(x -> x.lay(Scene.SOFTS, 0, 0), -14);
        Scene.refused(x -> x.lay(Scene.SOFTS, 1, 3), -14);
    }

    private static void cast() {
        Due.sentence("Terms", "CAST -15: it is not what is asked");
        Scene.refused(x -> x.sum(Scene.BYTES, 1), -15);
        Scene.refused(x -> x.rigid(Scene.ANY, 0), -15);
        Scene.refused(x -> x.rigid(Scene.SOFTS, 0), -15);
    }

    private static void below() {
        Due.sentence("Terms", "BELOW -16: a number of CELLS is below 0");
        for (int n : new int[] {-1, -40, Scene.LEAST}) {
            Scene.refused(x -> x.make(Scene.BYTES, 0, n), BELOW);
            Scene.refused(x -> x.make(Scene.ANY, 9, n), BELOW);
            Scene.refused(x -> x.make(Scene.NOTHING, 3, n), BELOW);
            Scene.refused(x -> x.make(Scene.GONE_INTS, 3, n), -16);
        }
    }

    private static void wayOrder() {
        Due.sentence("Terms", "Then, by what is met first where something is done as told, what is in the way");
        Scene.refused(x -> x.put(Scene.NOTHING, 99, 1), GONE);
        Scene.refused(x -> x.put(Scene.GONE_SHELF, 99, 1), OTHER);
        Scene.refused(x -> x.put(Scene.GONE_INTS, 99, 1), GONE);
        Scene.refused(x -> x.sum(Scene.GONE_INTS, 4), CAST);
        Scene.refused(x -> x.turn(Scene.GONE_SHELF, 0), OTHER);
        Scene.refused(x -> x.lay(Scene.GONE_INTS, 99, 0), OTHER);
        Scene.refused(x -> x.lay(Scene.GONE_SHELF, 99, 0), GONE);
        Scene.refused(x -> x.lay(Scene.RIGIDS, 3, 0), OUT);
        Scene.refused(x -> x.rigid(Scene.GONE_INTS, 99), OTHER);
        Scene.refusedCopy(x -> x.copy(Scene.BYTES, -1, Scene.GONE_SHELF, -1, -1), GONE);
        Scene.refusedCopy(x -> x.copy(Scene.BYTES, -1, Scene.ANY, -1, -1), OTHER);
        Scene.refusedCopy(x -> x.copy(Scene.ANY, 0, Scene.RIGIDS, 0, 4), OUT);
        Scene.refusedGet(24, -1, OUTSIDE);
        Scene.refusedGet(Scene.NOTHING, 99, NONE_THERE);
        Scene.refusedGet(Scene.GONE_SHELF, 99, NONE_THERE);
    }

    private static void changesNothing() {
        Due.sentence("Terms", "What is in the way changes nothing");
        Scene.refused(x -> x.turn(Scene.BYTES, 2), -22);
        Scene.refused(x -> x.turn(Scene.LONGS, 6), -20);
        Scene.refused(x -> x.turn(Scene.DOUBLES, 3), -20);
        Scene.refused(x -> x.turn(Scene.FLOATS, 0), -20);
        Scene.refused(x -> x.raise(Scene.RIGIDS, 2), -37);
        Scene.refused(x -> x.raise(Scene.RIGIDS, 0), GONE);
        Scene.refused(x -> x.move(4, 0, 0), BAD);
        Scene.refused(x -> x.move(0, 1, 262144), BAD);
        Scene.refused(x -> x.told(4), BAD);
        Scene.refusedCopy(x -> x.copy(Scene.RIGIDS, 0, Scene.SOFTS, 0, 2), STORE);
    }

    private static void copyIsLeftPartly() {
        Due.sentence("Terms", "(but for copy(), where CELLS ahead of it stay copied, and what copied() tells)");
        MappingMoves x = Scene.scene();
        Due.is(x.copied(), 2);
        Due.is(x.copy(Scene.ANY, 1, Scene.RIGIDS, 0, 3), STORE);
        Due.is(x.copied(), 2);
        Scene.holds(x, Scene.RIGIDS, -1, 1, 3);
        Scene.holds(x, Scene.ANY, 0, -1, 1, 2);
        Due.is(x.copy(Scene.ANY, 1, Scene.SOFTS, 1, 1), 1);
        Due.is(x.copy(Scene.ANY, 0, Scene.BYTES, 0, 1), OTHER);
        Due.is(x.copied(), 0);
    }
}
