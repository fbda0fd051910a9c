/** Promises 17 to 21, sentence by sentence: copy, copied, move, like, told. */
public final class MovesTest {
    private static final int BAD = MappingMoves.BAD, GONE = MappingMoves.GONE, OUT = MappingMoves.OUT;
    private static final int OTHER = MappingMoves.OTHER, STORE = MappingMoves.STORE;
    private static final int AS_IT_WAS = 262143;

    public static void main(String[] args) {
        copyNumbers();
        copyShelves();
        copyWhole();
        copyWithinOne();
        copyNumbersThemselves();
        copyOfNone();
        copyBad();
        copyGone();
        copyOther();
        copyOutBelow();
        copyOutBeyond();
        copyOutRunsOver();
        copyStore();
        copyBetweenShelves();
        copied();
        copiedBad();
        copiedInTheWay();
        moveByDigits();
        moveLowestFirst();
        moveAsItWas();
        moveCells();
        moveLetGo();
        moveNone();
        moveLeaves();
        moveCounts();
        moveApart();
        moveBad();
        like();
        likeOfUnlikeKinds();
        likeOfUnlikeLengths();
        likeNumbersThemselves();
        likeParts();
        likeBad();
        likeGone();
        toldColumns();
        toldCells();
        toldParts();
        toldHeld();
        toldBad();
        Due.end();
    }

    /** The digits of the fields 0 to 5. */
    private static int rule(int... digits) {
        int rule = 0;
        for (int f = digits.length - 1; f >= 0; f--) {
            rule = 8 * rule + digits[f];
        }
        return rule;
    }

    // ---- copy

    private static void copyNumbers() {
        Due.sentence("Promise 17", "n CELLS of a COLUMN from one on are copied into another one");
        for (int kind = 0; kind < 7; kind++) {
            MappingMoves x = new MappingMoves();
            Scene.fill(x, 0, kind, 1, 2, 3, 4, 5);
            Scene.fill(x, 1, kind, 9, 9, 9);
            Due.is(x.copy(0, 3, 1, 0, 2), 2);
            Scene.holds(x, 1, 4, 5, 9);
            Due.is(x.copy(0, 1, 1, 2, 1), 1);
            Scene.holds(x, 1, 4, 5, 2);
            Due.is(x.copy(0, 0, 1, 0, 3), 3);
            Scene.holds(x, 1, 1, 2, 3);
            Scene.holds(x, 0, 1, 2, 3, 4, 5);
            x.put(0, 0, 8);
            Scene.holds(x, 1, 1, 2, 3);
        }
    }

    private static void copyShelves() {
        Due.sentence("Promise 17", "n CELLS of a COLUMN from one on are copied");
        for (int kind = 7; kind < 10; kind++) {
            MappingMoves x = Scene.withParts();
            int one = kind == 9 ? 2 : 1;
            int other = kind == 9 ? 4 : 3;
            Scene.fill(x, 0, kind, one, -1, other);
            Scene.fill(x, 1, kind, other, other, other, other);
            Due.is(x.copy(0, 0, 1, 1, 2), 2);
            Scene.holds(x, 1, other, one, -1, other);
            Due.is(x.copy(1, 1, 0, 1, 2), 2);
            Scene.holds(x, 0, one, one, -1);
        }
    }

    private static void copyWhole() {
        Due.sentence("Promise 17", "from one on: n");
        for (int kind = 0; kind < 10; kind++) {
            MappingMoves x = Scene.withParts();
            x.make(0, kind, 40);
            x.make(23, kind, 40);
            for (int i = 0; i < 40; i++) {
                Due.is(kind < 7 ? x.put(0, i, i + 1) : x.lay(0, i, kind == 9 ? 2 : 1), 1);
            }
            Due.is(x.like(0, 23), 0);
            Due.is(x.copy(0, 0, 23, 0, 40), 40);
            Due.is(x.like(0, 23), 1);
            Due.is(x.copy(0, 39, 23, 0, 1), 1);
            Due.gets(x, 23, 0, kind < 7 ? 40 : kind == 9 ? 2 : 1);
            Due.is(x.copy(0, 0, 23, 39, 1), 1);
            Due.gets(x, 23, 39, kind < 7 ? 1 : kind == 9 ? 2 : 1);
        }
    }

    private static void copyWithinOne() {
        Due.sentence("Promise 17", "(or the same, as if by a copy laid aside)");
        for (int kind = 0; kind < 7; kind++) {
            MappingMoves x = new MappingMoves();
            Scene.fill(x, 2, kind, 1, 2, 3, 4, 5);
            Due.is(x.copy(2, 0, 2, 1, 4), 4);
            Scene.holds(x, 2, 1, 1, 2, 3, 4);
            Due.is(x.copy(2, 2, 2, 0, 3), 3);
            Scene.holds(x, 2, 2, 3, 4, 3, 4);
            Due.is(x.copy(2, 1, 2, 0, 4), 4);
            Scene.holds(x, 2, 3, 4, 3, 4, 4);
            Due.is(x.copy(2, 0, 2, 0, 5), 5);
            Scene.holds(x, 2, 3, 4, 3, 4, 4);
        }
        for (int kind = 7; kind < 10; kind++) {
            int one = kind == 9 ? 2 : 1;
            int other = kind == 9 ? 4 : 3;
            MappingMoves x = Scene.withParts();
            Scene.fill(x, 0, kind, one, -1, other, -1);
            Due.is(x.copy(0, 0, 0, 1, 3), 3);
            Scene.holds(x, 0, one, one, -1, other);
            Due.is(x.copy(0, 1, 0, 0, 3), 3);
            Scene.holds(x, 0, one, -1, other, other);
        }
    }

    private static void copyNumbersThemselves() {
        Due.sentence("Promise 17", "are copied into another one");
        for (int real = 5; real < 7; real++) {
            MappingMoves x = Scene.numbers(4, 1L << 61, 1L << 62);
            x.turn(0, real);
            x.make(1, real, 2);
            Due.is(x.copy(0, 0, 1, 0, 2), 2);
            Due.is(x.turn(1, 4), 1);
            Scene.holds(x, 1, 1L << 61, 1L << 62);
        }
    }

    private static void copyOfNone() {
        Due.sentence("Promise 17", "n CELLS of a COLUMN from one on");
        MappingMoves x = Scene.scene();
        Due.is(x.copy(Scene.BYTES, 0, Scene.BYTES, 0, 0), 0);
        Due.is(x.copy(Scene.BYTES, 3, Scene.BYTES, 3, 0), 0);
        Due.is(x.copy(Scene.BYTES, 3, Scene.NO_CELLS, 0, 0), 0);
        Due.is(x.copy(Scene.NO_CELLS, 0, Scene.BYTES, 3, 0), 0);
        Due.is(x.copy(Scene.NO_CELLS, 0, Scene.NO_CELLS, 0, 0), 0);
        Due.is(x.copy(Scene.ANY, 0, Scene.RIGIDS, 0, 0), 0);
        Due.is(x.copy(Scene.ANY, 4, Scene.SOFTS, 2, 0), 0);
        Due.is(x.copied(), 0);
        MappingMoves y = Scene.scene();
        y.copy(Scene.NO_CELLS, 0, Scene.NO_CELLS, 0, 0);
        Due.same(Scene.everything(x), Scene.everything(y));
    }

    private static void copyBad() {
        Due.sentence("Promise 17", "BAD: PLACES alone");
        for (int place : Scene.NO_PLACES) {
            Scene.refused(x -> x.copy(place, 0, Scene.BYTES, 0, 1), BAD);
            Scene.refused(x -> x.copy(Scene.BYTES, 0, place, 0, 1), BAD);
            Scene.refused(x -> x.copy(place, 0, Scene.NOTHING, 0, 1), BAD);
            Scene.refused(x -> x.copy(Scene.NOTHING, 0, place, 0, 1), BAD);
            Scene.refused(x -> x.copy(place, -1, place, -1, -1), BAD);
        }
        // No cell and no number of cells is BAD, however far off.
        for (int far : new int[] {-1, 41, Scene.LEAST, Scene.MOST}) {
            Scene.refusedCopy(x -> x.copy(Scene.BYTES, far, Scene.BYTES, 0, 1), OUT);
            Scene.refusedCopy(x -> x.copy(Scene.BYTES, 0, Scene.BYTES, far, 1), OUT);
            Scene.refusedCopy(x -> x.copy(Scene.BYTES, 0, Scene.BYTES, 0, far), OUT);
        }
    }

    private static void copyGone() {
        Due.sentence("Promise 17", "GONE: either is none, or LET GO");
        for (int gone : new int[] {Scene.NOTHING, Scene.GONE_INTS, Scene.GONE_SHELF}) {
            for (int place : new int[] {Scene.BYTES, Scene.LONGS, Scene.ANY, Scene.NO_CELLS, gone}) {
                Scene.refusedCopy(x -> x.copy(place, 0, gone, 0, 0), GONE);
                Scene.refusedCopy(x -> x.copy(gone, 0, place, 0, 0), GONE);
                Scene.refusedCopy(x -> x.copy(place, -1, gone, -1, -1), GONE);
                Scene.refusedCopy(x -> x.copy(gone, 99, place, 99, 99), GONE);
            }
        }
    }

    private static void copyOther() {
        Due.sentence("Promise 17", "OTHER: one is a SHELF, the other none, or NUMBERS of unlike KINDS");
        for (int one = 0; one < 10; one++) {
            for (int other = 0; other < 10; other++) {
                MappingMoves x = new MappingMoves();
                x.make(0, one, 2);
                x.make(1, other, 2);
                boolean done = one == other || one >= 7 && other >= 7;
                Due.is(x.copy(0, 0, 1, 0, 2), done ? 2 : OTHER);
                Due.is(x.copied(), done ? 2 : 0);
                Due.is(x.copy(0, 0, 1, 0, 0), done ? 0 : OTHER);
                Due.is(x.copy(0, 1, 1, 1, 2), done ? OUT : OTHER);
                Due.is(x.copy(0, 0, 1, 0, -1), done ? OUT : OTHER);
            }
        }
        Scene.refusedCopy(x -> x.copy(Scene.BYTES, 0, Scene.LONGS, 0, 1), OTHER);
        Scene.refusedCopy(x -> x.copy(Scene.ANY, 0, Scene.BYTES, 0, 1), OTHER);
        Scene.refusedCopy(x -> x.copy(Scene.FLOATS, 0, Scene.DOUBLES, 0, 1), OTHER);
    }

    /** From four cells into three, of bytes and between unlike shelves: OUT, nothing changes, and nothing was copied. */
    private static void out(int at, int to, int n) {
        int[] from = {Scene.NO_CELLS, Scene.ANY};
        int[] into = {Scene.BYTES, Scene.RIGIDS};
        for (int pair = 0; pair < 2; pair++) {
            MappingMoves x = Scene.scene();
            MappingMoves y = Scene.scene();
            x.make(Scene.NO_CELLS, 0, 4);
            y.make(Scene.NO_CELLS, 0, 4);
            Due.is(x.copy(from[pair], at, into[pair], to, n), OUT);
            Due.is(x.copied(), 0);
            y.copy(Scene.LONGS, 0, Scene.LONGS, 0, 0);
            Due.same(Scene.everything(x), Scene.everything(y));
        }
    }

    private static void copyOutBelow() {
        Due.sentence("Promise 17", "OUT: n, at, to are below 0");
        out(0, 0, -1);
        out(-1, 0, 1);
        out(0, -1, 1);
        out(-1, 0, 0);
        out(0, -1, 0);
        out(-1, -1, -1);
        out(0, 0, Scene.LEAST);
        out(Scene.LEAST, 0, 1);
        out(0, Scene.LEAST, 1);
        out(-1, 0, 4);
        out(4, 3, -1);
    }

    private static void copyOutBeyond() {
        Due.sentence("Promise 17", "or there are not so many in either");
        out(0, 0, 4);
        out(0, 1, 3);
        out(2, 0, 3);
        out(4, 0, 1);
        out(0, 3, 1);
        out(5, 0, 0);
        out(0, 4, 0);
        out(0, 0, 40);
        out(0, 0, 41);
        MappingMoves x = Scene.numbers(0, 1, 2, 3, 4);
        Scene.fill(x, 1, 0, 7, 8, 9);
        Due.is(x.copy(0, 1, 1, 0, 3), 3);
        Due.is(x.copy(0, 3, 1, 2, 1), 1);
        Due.is(x.copy(0, 4, 1, 3, 0), 0);
        Scene.holds(x, 1, 2, 3, 4);
    }

    private static void copyOutRunsOver() {
        Due.sentence("Promise 17", "there are not so many in either");
        out(Scene.MOST, 0, 1);
        out(0, Scene.MOST, 1);
        out(0, 0, Scene.MOST);
        out(1, 1, Scene.MOST);
        out(Scene.MOST, Scene.MOST, Scene.MOST);
        out(Scene.MOST, 0, 0);
        out(0, Scene.MOST, 0);
        out(Scene.LEAST, Scene.LEAST, Scene.LEAST);
        out(Scene.LEAST, Scene.LEAST, Scene.MOST);
        out(Scene.MOST, 0, Scene.LEAST);
    }

    private static void copyStore() {
        Due.sentence("Promise 17", "STORE: at the first PART that is none of those the other SHELF is for (between SHELVES of unlike KINDS): "
                + "CELLS ahead of it are copied");
        MappingMoves x = Scene.withParts();
        Scene.fill(x, 0, 7, 1, -1, 3, 2, 1);
        Scene.fill(x, 1, 8, 1, 1, 1, 1, 1);
        Scene.fill(x, 2, 9, 4, 4, 4, 4, 4);
        Due.is(x.copy(0, 0, 1, 1, 4), STORE);
        Due.is(x.copied(), 3);
        Scene.holds(x, 1, 1, 1, -1, 3, 1);
        Due.is(x.copy(0, 1, 2, 0, 2), STORE);
        Due.is(x.copied(), 1);
        Scene.holds(x, 2, -1, 4, 4, 4, 4);
        Due.is(x.copy(1, 0, 2, 0, 5), STORE);
        Due.is(x.copied(), 0);
        Scene.holds(x, 2, -1, 4, 4, 4, 4);
        Scene.fill(x, 3, 7, -1, -1, 0, -1, -1);
        Due.is(x.copy(3, 0, 1, 0, 5), STORE);
        Due.is(x.copied(), 2);
        Scene.holds(x, 1, -1, -1, -1, 3, 1);
        Due.is(x.copy(3, 0, 2, 0, 2), 2);
        Due.is(x.copy(3, 3, 2, 3, 2), 2);
        Scene.holds(x, 2, -1, -1, 4, -1, -1);
        Due.is(x.copy(2, 2, 1, 0, 1), STORE);
        Scene.holds(x, 3, -1, -1, 0, -1, -1);
    }

    private static void copyBetweenShelves() {
        Due.sentence("Promise 17", "(between SHELVES of unlike KINDS)");
        for (int from = 7; from < 10; from++) {
            for (int into = 7; into < 10; into++) {
                for (int part = -1; part < 3; part++) {
                    boolean lies = part == -1 || from == 7 || from == 7 + part;
                    if (lies) {
                        MappingMoves x = Scene.withParts();
                        Scene.fill(x, 0, from, -1, part, -1);
                        x.make(1, into, 3);
                        boolean goes = part == -1 || into == 7 || into == 7 + part;
                        Due.is(x.copy(0, 0, 1, 0, 3), goes ? 3 : STORE);
                        Due.is(x.copied(), goes ? 3 : 1);
                        Scene.holds(x, 1, -1, goes ? part : -1, -1);
                        Scene.holds(x, 0, -1, part, -1);
                    }
                }
            }
        }
    }

    // ---- copied

    private static void copied() {
        Due.sentence("Promise 18", "How many CELLS the latest copy() that was not BAD copied");
        MappingMoves x = new MappingMoves();
        Due.is(x.copied(), 0);
        x.make(0, 3, 40);
        for (int n = 40; n >= 0; n--) {
            Due.is(x.copy(0, 0, 0, 0, n), n);
            Due.is(x.copied(), n);
            Due.is(x.copied(), n);
        }
        x.copy(0, 0, 0, 1, 2);
        x.move(0, 1, 0);
        x.make(0, 4, 1);
        x.let(0);
        x.drop(0);
        Due.is(x.copied(), 2);
    }

    private static void copiedBad() {
        Due.sentence("Promise 18", "the latest copy() that was not BAD");
        MappingMoves x = Scene.scene();
        for (int place : Scene.NO_PLACES) {
            Due.is(x.copy(place, 0, Scene.BYTES, 0, 1), BAD);
            Due.is(x.copied(), 2);
            Due.is(x.copy(Scene.BYTES, 0, place, 0, 1), BAD);
            Due.is(x.copied(), 2);
        }
        MappingMoves y = new MappingMoves();
        Due.is(y.copy(0, 0, 24, 0, 1), BAD);
        Due.is(y.copied(), 0);
    }

    private static void copiedInTheWay() {
        Due.sentence("Promise 18", "How many CELLS the latest copy()");
        MappingMoves x = Scene.scene();
        Due.is(x.copy(Scene.BYTES, 0, Scene.NOTHING, 0, 1), GONE);
        Due.is(x.copied(), 0);
        x.copy(Scene.BYTES, 0, Scene.BYTES, 0, 3);
        Due.is(x.copied(), 3);
        Due.is(x.copy(Scene.GONE_INTS, 0, Scene.BYTES, 0, 1), GONE);
        Due.is(x.copied(), 0);
        x.copy(Scene.BYTES, 0, Scene.BYTES, 0, 3);
        Due.is(x.copy(Scene.BYTES, 0, Scene.LONGS, 0, 1), OTHER);
        Due.is(x.copied(), 0);
        x.copy(Scene.BYTES, 0, Scene.BYTES, 0, 3);
        Due.is(x.copy(Scene.BYTES, 0, Scene.BYTES, 1, 3), OUT);
        Due.is(x.copied(), 0);
        x.copy(Scene.BYTES, 0, Scene.BYTES, 0, 3);
        Due.is(x.copy(Scene.ANY, 2, Scene.RIGIDS, 0, 2), STORE);
        Due.is(x.copied(), 1);
    }

    // ---- move

    private static void moveByDigits() {
        Due.sentence("Promise 19", "For each FIELD f of MAPPING b: digit f (by 8, the lowest first) of rule: 0 .. 5: it gets a COLUMN like that of "
                + "this FIELD of MAPPING a");
        MappingMoves x = new MappingMoves();
        for (int f = 0; f < 5; f++) {
            Scene.fill(x, 6 + f, f, f, 10 + f);
        }
        for (int f = 0; f < 6; f++) {
            Scene.fill(x, 18 + f, 4, 100 + f);
        }
        Due.is(x.move(1, 3, rule(4, 7, 6, 0, 5, 4)), 4);
        Scene.holds(x, 18, 4, 14);
        Scene.holds(x, 19, 101);
        Due.is(x.kind(20), GONE);
        Scene.holds(x, 21, 0, 10);
        Due.is(x.kind(21), 0);
        Due.is(x.kind(22), GONE);
        Scene.holds(x, 23, 4, 14);
        Due.is(x.kind(23), 4);
        for (int f = 0; f < 5; f++) {
            Scene.holds(x, 6 + f, f, 10 + f);
        }
        Due.is(x.told(0), 9);
    }

    private static void moveLowestFirst() {
        Due.sentence("Promise 19", "digit f (by 8, the lowest first) of rule");
        for (int f = 0; f < 6; f++) {
            MappingMoves x = Scene.numbers(0, 9);
            Due.is(x.move(0, 1, 0666666 - (6 << 3 * f)), 1);
            for (int g = 0; g < 6; g++) {
                Due.is(x.kind(6 + g), f == g ? 0 : GONE);
            }
        }
        MappingMoves x = Scene.numbers(0, 9);
        Due.is(x.move(0, 1, 6), 5);
        Due.is(x.kind(6), GONE);
        Due.is(x.kind(11), 0);
        Due.is(x.move(0, 2, 0600000), 5);
        Due.is(x.kind(12), 0);
        Due.is(x.kind(17), GONE);
    }

    private static void moveAsItWas() {
        Due.sentence("Promise 19", "of MAPPING a as it was");
        MappingMoves x = Scene.withParts();
        for (int f = 0; f < 5; f++) {
            Scene.fill(x, 12 + f, 7, f, -1);
        }
        Scene.fill(x, 17, 5, 77);
        Due.is(x.move(2, 2, rule(5, 0, 1, 2, 3, 4)), 6);
        Scene.holds(x, 12, 77);
        Due.is(x.kind(12), 5);
        for (int f = 0; f < 5; f++) {
            Scene.holds(x, 13 + f, f, -1);
        }
        Due.is(x.move(2, 2, rule(1, 0, 7, 3, 6, 5)), 5);
        Scene.holds(x, 12, 0, -1);
        Scene.holds(x, 13, 77);
        Scene.holds(x, 14, 1, -1);
        Scene.holds(x, 15, 2, -1);
        Due.is(x.kind(16), GONE);
        Scene.holds(x, 17, 4, -1);
        Due.is(x.move(2, 2, rule(6, 0, 6, 6, 6, 4)), 1);
        Scene.holds(x, 13, 0, -1);
        Due.is(x.told(0), 1);
    }

    private static void moveCells() {
        Due.sentence("Promise 19", "(KIND, CELLS; LET GO, too)");
        for (int kind = 0; kind < 10; kind++) {
            for (int n : new int[] {0, 1, 40}) {
                MappingMoves x = Scene.withParts();
                x.make(0, kind, n);
                for (int i = 0; i < n; i++) {
                    Due.is(kind < 7 ? x.put(0, i, i + 1) : x.lay(0, i, kind == 9 ? 2 : 1), 1);
                }
                Due.is(x.move(0, 3, rule(6, 6, 6, 6, 6, 0)), 1);
                Due.is(x.kind(23), kind);
                Due.is(x.length(23), n);
                Due.is(x.like(0, 23), 1);
                Due.is(x.told(1), 2 * n);
                Due.is(x.told(3), kind < 7 ? 0 : 2 * n);
            }
        }
        MappingMoves x = Scene.numbers(4, 1L << 62);
        x.turn(0, 6);
        x.move(0, 1, 0);
        Due.is(x.turn(6, 4), 1);
        Due.gets(x, 6, 0, 1L << 62);
    }

    private static void moveLetGo() {
        Due.sentence("Promise 19", "LET GO, too");
        for (int kind = 0; kind < 10; kind++) {
            MappingMoves x = new MappingMoves();
            x.make(0, kind, 3);
            x.let(0);
            x.make(11, 2, 5);
            Due.is(x.move(0, 1, rule(6, 6, 6, 6, 6, 0)), 1);
            Due.is(x.kind(11), kind);
            Due.is(x.length(11), GONE);
            Due.is(x.told(0), 2);
            Due.is(x.told(1), 0);
            Due.is(x.let(11), GONE);
            Due.is(x.drop(11), 1);
            Due.is(x.kind(0), kind);
        }
    }

    private static void moveNone() {
        Due.sentence("Promise 19", "or none; 6: none");
        MappingMoves x = new MappingMoves();
        for (int f = 0; f < 6; f++) {
            Scene.fill(x, f, 3, f);
            Scene.fill(x, 6 + f, 7, -1);
        }
        x.let(4);
        Due.is(x.move(2, 0, rule(0, 7, 3, 7, 5, 7)), 3);
        for (int f = 0; f < 6; f++) {
            Due.is(x.kind(f), f % 2 == 0 ? GONE : 3);
        }
        Due.is(x.move(0, 1, rule(6, 6, 6, 6, 6, 6)), 0);
        Due.is(x.told(0), 3);
        Due.is(x.move(0, 0, rule(6, 6, 6, 6, 6, 6)), 0);
        Due.is(x.told(0), 0);
    }

    private static void moveLeaves() {
        Due.sentence("Promise 19", "7: as it was");
        Scene.refused(x -> x.move(0, 0, AS_IT_WAS), 6);
        Scene.refused(x -> x.move(3, 0, AS_IT_WAS), 6);
        Scene.refused(x -> x.move(0, 1, AS_IT_WAS), 5);
        Scene.refused(x -> x.move(0, 3, AS_IT_WAS), 0);
        for (int f = 0; f < 6; f++) {
            int field = f;
            // Each field like itself is as it was, too.
            Scene.refused(x -> x.move(0, 0, AS_IT_WAS - (7 << 3 * field) + (field << 3 * field)), 6);
        }
    }

    /** Each set of fields that get one: from field 0, or the let go one of field 1; the others from field 2, which has none, or by 6. */
    private static void moveCounts() {
        Due.sentence("Promise 19", "How many COLUMNS b has then");
        for (int has = 0; has < 64; has++) {
            MappingMoves x = new MappingMoves();
            x.make(0, 3, 1);
            x.make(1, 3, 1);
            x.let(1);
            int want = Integer.bitCount(has);
            int[] digits = new int[6];
            for (int f = 0; f < 6; f++) {
                boolean gets = ((has >> f) & 1) == 1;
                digits[f] = gets ? f % 2 : f < 3 ? 2 : 6;
            }
            Due.is(x.move(0, 2, rule(digits)), want);
            Due.is(x.told(0), 2 + want);
            Due.is(x.move(0, 2, AS_IT_WAS), want);
        }
    }

    private static void moveApart() {
        Due.sentence("Promise 19", "it gets a COLUMN like that");
        MappingMoves x = Scene.withParts();
        Scene.fill(x, 0, 6, 5, 6);
        Scene.fill(x, 1, 9, 2, -1);
        Due.is(x.move(0, 1, rule(0, 1, 0, 1, 2, 2)), 4);
        x.put(6, 0, 50);
        x.lay(7, 0, -1);
        x.put(0, 1, 60);
        Scene.holds(x, 0, 5, 60);
        Scene.holds(x, 1, 2, -1);
        Scene.holds(x, 6, 50, 6);
        Scene.holds(x, 7, -1, -1);
        Scene.holds(x, 8, 5, 6);
        Scene.holds(x, 9, 2, -1);
        x.drop(0);
        x.let(6);
        Scene.holds(x, 8, 5, 6);
        x.turn(8, 5);
        Due.is(x.kind(8), 5);
        Due.is(x.kind(6), 6);
    }

    private static void moveBad() {
        Due.sentence("Promise 19", "BAD: MAPPINGS, or rule is not 0 .. 262143");
        for (int mapping : Scene.NO_MAPPINGS) {
            Scene.refused(x -> x.move(mapping, 0, 0), BAD);
            Scene.refused(x -> x.move(0, mapping, 0), BAD);
            Scene.refused(x -> x.move(mapping, mapping, AS_IT_WAS), BAD);
        }
        for (int rule : new int[] {-1, 262144, Scene.LEAST, Scene.MOST}) {
            Scene.refused(x -> x.move(0, 1, rule), BAD);
            Scene.refused(x -> x.move(3, 3, rule), BAD);
        }
        MappingMoves x = Scene.numbers(0, 1);
        Due.is(x.move(0, 3, 0), 6);
        Due.is(x.move(3, 0, 262143), 1);
        Due.is(x.move(3, 3, 262142), 5);
    }

    // ---- like

    private static void like() {
        Due.sentence("Promise 20", "Whether two PLACES have COLUMNS of one KIND with the same CELLS (the numbers themselves; PARTS): 1, 0");
        for (int kind = 0; kind < 7; kind++) {
            MappingMoves x = new MappingMoves();
            Scene.fill(x, 0, kind, 1, 2, 3);
            Scene.fill(x, 23, kind, 1, 2, 3);
            Due.is(x.like(0, 23), 1);
            Due.is(x.like(23, 0), 1);
            Due.is(x.like(0, 0), 1);
            for (int i = 0; i < 3; i++) {
                x.put(23, i, 9);
                Due.is(x.like(0, 23), 0);
                Due.is(x.like(23, 0), 0);
                x.put(23, i, i + 1);
            }
            Due.is(x.like(0, 23), 1);
            x.make(0, kind, 40);
            x.make(23, kind, 40);
            Due.is(x.like(0, 23), 1);
            x.put(0, 39, 1);
            Due.is(x.like(0, 23), 0);
        }
    }

    private static void likeOfUnlikeKinds() {
        Due.sentence("Promise 20", "COLUMNS of one KIND");
        for (int one = 0; one < 10; one++) {
            for (int other = 0; other < 10; other++) {
                MappingMoves x = new MappingMoves();
                for (int n = 0; n < 2; n++) {
                    x.make(0, one, n);
                    x.make(1, other, n);
                    Due.is(x.like(0, 1), one == other ? 1 : 0);
                }
            }
        }
    }

    private static void likeOfUnlikeLengths() {
        Due.sentence("Promise 20", "with the same CELLS");
        for (int kind = 0; kind < 10; kind++) {
            MappingMoves x = new MappingMoves();
            for (int n : new int[] {0, 1, 39, 40}) {
                for (int m : new int[] {0, 1, 39, 40}) {
                    x.make(0, kind, n);
                    x.make(1, kind, m);
                    Due.is(x.like(0, 1), n == m ? 1 : 0);
                }
            }
        }
        // Cells that a longer column once had at this place do not count.
        MappingMoves x = Scene.numbers(3, 1, 2, 3);
        x.make(0, 3, 2);
        Scene.fill(x, 1, 3, 0, 0);
        Due.is(x.like(0, 1), 1);
    }

    private static void likeNumbersThemselves() {
        Due.sentence("Promise 20", "(the numbers themselves; PARTS)");
        for (int real = 5; real < 7; real++) {
            MappingMoves x = new MappingMoves();
            Scene.fill(x, 0, 4, 1L << 61);
            Scene.fill(x, 1, 4, 1L << 62);
            x.turn(0, real);
            x.turn(1, real);
            Due.gets(x, 0, 0, Long.MAX_VALUE);
            Due.gets(x, 1, 0, Long.MAX_VALUE);
            Due.is(x.like(0, 1), 0);
            Scene.fill(x, 1, 4, 1L << 61);
            Due.is(x.like(0, 1), 0);
            x.turn(1, real);
            Due.is(x.like(0, 1), 1);
            Scene.fill(x, 0, real, 40);
            Scene.fill(x, 1, 0, 5);
            x.turn(1, real);
            Due.is(x.like(0, 1), 1);
        }
    }

    private static void likeParts() {
        Due.sentence("Promise 20", "PARTS");
        MappingMoves x = new MappingMoves();
        x.part(1, 5);
        x.part(1, 5);
        Scene.fill(x, 0, 7, 0, -1);
        Scene.fill(x, 1, 7, 0, -1);
        Due.is(x.like(0, 1), 1);
        // Another part of the same sort and weight is another part.
        x.lay(1, 0, 1);
        Due.is(x.like(0, 1), 0);
        x.lay(1, 0, 0);
        x.lay(1, 1, 0);
        Due.is(x.like(0, 1), 0);
        x.lay(0, 1, 0);
        Due.is(x.like(0, 1), 1);
        Scene.fill(x, 1, 8, 0, 0);
        Due.is(x.like(0, 1), 0);
    }

    private static void likeBad() {
        Due.sentence("Promise 20", "BAD");
        for (int place : Scene.NO_PLACES) {
            for (int other : new int[] {Scene.BYTES, Scene.NOTHING, Scene.GONE_INTS, place}) {
                Scene.refused(x -> x.like(place, other), BAD);
                Scene.refused(x -> x.like(other, place), BAD);
            }
        }
    }

    private static void likeGone() {
        Due.sentence("Promise 20", "GONE: one is none, or LET GO");
        for (int gone : new int[] {Scene.NOTHING, Scene.GONE_INTS, Scene.GONE_SHELF}) {
            for (int other : new int[] {Scene.BYTES, Scene.ANY, Scene.NO_CELLS, Scene.NO_SHELF_CELLS, Scene.NOTHING, gone}) {
                Scene.refused(x -> x.like(gone, other), GONE);
                Scene.refused(x -> x.like(other, gone), GONE);
            }
        }
        Scene.refused(x -> x.like(Scene.BYTES, Scene.LONGS), 0);
        Scene.refused(x -> x.like(Scene.ANY, Scene.ANY), 1);
    }

    // ---- told

    private static void toldColumns() {
        Due.sentence("Promise 21", "0 COLUMNS (LET GO ones, too)");
        MappingMoves x = new MappingMoves();
        for (int place = 0; place < 24; place++) {
            Due.is(x.told(0), place);
            x.make(place, place % 10, place % 3);
        }
        Due.is(x.told(0), 24);
        for (int place = 0; place < 24; place++) {
            x.let(place);
        }
        Due.is(x.told(0), 24);
        for (int place = 0; place < 24; place++) {
            x.drop(place);
            Due.is(x.told(0), 23 - place);
        }
    }

    private static void toldCells() {
        Due.sentence("Promise 21", "1 CELLS in all");
        MappingMoves x = new MappingMoves();
        Due.is(x.told(1), 0);
        for (int place = 0; place < 24; place++) {
            x.make(place, place % 10, 40);
            Due.is(x.told(1), 40 * (place + 1));
        }
        x.let(0);
        Due.is(x.told(1), 920);
        x.drop(23);
        Due.is(x.told(1), 880);
        x.make(1, 3, 0);
        Due.is(x.told(1), 840);
        x.make(0, 3, 1);
        Due.is(x.told(1), 841);
    }

    private static void toldParts() {
        Due.sentence("Promise 21", "2 PARTS");
        MappingMoves x = new MappingMoves();
        for (int number = 0; number < 40; number++) {
            Due.is(x.told(2), number);
            x.part(number % 3, 1);
        }
        Due.is(x.told(2), 40);
        x.part(0, 1);
        Due.is(x.told(2), 40);
        x.make(0, 7, 1);
        x.lay(0, 0, 0);
        x.drop(0);
        Due.is(x.told(2), 40);
    }

    private static void toldHeld() {
        Due.sentence("Promise 21", "3 CELLS that hold a PART");
        MappingMoves x = Scene.withParts();
        Scene.fill(x, 0, 7, 0, 0, -1);
        Due.is(x.told(3), 2);
        Scene.fill(x, 23, 8, 1, -1);
        Due.is(x.told(3), 3);
        Scene.fill(x, 5, 3, 7, 8, 9, 10);
        Due.is(x.told(3), 3);
        Scene.fill(x, 7, 9, 2, 2, 2);
        Due.is(x.told(3), 6);
        x.copy(0, 0, 0, 1, 2);
        Due.is(x.told(3), 7);
        x.lay(0, 0, -1);
        Due.is(x.told(3), 6);
        x.let(7);
        Due.is(x.told(3), 3);
        x.drop(0);
        Due.is(x.told(3), 1);
        x.make(23, 3, 2);
        Due.is(x.told(3), 0);
    }

    private static void toldBad() {
        Due.sentence("Promise 21", "BAD");
        for (int what : new int[] {-1, 4, Scene.LEAST, Scene.MOST}) {
            Scene.refused(x -> x.told(what), BAD);
        }
    }
}
