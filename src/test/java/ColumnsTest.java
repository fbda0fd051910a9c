import java.util.Arrays;

/** Promises 2 to 6, sentence by sentence: make, let, drop, kind, length. */
public final class ColumnsTest {
    private static final int BAD = MappingMoves.BAD, GONE = MappingMoves.GONE, BELOW = MappingMoves.BELOW;
    private static final int OUT = MappingMoves.OUT;

    public static void main(String[] args) {
        makeAtEveryPlace();
        makeOfEveryKind();
        makeInPlaceOfNumbers();
        makeInPlaceOfAShelf();
        makeInPlaceOfLetGo();
        makeTooMany();
        makeBelow();
        let();
        letOfNoCells();
        letAnew();
        letGone();
        drop();
        dropOfNone();
        kind();
        kindLetGo();
        kindGone();
        length();
        lengthGone();
        badPlaces();
        Due.end();
    }

    // ---- make

    private static void makeAtEveryPlace() {
        Due.sentence("Promise 2", "A PLACE gets a COLUMN of a KIND with n CELLS");
        MappingMoves x = new MappingMoves();
        for (int place = 0; place < 24; place++) {
            Due.is(x.make(place, place % 10, place), place);
            Due.is(x.told(0), place + 1);
        }
        for (int place = 0; place < 24; place++) {
            Due.is(x.kind(place), place % 10);
            Due.is(x.length(place), place);
        }
        Due.is(x.told(1), 276);
    }

    private static void makeOfEveryKind() {
        Due.sentence("Promise 2", "(0, or EMPTY)");
        for (int kind = 0; kind < 10; kind++) {
            MappingMoves x = new MappingMoves();
            Due.is(x.make(0, kind, 40), 40);
            for (int i = 0; i < 40; i++) {
                if (kind < 7) {
                    Due.gets(x, 0, i, 0);
                } else {
                    Due.getThrows(x, 0, i, NullPointerException.class);
                }
            }
            Due.is(x.told(3), 0);
            Due.is(x.make(0, kind, 0), 0);
            Due.is(x.length(0), 0);
        }
    }

    private static void makeInPlaceOfNumbers() {
        Due.sentence("Promise 2", "in place of what it had: n");
        for (int had = 0; had < 7; had++) {
            for (int kind = 0; kind < 10; kind++) {
                for (int n = 0; n < 4; n++) {
                    MappingMoves x = Scene.numbers(had, 8, 8);
                    Due.is(x.make(0, kind, n), n);
                    Due.is(x.kind(0), kind);
                    long[] cells = new long[n];
                    Arrays.fill(cells, kind < 7 ? 0 : -1);
                    Scene.holds(x, 0, cells);
                    Due.is(x.told(0), 1);
                }
            }
        }
    }

    private static void makeInPlaceOfAShelf() {
        Due.sentence("Promise 2", "in place of what it had");
        for (int kind = 0; kind < 10; kind++) {
            MappingMoves x = Scene.withParts();
            Scene.fill(x, 0, 7, 3, 4);
            Due.is(x.make(0, kind, 3), 3);
            long empty = kind < 7 ? 0 : -1;
            Scene.holds(x, 0, empty, empty, empty);
            Due.is(x.told(2), 5);
            Due.is(x.told(3), 0);
        }
        MappingMoves x = Scene.numbers(3, 1, 2, 3);
        x.make(0, 3, 1);
        x.make(0, 3, 3);
        Scene.holds(x, 0, 0, 0, 0);
    }

    private static void makeInPlaceOfLetGo() {
        Due.sentence("Promise 2", "A PLACE gets a COLUMN of a KIND with n CELLS (0, or EMPTY), in place of what it had");
        MappingMoves x = Scene.numbers(3, 1, 2, 3);
        x.let(0);
        Due.is(x.make(0, 3, 3), 3);
        Scene.holds(x, 0, 0, 0, 0);
        x.drop(0);
        Due.is(x.make(0, 3, 2), 2);
        Scene.holds(x, 0, 0, 0);
        Due.is(x.put(0, 2, 1), OUT);
    }

    private static void makeTooMany() {
        Due.sentence("Promise 2", "BAD: also n is above 40");
        for (int n : new int[] {41, 42, Scene.MOST}) {
            for (int place : new int[] {Scene.BYTES, Scene.GONE_INTS, Scene.ANY, Scene.NOTHING}) {
                Scene.refused(x -> x.make(place, 3, n), BAD);
                Scene.refused(x -> x.make(place, 7, n), BAD);
            }
        }
        MappingMoves x = new MappingMoves();
        Due.is(x.make(0, 3, 40), 40);
        Due.is(x.put(0, 39, 1), 1);
    }

    private static void makeBelow() {
        Due.sentence("Promise 2", "BELOW");
        for (int kind = 0; kind < 10; kind++) {
            int which = kind;
            Scene.refused(x -> x.make(Scene.ANY, which, -1), BELOW);
        }
        Scene.refused(x -> x.make(Scene.NOTHING, 0, Scene.LEAST), BELOW);
    }

    // ---- let

    private static void let() {
        Due.sentence("Promise 3", "A COLUMN is LET GO: how many CELLS it had");
        for (int kind = 0; kind < 10; kind++) {
            MappingMoves x = new MappingMoves();
            x.make(5, kind, 1);
            x.make(6, kind, 40);
            x.make(7, kind, 3);
            Due.is(x.let(6), 40);
            Due.is(x.length(6), GONE);
            Due.is(x.let(5), 1);
            Due.is(x.length(7), 3);
            Due.is(x.told(0), 3);
            Due.is(x.told(1), 3);
        }
    }

    private static void letOfNoCells() {
        Due.sentence("Promise 3", "how many CELLS it had");
        for (int kind = 0; kind < 10; kind++) {
            MappingMoves x = new MappingMoves();
            x.make(8, kind, 0);
            Due.is(x.length(8), 0);
            Due.is(x.let(8), 0);
            Due.is(x.length(8), GONE);
            Due.is(x.let(8), GONE);
        }
    }

    /** What was on a shelf is not held any more; a part was laid as often as before. */
    private static void letAnew() {
        Due.sentence("Promise 3", "A COLUMN is LET GO");
        MappingMoves x = Scene.withParts();
        Scene.fill(x, 0, 8, 1, 1, 3);
        Due.is(x.let(0), 3);
        Due.is(x.told(3), 0);
        Due.is(x.told(2), 5);
        x.make(0, 8, 3);
        Scene.holds(x, 0, -1, -1, -1);
        x.lay(0, 0, 1);
        Due.is(x.rigid(0, 0), 3);
        Due.is(x.let(0), 3);
    }

    private static void letGone() {
        Due.sentence("Promise 3", "GONE: also it was so");
        Scene.refused(x -> x.let(Scene.NOTHING), GONE);
        Scene.refused(x -> x.let(23), GONE);
        Scene.refused(x -> x.let(Scene.GONE_INTS), GONE);
        Scene.refused(x -> x.let(Scene.GONE_SHELF), GONE);
        MappingMoves x = Scene.numbers(0, 1, 2);
        Due.is(x.let(0), 2);
        Due.is(x.let(0), GONE);
        Due.is(x.let(0), GONE);
        x.drop(0);
        Due.is(x.let(0), GONE);
        Due.is(x.kind(0), GONE);
    }

    // ---- drop

    private static void drop() {
        Due.sentence("Promise 4", "A PLACE has no COLUMN any more: 1");
        for (int kind = 0; kind < 10; kind++) {
            MappingMoves x = new MappingMoves();
            x.make(23, kind, 3);
            x.make(22, kind, 0);
            x.make(21, kind, 2);
            x.let(21);
            x.make(20, kind, 40);
            for (int place = 23; place > 20; place--) {
                Due.is(x.drop(place), 1);
                Due.is(x.kind(place), GONE);
                Due.is(x.length(place), GONE);
            }
            Due.is(x.told(0), 1);
            Due.is(x.told(1), 40);
        }
        MappingMoves x = Scene.scene();
        Due.is(x.drop(Scene.ANY), 1);
        Due.is(x.told(3), 4);
        Due.is(x.told(2), 5);
    }

    private static void dropOfNone() {
        Due.sentence("Promise 4", "0 if it had none");
        Scene.refused(x -> x.drop(Scene.NOTHING), 0);
        Scene.refused(x -> x.drop(23), 0);
        MappingMoves x = Scene.scene();
        Due.is(x.drop(Scene.GONE_INTS), 1);
        Due.is(x.drop(Scene.GONE_INTS), 0);
        Due.is(x.drop(Scene.NO_CELLS), 1);
        Due.is(x.drop(Scene.NO_CELLS), 0);
    }

    // ---- kind

    private static void kind() {
        Due.sentence("Promise 5", "The KIND at a PLACE");
        MappingMoves x = new MappingMoves();
        for (int kind = 0; kind < 10; kind++) {
            x.make(kind, kind, kind % 2 * 40);
        }
        for (int kind = 0; kind < 10; kind++) {
            Due.is(x.kind(kind), kind);
        }
        x.turn(0, 6);
        Due.is(x.kind(0), 6);
        x.make(0, 9, 1);
        Due.is(x.kind(0), 9);
    }

    private static void kindLetGo() {
        Due.sentence("Promise 5", "(LET GO, too)");
        for (int kind = 0; kind < 10; kind++) {
            MappingMoves x = new MappingMoves();
            x.make(11, kind, 2);
            x.let(11);
            Due.is(x.kind(11), kind);
            x.let(11);
            Due.is(x.kind(11), kind);
        }
    }

    private static void kindGone() {
        Due.sentence("Promise 5", "GONE: there is no COLUMN");
        Scene.refused(x -> x.kind(Scene.NOTHING), GONE);
        MappingMoves x = Scene.scene();
        x.drop(Scene.BYTES);
        x.drop(Scene.GONE_SHELF);
        Due.is(x.kind(Scene.BYTES), GONE);
        Due.is(x.kind(Scene.GONE_SHELF), GONE);
    }

    // ---- length

    private static void length() {
        Due.sentence("Promise 6", "How many CELLS");
        for (int kind = 0; kind < 10; kind++) {
            MappingMoves x = new MappingMoves();
            for (int n = 0; n <= 40; n++) {
                x.make(0, kind, n);
                Due.is(x.length(0), n);
            }
        }
        MappingMoves x = Scene.numbers(0, 1, 2, 3);
        x.turn(0, 6);
        Due.is(x.length(0), 3);
    }

    private static void lengthGone() {
        Due.sentence("Promise 6", "BAD; GONE");
        Scene.refused(x -> x.length(Scene.NOTHING), GONE);
        Scene.refused(x -> x.length(Scene.GONE_INTS), GONE);
        Scene.refused(x -> x.length(Scene.GONE_SHELF), GONE);
        Scene.refused(x -> x.length(24), BAD);
    }

    private static void badPlaces() {
        for (int place : Scene.NO_PLACES) {
            Due.sentence("Promise 2", "BAD");
            Scene.refused(x -> x.make(place, 0, 0), BAD);
            Due.sentence("Promise 3", "BAD");
            Scene.refused(x -> x.let(place), BAD);
            Due.sentence("Promise 4", "BAD");
            Scene.refused(x -> x.drop(place), BAD);
            Due.sentence("Promise 5", "BAD");
            Scene.refused(x -> x.kind(place), BAD);
            Due.sentence("Promise 6", "BAD");
            Scene.refused(x -> x.length(place), BAD);
        }
        for (int kind : new int[] {-1, 10, Scene.LEAST, Scene.MOST}) {
            Due.sentence("Promise 2", "BAD");
            Scene.refused(x -> x.make(Scene.BYTES, kind, 1), BAD);
        }
    }
}
