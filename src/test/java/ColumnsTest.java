/** Promises 2 to 6: make, let, drop, kind, length. */
public final class ColumnsTest {
    private static final int BAD = MappingMoves.BAD, GONE = MappingMoves.GONE, BELOW = MappingMoves.BELOW;
    private static final int[] NO_PLACES = {-1, 24, Integer.MIN_VALUE, Integer.MAX_VALUE};

    public static void main(String[] args) {
        makeAtEveryPlace();
        makeOfEveryKind();
        makeInPlaceOfWhatItHad();
        makeOfWrongNumbers();
        let();
        drop();
        kind();
        length();
        noSuchPlaces();
        Due.end();
    }

    private static void makeAtEveryPlace() {
        MappingMoves x = new MappingMoves();
        for (int place = 0; place < 24; place++) {
            Due.is(x.make(place, place % 10, place), place);
        }
        for (int place = 0; place < 24; place++) {
            Due.is(x.kind(place), place % 10);
            Due.is(x.length(place), place);
        }
    }

    private static void makeOfEveryKind() {
        MappingMoves x = new MappingMoves();
        for (int kind = 0; kind < 10; kind++) {
            Due.is(x.make(kind, kind, 40), 40);
            for (int i = 0; i < 40; i++) {
                if (kind < 7) {
                    Due.gets(x, kind, i, 0);
                } else {
                    Due.getThrows(x, kind, i, NullPointerException.class);
                }
            }
            Due.is(x.make(kind, kind, 0), 0);
            Due.is(x.length(kind), 0);
        }
    }

    private static void makeInPlaceOfWhatItHad() {
        MappingMoves x = new MappingMoves();
        x.make(3, 4, 5);
        x.put(3, 4, 99);
        Due.is(x.make(3, 4, 6), 6);
        Due.gets(x, 3, 4, 0);
        x.put(3, 5, 7);
        Due.is(x.make(3, 7, 6), 6);
        Due.getThrows(x, 3, 5, NullPointerException.class);
        x.part(0, 1);
        x.lay(3, 0, 0);
        Due.is(x.make(3, 6, 2), 2);
        Due.gets(x, 3, 0, 0);
        x.put(3, 0, 11);
        Due.is(x.make(3, 5, 2), 2);
        Due.gets(x, 3, 0, 0);
        x.let(3);
        Due.is(x.make(3, 0, 1), 1);
        Due.is(x.length(3), 1);
        Due.is(x.told(0), 1);
    }

    private static void makeOfWrongNumbers() {
        MappingMoves x = new MappingMoves();
        x.make(0, 3, 2);
        x.put(0, 1, 5);
        Due.is(x.make(0, -1, 3), BAD);
        Due.is(x.make(0, 10, 3), BAD);
        Due.is(x.make(0, Integer.MAX_VALUE, 3), BAD);
        Due.is(x.make(0, 0, 41), BAD);
        Due.is(x.make(0, 0, Integer.MAX_VALUE), BAD);
        Due.is(x.make(0, 0, -1), BELOW);
        Due.is(x.make(0, 0, Integer.MIN_VALUE), BELOW);
        Due.is(x.make(24, 0, -1), BAD);
        Due.is(x.make(0, 10, -1), BAD);
        Due.is(x.kind(0), 3);
        Due.is(x.length(0), 2);
        Due.gets(x, 0, 1, 5);
    }

    private static void let() {
        MappingMoves x = new MappingMoves();
        Due.is(x.let(7), GONE);
        x.make(7, 2, 12);
        Due.is(x.let(7), 12);
        Due.is(x.let(7), GONE);
        x.make(8, 9, 0);
        Due.is(x.let(8), 0);
        Due.is(x.let(8), GONE);
        Due.is(x.told(0), 2);
        Due.is(x.told(1), 0);
    }

    private static void drop() {
        MappingMoves x = new MappingMoves();
        Due.is(x.drop(23), 0);
        x.make(23, 8, 3);
        Due.is(x.drop(23), 1);
        Due.is(x.drop(23), 0);
        Due.is(x.kind(23), GONE);
        x.make(23, 1, 3);
        x.let(23);
        Due.is(x.drop(23), 1);
        Due.is(x.drop(23), 0);
        Due.is(x.told(0), 0);
    }

    private static void kind() {
        MappingMoves x = new MappingMoves();
        Due.is(x.kind(11), GONE);
        x.make(11, 0, 1);
        Due.is(x.kind(11), 0);
        x.let(11);
        Due.is(x.kind(11), 0);
        x.make(11, 9, 0);
        Due.is(x.kind(11), 9);
        x.let(11);
        Due.is(x.kind(11), 9);
        x.drop(11);
        Due.is(x.kind(11), GONE);
    }

    private static void length() {
        MappingMoves x = new MappingMoves();
        Due.is(x.length(0), GONE);
        x.make(0, 7, 40);
        Due.is(x.length(0), 40);
        x.let(0);
        Due.is(x.length(0), GONE);
        x.make(0, 6, 0);
        Due.is(x.length(0), 0);
    }

    private static void noSuchPlaces() {
        MappingMoves x = new MappingMoves();
        for (int place : NO_PLACES) {
            Due.is(x.make(place, 0, 1), BAD);
            Due.is(x.let(place), BAD);
            Due.is(x.drop(place), BAD);
            Due.is(x.kind(place), BAD);
            Due.is(x.length(place), BAD);
        }
        Due.is(x.told(0), 0);
    }
}
