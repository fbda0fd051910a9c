/** Promises 11 to 16, sentence by sentence: part, lay, weigh, rigid, fault, raise. */
public final class PartsTest {
    private static final int BAD = MappingMoves.BAD, FULL = MappingMoves.FULL, GONE = MappingMoves.GONE;
    private static final int OUT = MappingMoves.OUT, OTHER = MappingMoves.OTHER, STORE = MappingMoves.STORE;
    private static final int CAST = MappingMoves.CAST;
    private static final int[] NO_CELLS_OF_FOUR = {-1, 4, 40, Scene.LEAST, Scene.MOST};
    private static final int[] PLACES_OF_NUMBERS = {Scene.BYTES, Scene.LONGS, Scene.FLOATS, Scene.DOUBLES, Scene.NO_CELLS, Scene.GONE_INTS};

    private interface Look {
        int at(MappingMoves x, int place, int i);
    }

    public static void main(String[] args) {
        part();
        partBad();
        partFull();
        lay();
        layEmpty();
        layCounts();
        layBad();
        layGone();
        layOther();
        layLetGo();
        layOut();
        layStore();
        weigh();
        inTheWayOf("Promise 13", "BAD; GONE: no COLUMN; OTHER: no SHELF; GONE: LET GO; OUT; GONE: EMPTY", MappingMoves::weigh);
        rigid();
        rigidCast();
        inTheWayOf("Promise 14", "As weigh()", MappingMoves::rigid);
        fault();
        faultNone();
        faultBad();
        raise();
        raiseNone();
        inTheWayOf("Promise 16", "As weigh()", MappingMoves::raise);
        Due.end();
    }

    // ---- part

    private static void part() {
        Due.sentence("Promise 11", "A PART comes: sort 0 PLAIN, 1 RIGID, 2 SOFT: its number");
        MappingMoves x = new MappingMoves();
        x.make(0, 7, 40);
        for (int number = 0; number < 40; number++) {
            Due.is(x.told(2), number);
            Due.is(x.part(number % 3, 10 * number), number);
            Due.is(x.lay(0, number, number), 1);
        }
        for (int number = 0; number < 40; number++) {
            int w = 10 * number;
            Due.is(x.weigh(0, number), number % 3 == 0 ? w : number % 3 == 1 ? w + 3 : w / 2 + 1);
        }
    }

    private static void partBad() {
        Due.sentence("Promise 11", "BAD");
        for (int sort : new int[] {-1, 3, Scene.LEAST, Scene.MOST}) {
            Scene.refused(x -> x.part(sort, 5), BAD);
        }
        for (int w : new int[] {-1, 1001, Scene.LEAST, Scene.MOST}) {
            Scene.refused(x -> x.part(0, w), BAD);
        }
        MappingMoves x = new MappingMoves();
        Due.is(x.part(0, -1), BAD);
        Due.is(x.part(2, 1001), BAD);
        Due.is(x.part(2, 1000), 0);
        Due.is(x.part(0, 0), 1);
    }

    private static void partFull() {
        Due.sentence("Promise 11", "FULL");
        MappingMoves x = new MappingMoves();
        for (int number = 0; number < 40; number++) {
            Due.is(x.part(1, 7), number);
        }
        for (int sort = 0; sort < 3; sort++) {
            Due.is(x.part(sort, 9), FULL);
        }
        Due.is(x.part(3, 9), BAD);
        Due.is(x.part(0, 1001), BAD);
        Due.is(x.told(2), 40);
        Scene.fill(x, 0, 7, 0, 39);
        Due.is(x.weigh(0, 0), 10);
        Due.is(x.weigh(0, 1), 10);
        Due.is(x.lay(0, 0, 40), BAD);
    }

    // ---- lay

    private static void lay() {
        Due.sentence("Promise 12", "A CELL of a SHELF holds a PART");
        for (int kind = 7; kind < 10; kind++) {
            MappingMoves x = Scene.withParts();
            int one = kind == 9 ? 2 : 1;
            int other = kind == 9 ? 4 : 3;
            x.make(0, kind, 40);
            Due.is(x.lay(0, 0, one), 1);
            Due.is(x.lay(0, 39, one), 1);
            Due.is(x.lay(0, 39, other), 1);
            Due.is(x.told(3), 2);
            Due.gets(x, 0, 0, one);
            Due.gets(x, 0, 39, other);
            Due.getThrows(x, 0, 1, NullPointerException.class);
            Due.getThrows(x, 0, 38, NullPointerException.class);
        }
    }

    private static void layEmpty() {
        Due.sentence("Promise 12", "or (NONE of them: part -1) is EMPTY: 1");
        for (int kind = 7; kind < 10; kind++) {
            MappingMoves x = Scene.withParts();
            int part = kind == 9 ? 2 : 1;
            Scene.fill(x, 0, kind, part, part, -1);
            Due.is(x.lay(0, 0, -1), 1);
            Due.is(x.lay(0, 2, -1), 1);
            Scene.holds(x, 0, -1, part, -1);
            Due.is(x.told(3), 1);
        }
        MappingMoves noParts = new MappingMoves();
        noParts.make(0, 8, 1);
        Due.is(noParts.lay(0, 0, -1), 1);
        Due.is(noParts.lay(0, 0, 0), BAD);
    }

    /** Emptied cells, a part that goes there again, copies and moves: only lay() of the part itself counts. */
    private static void layCounts() {
        Due.sentence("Promise 12", "the PART was LAID once more then");
        MappingMoves x = Scene.withParts();
        Scene.fill(x, 0, 7, 1, 2);
        Due.is(x.rigid(0, 0), 1);
        x.lay(0, 0, 1);
        Due.is(x.rigid(0, 0), 2);
        x.lay(0, 1, -1);
        Due.is(x.rigid(0, 0), 2);
        x.lay(0, 1, 3);
        Due.is(x.rigid(0, 0), 2);
        Due.is(x.rigid(0, 1), 1);
        x.lay(0, 0, -1);
        x.lay(0, 0, 1);
        Due.is(x.rigid(0, 0), 3);
        x.make(6, 8, 2);
        x.copy(0, 0, 6, 0, 2);
        x.move(0, 2, 0);
        Due.is(x.rigid(6, 0), 3);
        Due.is(x.rigid(12, 0), 3);
        x.drop(0);
        x.let(6);
        Due.is(x.rigid(12, 0), 3);
        x.make(0, 9, 1);
        Due.is(x.lay(0, 0, 1), STORE);
        Due.is(x.lay(0, 1, 1), OUT);
        Due.is(x.rigid(12, 0), 3);
    }

    private static void layBad() {
        Due.sentence("Promise 12", "BAD");
        for (int part : new int[] {-2, 5, 39, 40, Scene.LEAST, Scene.MOST}) {
            Scene.refused(x -> x.lay(Scene.ANY, 0, part), BAD);
            Scene.refused(x -> x.lay(Scene.RIGIDS, 0, part), BAD);
            Scene.refused(x -> x.lay(Scene.NOTHING, 0, part), BAD);
            Scene.refused(x -> x.lay(Scene.BYTES, 0, part), BAD);
        }
        for (int place : Scene.NO_PLACES) {
            Scene.refused(x -> x.lay(place, 0, 0), BAD);
            Scene.refused(x -> x.lay(place, 0, -1), BAD);
        }
    }

    private static void layGone() {
        Due.sentence("Promise 12", "GONE: no COLUMN");
        for (int part = -1; part < 5; part++) {
            int which = part;
            Scene.refused(x -> x.lay(Scene.NOTHING, 0, which), GONE);
            Scene.refused(x -> x.lay(Scene.NOTHING, -1, which), GONE);
        }
    }

    private static void layOther() {
        Due.sentence("Promise 12", "OTHER: no SHELF");
        for (int place : PLACES_OF_NUMBERS) {
            Scene.refused(x -> x.lay(place, 0, 0), OTHER);
            Scene.refused(x -> x.lay(place, 0, -1), OTHER);
            Scene.refused(x -> x.lay(place, 40, 1), OTHER);
        }
        for (int kind = 0; kind < 7; kind++) {
            MappingMoves x = Scene.withParts();
            x.make(0, kind, 1);
            Due.is(x.lay(0, 0, 0), OTHER);
            x.let(0);
            Due.is(x.lay(0, 0, 0), OTHER);
        }
    }

    private static void layLetGo() {
        Due.sentence("Promise 12", "GONE: LET GO");
        for (int kind = 7; kind < 10; kind++) {
            MappingMoves x = Scene.withParts();
            x.make(0, kind, 2);
            x.let(0);
            for (int part = -1; part < 3; part++) {
                Due.is(x.lay(0, 0, part), GONE);
                Due.is(x.lay(0, 2, part), GONE);
            }
        }
        Scene.refused(x -> x.lay(Scene.GONE_SHELF, 0, 1), GONE);
    }

    private static void layOut() {
        Due.sentence("Promise 12", "OUT");
        for (int i : NO_CELLS_OF_FOUR) {
            for (int part = -1; part < 3; part++) {
                int which = part;
                Scene.refused(x -> x.lay(Scene.ANY, i, which), OUT);
                Scene.refused(x -> x.lay(Scene.RIGIDS, i, which), OUT);
                Scene.refused(x -> x.lay(Scene.SOFTS, i, which), OUT);
            }
        }
        Scene.refused(x -> x.lay(Scene.RIGIDS, 3, 0), OUT);
        Scene.refused(x -> x.lay(Scene.SOFTS, 2, 1), OUT);
        Scene.refused(x -> x.lay(Scene.NO_SHELF_CELLS, 0, 0), OUT);
    }

    private static void layStore() {
        Due.sentence("Promise 12", "STORE");
        for (int i = 0; i < 2; i++) {
            int cell = i;
            for (int part : new int[] {0, 2, 4}) {
                Scene.refused(x -> x.lay(Scene.RIGIDS, cell, part), STORE);
            }
            for (int part : new int[] {0, 1, 3}) {
                Scene.refused(x -> x.lay(Scene.SOFTS, cell, part), STORE);
            }
        }
        MappingMoves x = Scene.scene();
        for (int part = -1; part < 5; part++) {
            Due.is(x.lay(Scene.ANY, 0, part), 1);
        }
    }

    // ---- weigh

    private static void weigh() {
        Due.sentence("Promise 13", "What the PART in a CELL is, WEIGHED");
        MappingMoves x = Scene.withParts();
        x.make(0, 7, 40);
        int[] soft = {16, 16, 17, 17, 18, 18};
        for (int times = 1; times <= soft.length; times++) {
            x.lay(0, 0, 0);
            x.lay(0, 20, 1);
            x.lay(0, 39, 2);
            Due.is(x.weigh(0, 0), 10);
            Due.is(x.weigh(0, 20), 20 + 3 * times);
            Due.is(x.weigh(0, 39), soft[times - 1]);
        }
        x.make(1, 8, 1);
        x.lay(1, 0, 1);
        Due.is(x.weigh(1, 0), 41);
        Due.is(x.weigh(0, 20), 41);
        x.make(2, 9, 1);
        x.copy(0, 39, 2, 0, 1);
        Due.is(x.weigh(2, 0), 18);
        x.fault(2, 9);
        Due.is(x.weigh(2, 0), 18);
    }

    /** What is in the way of every look at a part, and in which order it is met. */
    private static void inTheWayOf(String where, String words, Look look) {
        Due.sentence(where, words);
        for (int place : Scene.NO_PLACES) {
            Scene.refused(x -> look.at(x, place, 0), BAD);
            Scene.refused(x -> look.at(x, place, -1), BAD);
        }
        Scene.refused(x -> look.at(x, Scene.NOTHING, 0), GONE);
        Scene.refused(x -> look.at(x, Scene.NOTHING, -1), GONE);
        for (int place : PLACES_OF_NUMBERS) {
            Scene.refused(x -> look.at(x, place, 0), OTHER);
            Scene.refused(x -> look.at(x, place, -1), OTHER);
            Scene.refused(x -> look.at(x, place, 40), OTHER);
        }
        for (int i : NO_CELLS_OF_FOUR) {
            Scene.refused(x -> look.at(x, Scene.GONE_SHELF, i), GONE);
            Scene.refused(x -> look.at(x, Scene.ANY, i), OUT);
            Scene.refused(x -> look.at(x, Scene.RIGIDS, i), OUT);
            Scene.refused(x -> look.at(x, Scene.SOFTS, i), OUT);
        }
        Scene.refused(x -> look.at(x, Scene.RIGIDS, 3), OUT);
        Scene.refused(x -> look.at(x, Scene.NO_SHELF_CELLS, 0), OUT);
        for (int kind = 7; kind < 10; kind++) {
            MappingMoves x = Scene.withParts();
            Scene.fill(x, 0, kind, -1, kind == 9 ? 2 : 1);
            Due.is(look.at(x, 0, 0), GONE);
            x.lay(0, 1, -1);
            Due.is(look.at(x, 0, 1), GONE);
            Due.is(look.at(x, 0, 2), OUT);
            x.let(0);
            Due.is(look.at(x, 0, 0), GONE);
            Due.is(look.at(x, 0, 2), GONE);
        }
    }

    // ---- rigid

    private static void rigid() {
        Due.sentence("Promise 14", "How often the RIGID PART in a CELL was LAID");
        MappingMoves x = Scene.withParts();
        x.make(0, 7, 40);
        x.make(1, 8, 1);
        for (int times = 1; times <= 40; times++) {
            x.lay(0, times - 1, 1);
            Due.is(x.rigid(0, times - 1), times);
        }
        Due.is(x.rigid(0, 0), 40);
        x.lay(1, 0, 3);
        Due.is(x.rigid(1, 0), 1);
        Due.is(x.rigid(0, 39), 40);
    }

    private static void rigidCast() {
        Due.sentence("Promise 14", "CAST: it is not RIGID (an EMPTY CELL is GONE)");
        Scene.refused(x -> x.rigid(Scene.ANY, 0), CAST);
        Scene.refused(x -> x.rigid(Scene.ANY, 1), GONE);
        Scene.refused(x -> x.rigid(Scene.ANY, 2), 2);
        Scene.refused(x -> x.rigid(Scene.ANY, 3), CAST);
        Scene.refused(x -> x.rigid(Scene.RIGIDS, 1), GONE);
        Scene.refused(x -> x.rigid(Scene.SOFTS, 0), CAST);
        MappingMoves x = Scene.scene();
        x.lay(Scene.SOFTS, 0, -1);
        Due.is(x.rigid(Scene.SOFTS, 0), GONE);
    }

    // ---- fault

    private static void fault() {
        Due.sentence("Promise 15", "A PART gets a FAULT (code 0 .. 9)");
        MappingMoves x = new MappingMoves();
        x.make(0, 7, 40);
        for (int part = 0; part < 40; part++) {
            x.part(part % 3, 0);
            x.lay(0, part, part);
            Due.is(x.fault(part, part % 10), 1);
        }
        for (int part = 0; part < 40; part++) {
            Due.is(x.raise(0, part), -30 - part % 10);
        }
        for (int code = 0; code < 10; code++) {
            Due.is(x.fault(0, code), 1);
            Due.is(x.raise(0, 0), -30 - code);
            Due.is(x.raise(0, 1), -31);
        }
    }

    private static void faultNone() {
        Due.sentence("Promise 15", "or has none (-1): 1");
        MappingMoves x = Scene.scene();
        Due.is(x.raise(Scene.RIGIDS, 2), -37);
        Due.is(x.fault(3, -1), 1);
        Due.is(x.raise(Scene.RIGIDS, 2), GONE);
        Due.is(x.fault(3, -1), 1);
        Due.is(x.raise(Scene.RIGIDS, 2), GONE);
        Due.is(x.fault(3, 0), 1);
        Due.is(x.raise(Scene.RIGIDS, 2), -30);
    }

    private static void faultBad() {
        Due.sentence("Promise 15", "BAD");
        for (int part : new int[] {-1, -2, 5, 39, 40, Scene.LEAST, Scene.MOST}) {
            Scene.refused(x -> x.fault(part, 0), BAD);
            Scene.refused(x -> x.fault(part, -1), BAD);
            Scene.refused(x -> x.fault(part, 10), BAD);
        }
        for (int code : new int[] {-2, 10, Scene.LEAST, Scene.MOST}) {
            Scene.refused(x -> x.fault(3, code), BAD);
            Scene.refused(x -> x.fault(0, code), BAD);
        }
    }

    // ---- raise

    private static void raise() {
        Due.sentence("Promise 16", "The PART in a CELL throws its FAULT: -30 less the code");
        MappingMoves x = Scene.scene();
        x.fault(1, 0);
        x.fault(2, 9);
        Due.is(x.raise(Scene.ANY, 2), -30);
        Due.is(x.raise(Scene.RIGIDS, 0), -30);
        Due.is(x.raise(Scene.ANY, 3), -39);
        Due.is(x.raise(Scene.SOFTS, 0), -39);
        Due.is(x.raise(Scene.SOFTS, 0), -39);
    }

    private static void raiseNone() {
        Due.sentence("Promise 16", "GONE: also it has none");
        Scene.refused(x -> x.raise(Scene.ANY, 0), GONE);
        Scene.refused(x -> x.raise(Scene.ANY, 2), GONE);
        Scene.refused(x -> x.raise(Scene.ANY, 3), GONE);
    }
}
