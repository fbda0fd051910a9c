/** Promises 11 to 16: part, lay, weigh, rigid, fault, raise. */
public final class PartsTest {
    private static final int BAD = MappingMoves.BAD, FULL = MappingMoves.FULL, GONE = MappingMoves.GONE;
    private static final int OUT = MappingMoves.OUT, OTHER = MappingMoves.OTHER, STORE = MappingMoves.STORE;
    private static final int CAST = MappingMoves.CAST;
    private static final int PLAIN = 0, RIGID = 1, SOFT = 2;

    public static void main(String[] args) {
        partsCome();
        layOntoShelves();
        layInTheWay();
        layEmpty();
        weighed();
        rigid();
        lookInTheWay();
        faults();
        raise();
        Due.end();
    }

    /** Parts 0 plain, 1 rigid, 2 soft, and at the places 7, 8, 9 the shelves of these kinds with four cells. */
    private static MappingMoves withShelves() {
        MappingMoves x = new MappingMoves();
        x.part(PLAIN, 10);
        x.part(RIGID, 20);
        x.part(SOFT, 31);
        for (int kind = 7; kind < 10; kind++) {
            x.make(kind, kind, 4);
        }
        return x;
    }

    private static void partsCome() {
        MappingMoves x = new MappingMoves();
        Due.is(x.part(-1, 0), BAD);
        Due.is(x.part(3, 0), BAD);
        Due.is(x.part(0, -1), BAD);
        Due.is(x.part(0, 1001), BAD);
        Due.is(x.part(Integer.MIN_VALUE, Integer.MAX_VALUE), BAD);
        Due.is(x.told(2), 0);
        for (int number = 0; number < 40; number++) {
            Due.is(x.part(number % 3, number == 0 ? 0 : 1000), number);
            Due.is(x.told(2), number + 1);
        }
        Due.is(x.part(0, 0), FULL);
        Due.is(x.part(3, 0), BAD);
        Due.is(x.part(0, 1001), BAD);
        Due.is(x.told(2), 40);
        x.make(0, 7, 1);
        Due.is(x.lay(0, 0, 39), 1);
        Due.is(x.lay(0, 0, 40), BAD);
        Due.gets(x, 0, 0, 39);
    }

    private static void layOntoShelves() {
        MappingMoves x = withShelves();
        for (int part = 0; part < 3; part++) {
            Due.is(x.lay(7, part, part), 1);
            Due.gets(x, 7, part, part);
        }
        Due.is(x.lay(8, 0, 0), STORE);
        Due.is(x.lay(8, 0, 1), 1);
        Due.is(x.lay(8, 1, 2), STORE);
        Due.is(x.lay(9, 0, 0), STORE);
        Due.is(x.lay(9, 0, 1), STORE);
        Due.is(x.lay(9, 0, 2), 1);
        Due.is(x.lay(8, 0, 0), STORE);
        Due.gets(x, 8, 0, 1);
        Due.getThrows(x, 8, 1, NullPointerException.class);
        Due.gets(x, 9, 0, 2);
        Due.is(x.weigh(8, 0), 26);
        Due.is(x.rigid(7, 1), 2);
        Due.is(x.lay(7, 0, 2), 1);
        Due.gets(x, 7, 0, 2);
    }

    private static void layInTheWay() {
        MappingMoves x = withShelves();
        Due.is(x.lay(-1, 0, 0), BAD);
        Due.is(x.lay(24, 0, 0), BAD);
        Due.is(x.lay(7, 0, 3), BAD);
        Due.is(x.lay(7, 0, -2), BAD);
        Due.is(x.lay(0, 0, 3), BAD);
        Due.is(x.lay(0, 0, 0), GONE);
        Due.is(x.lay(0, 0, -1), GONE);
        for (int kind = 0; kind < 7; kind++) {
            x.make(0, kind, 2);
            Due.is(x.lay(0, 0, 0), OTHER);
            Due.is(x.lay(0, 5, -1), OTHER);
            x.let(0);
            Due.is(x.lay(0, 0, 0), OTHER);
        }
        Due.is(x.lay(8, 4, 0), OUT);
        Due.is(x.lay(8, -1, 0), OUT);
        Due.is(x.lay(8, 4, -1), OUT);
        Due.is(x.lay(8, Integer.MIN_VALUE, 1), OUT);
        x.let(8);
        Due.is(x.lay(8, 0, 0), GONE);
        Due.is(x.lay(8, 4, 1), GONE);
        Due.is(x.lay(7, 0, 1), 1);
        Due.is(x.rigid(7, 0), 1);
    }

    private static void layEmpty() {
        MappingMoves x = withShelves();
        for (int kind = 7; kind < 10; kind++) {
            Due.is(x.lay(kind, 0, -1), 1);
        }
        x.lay(7, 0, 1);
        x.lay(7, 1, 1);
        Due.is(x.told(3), 2);
        Due.is(x.lay(7, 0, -1), 1);
        Due.getThrows(x, 7, 0, NullPointerException.class);
        Due.is(x.told(3), 1);
        Due.is(x.rigid(7, 1), 2);
    }

    private static void weighed() {
        MappingMoves x = withShelves();
        int[] soft = {16, 16, 17, 17, 18, 18};
        for (int times = 1; times <= soft.length; times++) {
            for (int part = 0; part < 3; part++) {
                x.lay(7, part, part);
            }
            Due.is(x.weigh(7, 0), 10);
            Due.is(x.weigh(7, 1), 20 + 3 * times);
            Due.is(x.weigh(7, 2), soft[times - 1]);
        }
        x.part(SOFT, 1);
        x.lay(9, 3, 3);
        Due.is(x.weigh(9, 3), 1);
        x.part(SOFT, 1000);
        x.lay(9, 2, 4);
        Due.is(x.weigh(9, 2), 501);
        x.copy(7, 0, 7, 1, 3);
        Due.is(x.weigh(7, 2), 38);
        Due.is(x.weigh(7, 3), 18);
        x.move(1, 2, 0);
        Due.is(x.weigh(7, 2), 38);
    }

    private static void rigid() {
        MappingMoves x = withShelves();
        for (int part = 0; part < 3; part++) {
            x.lay(7, part, part);
        }
        Due.is(x.rigid(7, 0), CAST);
        Due.is(x.rigid(7, 1), 1);
        Due.is(x.rigid(7, 2), CAST);
        Due.is(x.rigid(7, 3), GONE);
        x.lay(8, 3, 1);
        Due.is(x.rigid(7, 1), 2);
        Due.is(x.rigid(8, 3), 2);
        x.lay(9, 0, 2);
        Due.is(x.rigid(9, 0), CAST);
    }

    private interface Look {
        int at(MappingMoves x, int place, int i);
    }

    private static void lookInTheWay() {
        Look[] looks = {MappingMoves::weigh, MappingMoves::rigid, MappingMoves::raise};
        for (Look look : looks) {
            MappingMoves x = withShelves();
            Due.is(look.at(x, -1, 0), BAD);
            Due.is(look.at(x, 24, 0), BAD);
            Due.is(look.at(x, 0, 0), GONE);
            for (int kind = 0; kind < 7; kind++) {
                x.make(0, kind, 2);
                Due.is(look.at(x, 0, 0), OTHER);
                Due.is(look.at(x, 0, 2), OTHER);
                x.let(0);
                Due.is(look.at(x, 0, 0), OTHER);
            }
            for (int kind = 7; kind < 10; kind++) {
                Due.is(look.at(x, kind, 0), GONE);
                Due.is(look.at(x, kind, 3), GONE);
                Due.is(look.at(x, kind, 4), OUT);
                Due.is(look.at(x, kind, -1), OUT);
                Due.is(look.at(x, kind, Integer.MAX_VALUE), OUT);
                x.let(kind);
                Due.is(look.at(x, kind, 0), GONE);
                Due.is(look.at(x, kind, 4), GONE);
            }
        }
    }

    private static void faults() {
        MappingMoves x = withShelves();
        Due.is(x.fault(-1, 0), BAD);
        Due.is(x.fault(3, 0), BAD);
        Due.is(x.fault(0, -2), BAD);
        Due.is(x.fault(0, 10), BAD);
        Due.is(x.fault(Integer.MAX_VALUE, Integer.MIN_VALUE), BAD);
        Due.is(x.fault(0, -1), 1);
        x.lay(7, 0, 0);
        Due.is(x.raise(7, 0), GONE);
        for (int code = 0; code < 10; code++) {
            Due.is(x.fault(0, code), 1);
            Due.is(x.raise(7, 0), -30 - code);
        }
        Due.is(x.fault(0, 10), BAD);
        Due.is(x.raise(7, 0), -39);
        Due.is(x.fault(0, -1), 1);
        Due.is(x.raise(7, 0), GONE);
    }

    private static void raise() {
        MappingMoves x = withShelves();
        for (int part = 0; part < 3; part++) {
            x.lay(7, part, part);
        }
        x.lay(9, 1, 2);
        x.fault(2, 4);
        Due.is(x.raise(7, 0), GONE);
        Due.is(x.raise(7, 1), GONE);
        Due.is(x.raise(7, 2), -34);
        Due.is(x.raise(9, 1), -34);
        Due.is(x.raise(7, 3), GONE);
        Due.is(x.raise(7, 2), -34);
    }
}
