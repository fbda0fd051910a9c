/** Promises 17 to 21: copy, copied, move, like, told. */
public final class MovesTest {
    private static final int BAD = MappingMoves.BAD, GONE = MappingMoves.GONE, OUT = MappingMoves.OUT;
    private static final int OTHER = MappingMoves.OTHER, STORE = MappingMoves.STORE;
    private static final int AS_IT_WAS = 262143;

    public static void main(String[] args) {
        copyNumbers();
        copyWithinOne();
        copyShelves();
        copyInTheWay();
        copyOut();
        copied();
        moveByDigits();
        moveWithinOne();
        moveLetGo();
        moveMakesApart();
        moveInTheWay();
        likeNumbers();
        likeReals();
        likeShelves();
        likeInTheWay();
        told();
        Due.end();
    }

    private static int rule(int... digits) {
        int rule = 0;
        for (int f = digits.length - 1; f >= 0; f--) {
            rule = 8 * rule + digits[f];
        }
        return rule;
    }

    private static void fill(MappingMoves x, int place, int kind, long... cells) {
        x.make(place, kind, cells.length);
        for (int i = 0; i < cells.length; i++) {
            Due.is(kind < 7 ? x.put(place, i, cells[i]) : x.lay(place, i, (int) cells[i]), 1);
        }
    }

    private static void holds(MappingMoves x, int place, long... cells) {
        Due.is(x.length(place), cells.length);
        for (int i = 0; i < cells.length; i++) {
            if (cells[i] == -1 && x.kind(place) >= 7) {
                Due.getThrows(x, place, i, NullPointerException.class);
            } else {
                Due.gets(x, place, i, cells[i]);
            }
        }
    }

    private static void copyNumbers() {
        for (int kind = 0; kind < 7; kind++) {
            MappingMoves x = new MappingMoves();
            fill(x, 0, kind, 1, 2, 3, 4, 5);
            fill(x, 1, kind, 9, 9, 9);
            Due.is(x.copy(0, 3, 1, 0, 2), 2);
            holds(x, 1, 4, 5, 9);
            Due.is(x.copy(0, 0, 1, 0, 3), 3);
            holds(x, 1, 1, 2, 3);
            holds(x, 0, 1, 2, 3, 4, 5);
            x.put(0, 0, 8);
            holds(x, 1, 1, 2, 3);
        }
        MappingMoves x = new MappingMoves();
        fill(x, 0, 4, 1L << 62);
        x.turn(0, 5);
        x.make(1, 5, 1);
        Due.is(x.copy(0, 0, 1, 0, 1), 1);
        Due.is(x.turn(1, 4), 1);
        Due.gets(x, 1, 0, 1L << 62);
    }

    private static void copyWithinOne() {
        for (int kind = 0; kind < 7; kind++) {
            MappingMoves x = new MappingMoves();
            fill(x, 2, kind, 1, 2, 3, 4, 5);
            Due.is(x.copy(2, 0, 2, 1, 4), 4);
            holds(x, 2, 1, 1, 2, 3, 4);
            Due.is(x.copy(2, 2, 2, 0, 3), 3);
            holds(x, 2, 2, 3, 4, 3, 4);
            Due.is(x.copy(2, 0, 2, 0, 5), 5);
            holds(x, 2, 2, 3, 4, 3, 4);
        }
        MappingMoves x = withParts();
        fill(x, 0, 8, 1, -1, 3, -1);
        Due.is(x.copy(0, 0, 0, 1, 3), 3);
        holds(x, 0, 1, 1, -1, 3);
    }

    /** Parts 0 plain, 1 rigid, 2 soft, 3 rigid, 4 soft. */
    private static MappingMoves withParts() {
        MappingMoves x = new MappingMoves();
        for (int sort : new int[] {0, 1, 2, 1, 2}) {
            x.part(sort, 10);
        }
        return x;
    }

    private static void copyShelves() {
        MappingMoves x = withParts();
        fill(x, 0, 7, 1, -1, 3, 2, 1);
        fill(x, 1, 8, 1, 1, 1, 1, 1);
        fill(x, 2, 9, 4, 4, 4, 4, 4);
        Due.is(x.copy(0, 0, 1, 1, 4), STORE);
        Due.is(x.copied(), 3);
        holds(x, 1, 1, 1, -1, 3, 1);
        Due.is(x.copy(0, 1, 2, 0, 2), STORE);
        Due.is(x.copied(), 1);
        holds(x, 2, -1, 4, 4, 4, 4);
        Due.is(x.copy(1, 0, 2, 0, 5), STORE);
        Due.is(x.copied(), 0);
        Due.is(x.copy(1, 2, 2, 4, 1), 1);
        holds(x, 2, -1, 4, 4, 4, -1);
        Due.is(x.copy(2, 0, 0, 0, 5), 5);
        holds(x, 0, -1, 4, 4, 4, -1);
        Due.is(x.copy(1, 0, 0, 0, 5), 5);
        holds(x, 0, 1, 1, -1, 3, 1);
        Due.is(x.copy(0, 0, 1, 0, 5), 5);
        fill(x, 3, 7, 0, 0, 0, 0, 0);
        Due.is(x.copy(3, 0, 0, 0, 5), 5);
        holds(x, 0, 0, 0, 0, 0, 0);
        Due.is(x.copy(0, 0, 1, 0, 0), 0);
        Due.is(x.copy(0, 0, 2, 0, 1), STORE);
        Due.is(x.copy(2, 1, 1, 0, 1), STORE);
        fill(x, 0, 7, 1, 1, 1, 1, 1);
        fill(x, 1, 8, 3, 3, 3, 3, 3);
        Due.is(x.copy(0, 1, 1, 2, 2), 2);
        holds(x, 1, 3, 3, 1, 1, 3);
    }

    private static void copyInTheWay() {
        MappingMoves x = new MappingMoves();
        Due.is(x.copy(-1, 0, 0, 0, 0), BAD);
        Due.is(x.copy(24, 0, 0, 0, 0), BAD);
        Due.is(x.copy(0, 0, -1, 0, 0), BAD);
        Due.is(x.copy(0, 0, 24, 0, 0), BAD);
        Due.is(x.copy(0, 0, 0, 0, 0), GONE);
        x.make(0, 3, 2);
        Due.is(x.copy(0, 0, 1, 0, 0), GONE);
        Due.is(x.copy(1, 0, 0, 0, 0), GONE);
        x.make(1, 7, 2);
        x.let(1);
        Due.is(x.copy(0, -1, 1, -1, -1), GONE);
        Due.is(x.copy(1, 0, 0, 0, 0), GONE);
        for (int one = 0; one < 10; one++) {
            for (int other = 0; other < 10; other++) {
                MappingMoves y = new MappingMoves();
                y.make(0, one, 2);
                y.make(1, other, 2);
                boolean done = one == other || one >= 7 && other >= 7;
                Due.is(y.copy(0, 0, 1, 0, 2), done ? 2 : OTHER);
                Due.is(y.copy(0, 1, 1, 1, 2), done ? OUT : OTHER);
                Due.is(y.copy(0, 0, 1, 0, -1), done ? OUT : OTHER);
            }
        }
    }

    private static void copyOut() {
        MappingMoves x = withParts();
        fill(x, 0, 3, 1, 2, 3);
        fill(x, 1, 3, 4, 5);
        fill(x, 2, 7, 0, 0, 0);
        fill(x, 3, 8, 1, 1);
        for (int from = 0; from < 4; from += 2) {
            int into = from + 1;
            Due.is(x.copy(from, 0, into, 0, 3), OUT);
            Due.is(x.copy(from, 2, into, 0, 2), OUT);
            Due.is(x.copy(from, -1, into, 0, 1), OUT);
            Due.is(x.copy(from, 0, into, -1, 1), OUT);
            Due.is(x.copy(from, 0, into, 0, -1), OUT);
            Due.is(x.copy(from, 4, into, 0, 0), OUT);
            Due.is(x.copy(from, 0, into, 3, 0), OUT);
            Due.is(x.copy(from, 3, into, 2, 0), 0);
            Due.is(x.copy(from, Integer.MAX_VALUE, into, 0, 1), OUT);
            Due.is(x.copy(from, 0, into, Integer.MAX_VALUE, 1), OUT);
            Due.is(x.copy(from, 1, into, 1, Integer.MAX_VALUE), OUT);
            Due.is(x.copy(from, Integer.MAX_VALUE, into, Integer.MAX_VALUE, Integer.MAX_VALUE), OUT);
            Due.is(x.copy(from, Integer.MIN_VALUE, into, Integer.MIN_VALUE, Integer.MIN_VALUE), OUT);
            Due.is(x.copied(), 0);
        }
        holds(x, 1, 4, 5);
        holds(x, 3, 1, 1);
    }

    private static void copied() {
        MappingMoves x = new MappingMoves();
        Due.is(x.copied(), 0);
        x.make(0, 3, 6);
        x.make(1, 4, 6);
        Due.is(x.copy(0, 0, 0, 1, 5), 5);
        Due.is(x.copied(), 5);
        Due.is(x.copied(), 5);
        Due.is(x.copy(0, 0, 24, 1, 5), BAD);
        Due.is(x.copied(), 5);
        Due.is(x.copy(0, 0, 1, 0, 1), OTHER);
        Due.is(x.copied(), 0);
        x.copy(0, 0, 0, 1, 3);
        Due.is(x.copied(), 3);
        Due.is(x.copy(0, 0, 2, 0, 1), GONE);
        Due.is(x.copied(), 0);
        x.copy(0, 0, 0, 1, 2);
        Due.is(x.copy(0, 0, 0, 1, 6), OUT);
        Due.is(x.copied(), 0);
        x.copy(0, 0, 0, 1, 2);
        x.move(0, 1, 0);
        Due.is(x.copied(), 2);
        Due.is(x.copy(0, 6, 0, 0, 0), 0);
        Due.is(x.copied(), 0);
    }

    private static void moveByDigits() {
        MappingMoves x = new MappingMoves();
        for (int f = 0; f < 5; f++) {
            fill(x, 6 + f, 3, f, 10 + f);
        }
        for (int f = 0; f < 6; f++) {
            fill(x, 18 + f, 4, 100 + f);
        }
        Due.is(x.move(1, 3, rule(4, 7, 6, 0, 5, 4)), 4);
        holds(x, 18, 4, 14);
        holds(x, 19, 101);
        Due.is(x.kind(20), GONE);
        holds(x, 21, 0, 10);
        Due.is(x.kind(22), GONE);
        holds(x, 23, 4, 14);
        Due.is(x.told(0), 9);
        for (int f = 0; f < 5; f++) {
            holds(x, 6 + f, f, 10 + f);
        }
        Due.is(x.move(2, 1, AS_IT_WAS), 5);
        Due.is(x.move(2, 1, rule(6, 7, 7, 7, 7, 7)), 4);
        Due.is(x.move(2, 1, 0), 0);
        Due.is(x.told(0), 4);
    }

    private static void moveWithinOne() {
        MappingMoves x = withParts();
        for (int f = 0; f < 5; f++) {
            fill(x, 12 + f, 7, f, -1);
        }
        fill(x, 17, 5, 77);
        Due.is(x.move(2, 2, rule(5, 0, 1, 2, 3, 4)), 6);
        holds(x, 12, 77);
        Due.is(x.kind(12), 5);
        for (int f = 0; f < 5; f++) {
            holds(x, 13 + f, f, -1);
        }
        Due.is(x.move(2, 2, rule(1, 0, 7, 3, 6, 6)), 4);
        holds(x, 12, 0, -1);
        holds(x, 13, 77);
        holds(x, 14, 1, -1);
        holds(x, 15, 2, -1);
        Due.is(x.told(3), 3);
        Due.is(x.told(1), 7);
    }

    private static void moveLetGo() {
        MappingMoves x = new MappingMoves();
        x.make(0, 8, 3);
        x.let(0);
        Due.is(x.move(0, 1, rule(6, 6, 6, 6, 6, 0)), 1);
        Due.is(x.kind(11), 8);
        Due.is(x.length(11), GONE);
        Due.is(x.told(0), 2);
        Due.is(x.told(1), 0);
        Due.is(x.let(11), GONE);
        Due.is(x.drop(11), 1);
    }

    private static void moveMakesApart() {
        MappingMoves x = withParts();
        fill(x, 0, 6, 5, 6);
        fill(x, 1, 9, 2, -1);
        Due.is(x.move(0, 1, rule(0, 1, 0, 1, 2, 2)), 4);
        x.put(6, 0, 50);
        x.lay(7, 0, -1);
        x.put(0, 1, 60);
        holds(x, 0, 5, 60);
        holds(x, 1, 2, -1);
        holds(x, 6, 50, 6);
        holds(x, 7, -1, -1);
        holds(x, 8, 5, 6);
        holds(x, 9, 2, -1);
        Due.is(x.weigh(1, 0), 6);
        x.drop(0);
        holds(x, 8, 5, 6);
    }

    private static void moveInTheWay() {
        MappingMoves x = new MappingMoves();
        x.make(0, 0, 1);
        for (int mapping : new int[] {-1, 4, Integer.MIN_VALUE, Integer.MAX_VALUE}) {
            Due.is(x.move(mapping, 0, 0), BAD);
            Due.is(x.move(0, mapping, 0), BAD);
        }
        for (int rule : new int[] {-1, 262144, Integer.MIN_VALUE, Integer.MAX_VALUE}) {
            Due.is(x.move(0, 1, rule), BAD);
        }
        Due.is(x.told(0), 1);
        Due.is(x.move(0, 3, 0), 6);
        Due.is(x.move(3, 0, AS_IT_WAS), 1);
    }

    private static void likeNumbers() {
        for (int kind = 0; kind < 7; kind++) {
            MappingMoves x = new MappingMoves();
            fill(x, 0, kind, 1, 2, 3);
            fill(x, 1, kind, 1, 2, 3);
            Due.is(x.like(0, 1), 1);
            x.put(1, 2, 4);
            Due.is(x.like(0, 1), 0);
            x.put(1, 2, 3);
            Due.is(x.like(1, 0), 1);
            x.put(1, 0, 0);
            Due.is(x.like(1, 0), 0);
            fill(x, 1, kind, 1, 2);
            Due.is(x.like(0, 1), 0);
            Due.is(x.like(1, 0), 0);
            fill(x, 1, kind == 6 ? 0 : kind + 1, 1, 2, 3);
            Due.is(x.like(0, 1), 0);
            x.make(1, kind, 0);
            x.make(0, kind, 0);
            Due.is(x.like(0, 1), 1);
            x.make(0, kind, 2);
            fill(x, 1, kind, 0, 0);
            Due.is(x.like(0, 1), 1);
        }
    }

    /** The numbers themselves: 2^61 and 2^62 are both told as the greatest long, and are not the same. */
    private static void likeReals() {
        for (int real = 5; real < 7; real++) {
            MappingMoves x = new MappingMoves();
            fill(x, 0, 4, 1L << 61);
            fill(x, 1, 4, 1L << 62);
            x.turn(0, real);
            x.turn(1, real);
            Due.is(x.like(0, 1), 0);
            fill(x, 1, 4, 1L << 61);
            Due.is(x.like(0, 1), 0);
            x.turn(1, real);
            Due.is(x.like(0, 1), 1);
            fill(x, 0, real, 40);
            fill(x, 1, 0, 5);
            x.turn(1, real);
            Due.is(x.like(0, 1), 1);
        }
    }

    private static void likeShelves() {
        MappingMoves x = withParts();
        fill(x, 0, 7, 1, -1);
        fill(x, 1, 7, 1, -1);
        Due.is(x.like(0, 1), 1);
        x.lay(1, 0, 3);
        Due.is(x.like(0, 1), 0);
        x.lay(1, 0, 1);
        x.lay(1, 1, 1);
        Due.is(x.like(0, 1), 0);
        fill(x, 1, 8, 1, -1);
        Due.is(x.like(0, 1), 0);
        Due.is(x.like(1, 1), 1);
    }

    private static void likeInTheWay() {
        MappingMoves x = new MappingMoves();
        Due.is(x.like(-1, 0), BAD);
        Due.is(x.like(0, 24), BAD);
        Due.is(x.like(24, 24), BAD);
        Due.is(x.like(0, 0), GONE);
        x.make(0, 0, 1);
        Due.is(x.like(0, 1), GONE);
        Due.is(x.like(1, 0), GONE);
        x.make(1, 5, 1);
        x.let(1);
        Due.is(x.like(0, 1), GONE);
        Due.is(x.like(1, 0), GONE);
        Due.is(x.like(1, 1), GONE);
        x.make(22, 7, 3);
        x.make(23, 7, 3);
        Due.is(x.like(22, 23), 1);
        Due.is(x.like(0, 23), 0);
        Due.is(x.like(23, 0), 0);
    }

    private static void told() {
        MappingMoves x = withParts();
        fill(x, 0, 7, 0, 0, -1);
        fill(x, 23, 8, 1, -1);
        fill(x, 5, 3, 7, 8, 9, 10);
        x.make(6, 4, 9);
        x.let(6);
        fill(x, 7, 9, 2, 2, 2);
        x.let(7);
        Due.is(x.told(0), 5);
        Due.is(x.told(1), 9);
        Due.is(x.told(2), 5);
        Due.is(x.told(3), 3);
        Due.is(x.told(-1), BAD);
        Due.is(x.told(4), BAD);
        Due.is(x.told(Integer.MIN_VALUE), BAD);
        Due.is(x.told(Integer.MAX_VALUE), BAD);
        for (int place = 0; place < 24; place++) {
            x.make(place, 6, 40);
        }
        Due.is(x.told(0), 24);
        Due.is(x.told(1), 960);
        Due.is(x.told(3), 0);
    }
}
