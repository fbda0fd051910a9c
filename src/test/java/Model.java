import java.lang.reflect.Array;
import java.math.BigDecimal;
import java.util.ArrayList;
import java.util.Objects;

/**
 * What the document says, on the machine's own arrays: what is in the way is mostly what the machine
 * throws. Slow, and only for tests.
 */
final class Model {
    private static class Part {
        int w;
        int laid;
        Integer code;

        int weighed() {
            return w;
        }
    }

    private static final class Rigid extends Part {
        @Override int weighed() {
            int all = w;
            for (int time = 1; time <= laid; time++) {
                all += 3;
            }
            return all;
        }
    }

    private static final class Soft extends Part {
        @Override int weighed() {
            int all = w >> 1;
            for (int time = 1; time <= laid; time += 2) {
                all++;
            }
            return all;
        }
    }

    private static final class Raised extends RuntimeException {
        private static final long serialVersionUID = 1L;
        final int answer;

        Raised(int answer) {
            this.answer = answer;
        }
    }

    private static final class Column {
        int kind;
        Object cells;

        Column(int kind, Object cells) {
            this.kind = kind;
            this.cells = cells;
        }

        Column like() {
            if (cells == null) {
                return new Column(kind, null);
            }
            int n = Array.getLength(cells);
            Object own = Array.newInstance(TYPES[kind], n);
            System.arraycopy(cells, 0, own, 0, n);
            return new Column(kind, own);
        }
    }

    private static final Class<?>[] TYPES = {byte.class, short.class, char.class, int.class, long.class, float.class, double.class,
        Part.class, Rigid.class, Soft.class};

    private final Column[][] mappings = new Column[4][6];
    private final ArrayList<Part> parts = new ArrayList<>();
    private int copied = 0;

    int call(String name, int[] a, long v) {
        try {
            return open(name, a, v);
        } catch (Raised e) {
            return e.answer;
        } catch (NullPointerException e) {
            return -11;
        } catch (ArrayIndexOutOfBoundsException e) {
            return -12;
        } catch (ArrayStoreException e) {
            return -14;
        } catch (ClassCastException e) {
            return -15;
        } catch (NegativeArraySizeException e) {
            return -16;
        }
    }

    private int open(String name, int[] a, long v) {
        switch (name) {
            case "make": return make(a[0], a[1], a[2]);
            case "let": {
                Column c = existing(a[0]);
                int n = Array.getLength(there(c.cells));
                c.cells = null;
                return n;
            }
            case "drop": {
                Column c = column(a[0]);
                set(a[0], null);
                return c == null ? 0 : 1;
            }
            case "kind": return existing(a[0]).kind;
            case "length": return Array.getLength(there(existing(a[0]).cells));
            case "put": return put(a[0], a[1], v);
            case "sum": return sum(a[0], a[1]);
            case "turn": return turn(a[0], a[1]);
            case "part": return part(a[0], a[1]);
            case "lay": return lay(a[0], a[1], a[2]);
            case "weigh": return shelf(a[0])[a[1]].weighed();
            case "rigid": return ((Rigid) there(shelf(a[0])[a[1]])).laid;
            case "fault": {
                bad(a[0] < 0 || a[0] >= parts.size() || a[1] < -1 || a[1] > 9);
                parts.get(a[0]).code = a[1] == -1 ? null : Integer.valueOf(a[1]);
                return 1;
            }
            case "raise": throw new Raised(-30 - shelf(a[0])[a[1]].code);
            case "copy": return copy(a[0], a[1], a[2], a[3], a[4]);
            case "copied": return copied;
            case "move": return move(a[0], a[1], a[2]);
            case "like": return like(a[0], a[1]);
            default: return told(a[0]);
        }
    }

    int cellsAt(int place) {
        Column c = column(place);
        return c == null || c.cells == null ? 0 : Array.getLength(c.cells);
    }

    private static void bad(boolean it) {
        if (it) {
            throw new Raised(-1);
        }
    }

    private static <T> T there(T it) {
        return Objects.requireNonNull(it);
    }

    private Column column(int place) {
        bad(place < 0 || place > 23);
        return mappings[place / 6][place % 6];
    }

    private void set(int place, Column c) {
        mappings[place / 6][place % 6] = c;
    }

    private Column existing(int place) {
        return there(column(place));
    }

    private int make(int place, int kind, int n) {
        column(place);
        bad(kind < 0 || kind > 9 || n > 40);
        set(place, new Column(kind, Array.newInstance(TYPES[kind], n)));
        return n;
    }

    private int put(int place, int i, long v) {
        Column c = existing(place);
        switch (c.kind) {
            case 0: ((byte[]) c.cells)[i] = (byte) v; break;
            case 1: ((short[]) c.cells)[i] = (short) v; break;
            case 2: ((char[]) c.cells)[i] = (char) v; break;
            case 3: ((int[]) c.cells)[i] = (int) v; break;
            case 4: ((long[]) c.cells)[i] = v; break;
            case 5: ((float[]) c.cells)[i] = (float) v / 8.0f; break;
            case 6: ((double[]) c.cells)[i] = (double) v / 8.0; break;
            default: throw new Raised(-13);
        }
        return 1;
    }

    long get(int place, int i) {
        Column c = mappings[place < 0 ? -1 : place / 6][place % 6];
        switch (c.kind) {
            case 0: return ((byte[]) c.cells)[i];
            case 1: return ((short[]) c.cells)[i];
            case 2: return ((char[]) c.cells)[i];
            case 3: return ((int[]) c.cells)[i];
            case 4: return ((long[]) c.cells)[i];
            case 5: return (long) (((float[]) c.cells)[i] * 8.0f);
            case 6: return (long) (((double[]) c.cells)[i] * 8.0);
            default: return parts.indexOf(there(((Part[]) c.cells)[i]));
        }
    }

    private int sum(int place, int kind) {
        column(place);
        bad(kind < 0 || kind > 6);
        Column c = existing(place);
        if (c.kind != kind) {
            throw new ClassCastException();
        }
        int n = Array.getLength(there(c.cells));
        int all = 0;
        for (int i = 0; i < n; i++) {
            all += (int) get(place, i);
        }
        return all;
    }

    private static BigDecimal number(Object cells, int i) {
        Object it = Array.get(cells, i);
        if (it instanceof Character) {
            return BigDecimal.valueOf((Character) it);
        }
        if (it instanceof Float || it instanceof Double) {
            return new BigDecimal(((Number) it).doubleValue());
        }
        return BigDecimal.valueOf(((Number) it).longValue());
    }

    private int turn(int place, int kind) {
        column(place);
        bad(kind < 0 || kind > 6);
        Column c = existing(place);
        if (c.kind > 6) {
            throw new Raised(-13);
        }
        int n = Array.getLength(there(c.cells));
        Object turned = Array.newInstance(TYPES[kind], n);
        for (int i = 0; i < n; i++) {
            BigDecimal exact = number(c.cells, i);
            if (kind == 5) {
                Array.setFloat(turned, i, exact.floatValue());
            } else if (kind == 6) {
                Array.setDouble(turned, i, exact.doubleValue());
            } else {
                setWhole(turned, i, kind, exact.toBigInteger().longValue());
            }
            if (number(turned, i).compareTo(exact) != 0) {
                throw new Raised(-20 - i);
            }
        }
        c.kind = kind;
        c.cells = turned;
        return 1;
    }

    private static void setWhole(Object cells, int i, int kind, long v) {
        switch (kind) {
            case 0: Array.setByte(cells, i, (byte) v); break;
            case 1: Array.setShort(cells, i, (short) v); break;
            case 2: Array.setChar(cells, i, (char) v); break;
            case 3: Array.setInt(cells, i, (int) v); break;
            default: Array.setLong(cells, i, v); break;
        }
    }

    private int part(int sort, int w) {
        bad(sort < 0 || sort > 2 || w < 0 || w > 1000);
        if (parts.size() == 40) {
            throw new Raised(-2);
        }
        Part part = sort == 0 ? new Part() : sort == 1 ? new Rigid() : new Soft();
        part.w = w;
        parts.add(part);
        return parts.size() - 1;
    }

    private Part[] shelf(int place) {
        Column c = existing(place);
        if (c.kind < 7) {
            throw new Raised(-13);
        }
        return (Part[]) c.cells;
    }

    private int lay(int place, int i, int number) {
        column(place);
        bad(number < -1 || number >= parts.size());
        Part part = number == -1 ? null : parts.get(number);
        shelf(place)[i] = part;
        if (part != null) {
            part.laid++;
        }
        return 1;
    }

    private int copy(int from, int at, int into, int to, int n) {
        Column one = column(from);
        Column other = column(into);
        copied = 0;
        Object source = there(there(one).cells);
        Object target = there(there(other).cells);
        if (one.kind < 7 || other.kind < 7) {
            if (one.kind != other.kind) {
                throw new Raised(-13);
            }
        }
        if (one.kind >= 7 && at >= 0 && to >= 0 && n >= 0 && (long) at + n <= Array.getLength(source)
                && (long) to + n <= Array.getLength(target)) {
            // How far the machine comes is what fits, counted before it copies.
            Class<?> type = TYPES[other.kind];
            int k = 0;
            while (k < n && (Array.get(source, at + k) == null || type.isInstance(Array.get(source, at + k)))) {
                k++;
            }
            copied = k;
        }
        System.arraycopy(source, at, target, to, n);
        copied = n;
        return n;
    }

    private int move(int a, int b, int rule) {
        bad(a < 0 || a > 3 || b < 0 || b > 3 || rule < 0 || rule > 262143);
        Column[] was = mappings[a].clone();
        Column[] becomes = new Column[6];
        int count = 0;
        for (int f = 0; f < 6; f++) {
            int digit = rule % 8;
            rule /= 8;
            if (digit == 7) {
                becomes[f] = mappings[b][f];
            } else if (digit < 6 && was[digit] != null) {
                becomes[f] = was[digit].like();
            }
            count += becomes[f] == null ? 0 : 1;
        }
        mappings[b] = becomes;
        return count;
    }

    private int like(int a, int b) {
        Column one = column(a);
        Column other = column(b);
        int n = Array.getLength(there(there(one).cells));
        int m = Array.getLength(there(there(other).cells));
        if (one.kind != other.kind || n != m) {
            return 0;
        }
        for (int i = 0; i < n; i++) {
            boolean same = one.kind > 6 ? Array.get(one.cells, i) == Array.get(other.cells, i)
                    : number(one.cells, i).compareTo(number(other.cells, i)) == 0;
            if (!same) {
                return 0;
            }
        }
        return 1;
    }

    private int told(int what) {
        bad(what < 0 || what > 3);
        int[] all = {0, 0, parts.size(), 0};
        for (int place = 0; place < 24; place++) {
            Column c = column(place);
            if (c != null) {
                all[0]++;
                int n = c.cells == null ? 0 : Array.getLength(c.cells);
                all[1] += n;
                for (int i = 0; c.kind > 6 && i < n; i++) {
                    all[3] += Array.get(c.cells, i) == null ? 0 : 1;
                }
            }
        }
        return all[what];
    }
}
