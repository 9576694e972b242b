import java.lang.reflect.Array;
import java.math.BigInteger;
import java.util.ArrayDeque;
import java.util.ArrayList;
import java.util.Arrays;
import java.util.LinkedHashSet;
import java.util.List;
import java.util.Random;

/**
 * Long runs of calls, by seeds that are always the same, against a second program of the document that is written
 * in another way: real rows and real casts, whose faults the machine itself finds; walks found by search; payments,
 * sets of payers and readings all tried out.
 */
public final class OracleTest {
    private static final int RUNS = 1500, CALLS = 500;
    private static final int UNKNOWN = -1, OUTSIDE = -2, STATE = -3, FULL = -4, NONE = -9;
    private static final long LOST = Long.MIN_VALUE;

    // ---- the second program

    interface Hailed {
        int number();
        void leave(int body);
        default int hailed() {
            leave(4);
            return number();
        }
    }

    static class PersonBody implements Hailed {
        final Model model;
        final int number;
        PersonBody(Model model, int number) {
            this.model = model;
            this.number = number;
        }
        public int number() {
            return number;
        }
        public void leave(int body) {
            model.trace = model.trace * 31 + body;
        }
        int told() {
            return toldAsPerson();
        }
        final int toldAsPerson() {
            leave(1);
            return Arrays.stream(model.town.owed[number]).sum();
        }
    }

    static class RichBody extends PersonBody {
        RichBody(Model model, int number) {
            super(model, number);
        }
        int told() {
            leave(2);
            return 100 + super.told();
        }
    }

    static class BankruptBody extends RichBody {
        BankruptBody(Model model, int number) {
            super(model, number);
        }
        int told() {
            leave(3);
            int rich = super.told();
            return rich + toldAsPerson();
        }
        public int hailed() {
            leave(5);
            return 50;
        }
    }

    static final class ModelTown {
        int bell;
        String kinds = "";
        int[][] owed = {};

        static ModelTown copyOf(ModelTown t) {
            ModelTown c = new ModelTown();
            c.bell = t.bell;
            c.kinds = t.kinds;
            c.owed = new int[t.owed.length][];
            for (int a = 0; a < t.owed.length; a++) c.owed[a] = t.owed[a].clone();
            return c;
        }

        int size() {
            return owed.length;
        }

        int weight(int a, int b) {
            int pence = owed[a][b];
            if (pence == 0) return 0;
            return switch (kinds.charAt(a)) {
                case 'p' -> pence;
                case 'r' -> pence + 1;
                default -> pence + pence;
            };
        }

        int lighter(int b) {
            int found = NONE;
            for (int a = size() - 1; a >= 0; a--) {
                if (owed[a][b] == 0) continue;
                if (found == NONE || weight(a, b) >= weight(found, b)) found = a;
            }
            return found;
        }

        int round(int p) {
            int set = 0;
            for (int b = 0; b < size(); b++) if (lighter(b) == p) set += 1 << b;
            return set;
        }

        int lit() {
            int set = 0;
            for (int b = 0; b < size(); b++) if (lighter(b) != NONE) set += 1 << b;
            return set;
        }

        /** By a search over doors and lamps come to. */
        int steps(int p) {
            int round = round(p);
            int[][] far = new int[size()][1 << size()];
            for (int[] row : far) Arrays.fill(row, -1);
            ArrayDeque<int[]> open = new ArrayDeque<>();
            open.add(new int[] {p, round & 1 << p});
            far[p][round & 1 << p] = 0;
            while (true) {
                int[] at = open.remove();
                if (at[1] == round) return far[at[0]][at[1]];
                for (int door : new int[] {at[0] - 1, at[0] + 1}) {
                    if (door < 0 || door >= size()) continue;
                    int seen = at[1] | round & 1 << door;
                    if (far[door][seen] >= 0) continue;
                    far[door][seen] = far[at[0]][at[1]] + 1;
                    open.add(new int[] {door, seen});
                }
            }
        }

        ModelTown dusk() {
            ModelTown next = copyOf(this);
            for (int b = 0; b < size(); b++) {
                int a = lighter(b);
                if (a == NONE) continue;
                if (steps(a) <= bell) next.owed[a][b]--;
                else next.owed[a][b] = Math.min(9, next.owed[a][b] * 2);
            }
            return next;
        }

        ModelTown dusks(int n) {
            ModelTown t = this;
            for (int k = 0; k < n; k++) t = t.dusk();
            return t;
        }

        int dark() {
            ModelTown t = this;
            for (int k = 0; k <= 60; k++, t = t.dusk()) {
                boolean any = false;
                for (int[] row : t.owed) for (int v : row) any |= v > 0;
                if (!any) return k;
            }
            return NONE;
        }

        int ring(int b) {
            List<Integer> way = new ArrayList<>();
            int at = b;
            while (!way.contains(at)) {
                way.add(at);
                at = lighter(at);
                if (at == NONE) return NONE;
            }
            int set = 0;
            for (int who : way.subList(way.indexOf(at), way.size())) set += 1 << who;
            return set;
        }

        /** Every payment of every debt of one's own is tried out. */
        int free(int p) {
            int all = 1;
            for (int v : owed[p]) all *= v + 1;
            int best = Integer.MAX_VALUE;
            for (int code = 0; code < all; code++) {
                ModelTown t = copyOf(this);
                int rest = code;
                int paid = 0;
                for (int b = 0; b < size(); b++) {
                    int pay = rest % (owed[p][b] + 1);
                    rest /= owed[p][b] + 1;
                    t.owed[p][b] -= pay;
                    paid += pay;
                }
                if (paid < best && t.round(p) == 0) best = paid;
            }
            return best;
        }

        boolean affordable(int p) {
            int all = 1;
            for (int v : owed[p]) all *= v + 1;
            return all <= 600;
        }

        int haste() {
            for (int v = 0; v <= 9; v++) {
                boolean all = true;
                for (int p = 0; p < size(); p++) all &= round(p) == 0 || steps(p) <= v;
                if (all) return v;
            }
            throw new IllegalStateException();
        }

        long odds(int b, int a, int which) {
            List<Integer> payers = new ArrayList<>();
            for (int p = 0; p < size(); p++) if (owed[p][b] > 0) payers.add(p);
            int sets = 1 << payers.size();
            int hits = 0;
            for (int set = 0; set < sets; set++) {
                ModelTown t = copyOf(this);
                for (int k = 0; k < payers.size(); k++) if ((set >> k & 1) == 1) t.owed[payers.get(k)][b] = 0;
                if (t.lighter(b) == a) hits++;
            }
            BigInteger up = BigInteger.valueOf(hits);
            BigInteger low = BigInteger.valueOf(sets);
            BigInteger by = up.gcd(low);
            return (which == 0 ? up : low).divide(by).longValueExact();
        }
    }

    static final class Model {
        ModelTown town = new ModelTown();
        final Object[] sheets = new Object[4];
        final List<int[]> readings = new ArrayList<>();
        int trace = 0;
        int fault = 0;

        boolean person(int p) {
            return 0 <= p && p < town.size();
        }

        boolean sheetNumber(int k) {
            return 0 <= k && k < 4;
        }

        /** A row of n cells from i on, as the machine itself takes it; a fault is thrown by the machine. */
        int[] taken(Object row, int lane, int i, int n) {
            Object same = lane == 0 ? (byte[]) row : lane == 1 ? (short[]) row : (Object) (int[]) row;
            // A length that is too much even for this machine is beyond the row anyway.
            if (n > 60 && same != null) throw new IndexOutOfBoundsException();
            Object part = Array.newInstance(same.getClass().getComponentType(), n);
            System.arraycopy(same, i, part, 0, n);
            int[] out = new int[n];
            for (int k = 0; k < n; k++) out[k] = Array.getInt(part, k);
            return out;
        }

        int faultOf(RuntimeException e) {
            if (e instanceof NullPointerException) return 1;
            if (e instanceof ClassCastException || e instanceof ArrayStoreException) return 2;
            if (e instanceof IndexOutOfBoundsException) return 3;
            if (e instanceof NegativeArraySizeException) return 4;
            throw e;
        }

        long answer(String name, int[] x) {
            switch (name) {
                case "town", "walk", "sheet", "put", "cell", "copy", "as":
                    fault = 0;
                    try {
                        return faulty(name, x);
                    } catch (RuntimeException e) {
                        fault = faultOf(e);
                        return name.equals("cell") ? LOST : -10 - fault;
                    }
                default:
                    return plain(name, x);
            }
        }

        long faulty(String name, int[] x) {
            switch (name) {
                case "town": {
                    if (!sheetNumber(x[0])) return UNKNOWN;
                    if (x[1] < 0 || x[1] > 2) return OUTSIDE;
                    return text(taken(sheets[x[0]], x[1], x[2], x[3]));
                }
                case "walk": {
                    if (!person(x[0]) || !sheetNumber(x[1])) return UNKNOWN;
                    if (x[2] < 0 || x[2] > 2 || x[4] < 0 || x[4] > 20 || x[5] < 0 || x[5] > 2) return OUTSIDE;
                    return walked(x[0], taken(sheets[x[1]], x[2], x[3], x[4]), x[5]);
                }
                case "sheet": {
                    if (!sheetNumber(x[0])) return UNKNOWN;
                    if (x[1] < 0 || x[1] > 2 || x[2] > 60) return OUTSIDE;
                    sheets[x[0]] = x[1] == 0 ? new byte[x[2]] : x[1] == 1 ? new short[x[2]] : (Object) new int[x[2]];
                    return 1;
                }
                case "put": {
                    if (!sheetNumber(x[0])) return UNKNOWN;
                    Object row = sheets[x[0]];
                    if (row instanceof byte[] bytes) bytes[x[1]] = (byte) x[2];
                    else if (row instanceof short[] shorts) shorts[x[1]] = (short) x[2];
                    else ((int[]) row)[x[1]] = x[2];
                    return 1;
                }
                case "cell": {
                    if (!sheetNumber(x[0]) || x[2] < 0 || x[2] > 2) return LOST;
                    Object row = sheets[x[0]];
                    return x[2] == 0 ? ((byte[]) row)[x[1]] : x[2] == 1 ? ((short[]) row)[x[1]] : ((int[]) row)[x[1]];
                }
                case "copy": {
                    if (!sheetNumber(x[0]) || !sheetNumber(x[2])) return UNKNOWN;
                    System.arraycopy(sheets[x[0]], x[1], sheets[x[2]], x[3], x[4]);
                    return x[4];
                }
                default: {
                    if (!person(x[0])) return UNKNOWN;
                    if (x[1] < 0 || x[1] > 2) return OUTSIDE;
                    PersonBody body = body(x[0]);
                    if (x[1] == 1) body = (RichBody) body;
                    if (x[1] == 2) body = (BankruptBody) body;
                    return 1;
                }
            }
        }

        PersonBody body(int p) {
            return switch (town.kinds.charAt(p)) {
                case 'p' -> new PersonBody(this, p);
                case 'r' -> new RichBody(this, p);
                default -> new BankruptBody(this, p);
            };
        }

        /** The codes that a text that has begun so may go on with; empty at its end. */
        String next(String begun) {
            if (begun.isEmpty()) return "l";
            if (begun.length() == 1) return "23456";
            if (begun.length() == 2) return "0123456789";
            int people = begun.charAt(1) - '0';
            String[] parts = (begun + "!").split(",");
            int last = parts.length - 2;
            String part = parts[parts.length - 1].replace("!", "");
            if (last == -1) return ",";
            if (part.isEmpty()) return "prb";
            if (part.length() == people + 1) return last + 1 == people ? "" : ",";
            return part.length() - 1 == last ? "0" : "0123456789";
        }

        int text(int[] codes) {
            String begun = "";
            for (int k = 0; k < codes.length; k++) {
                String fit = next(begun);
                if (codes[k] < 0 || codes[k] > 127 || fit.indexOf(codes[k]) < 0) return -100 - k;
                begun += (char) codes[k];
            }
            if (!next(begun).isEmpty()) return -100 - codes.length;
            ModelTown t = new ModelTown();
            t.bell = begun.charAt(2) - '0';
            String[] parts = begun.split(",");
            int people = parts.length - 1;
            t.owed = new int[people][people];
            for (int a = 0; a < people; a++) {
                t.kinds += parts[a + 1].charAt(0);
                for (int b = 0; b < people; b++) t.owed[a][b] = parts[a + 1].charAt(b + 1) - '0';
            }
            town = t;
            readings.clear();
            return people;
        }

        long walked(int p, int[] doors, int what) {
            int steps = 0;
            int at = p;
            for (int door : doors) {
                if (!person(door)) return UNKNOWN;
                steps += Math.max(door, at) - Math.min(door, at);
                at = door;
            }
            if (what == 0) return steps;
            LinkedHashSet<Integer> wanted = new LinkedHashSet<>();
            for (int b = 0; b < town.size(); b++) if (town.lighter(b) == p) wanted.add(b);
            if (what == 2 && wanted.isEmpty()) return 0;
            for (int k = 0; k < doors.length; k++) {
                if (wanted.remove(doors[k]) && wanted.isEmpty() && what == 2) return k + 1;
            }
            if (what == 2) return NONE;
            return wanted.stream().mapToInt(b -> 1 << b).sum();
        }

        boolean readingsHold(ModelTown t) {
            for (int[] r : readings) if (t.dusks(r[0]).lighter(r[1]) != r[2]) return false;
            return true;
        }

        long plain(String name, int[] x) {
            int first = x.length > 0 ? x[0] : 0;
            int second = x.length > 1 ? x[1] : 0;
            switch (name) {
                case "ofPerson":
                    if (!person(first)) return UNKNOWN;
                    return switch (second) {
                        case 0 -> "prb".indexOf(town.kinds.charAt(first));
                        case 1 -> Arrays.stream(town.owed[first]).sum();
                        case 2 -> town.round(first);
                        case 3 -> town.steps(first);
                        case 4 -> town.steps(first) <= town.bell ? 1 : 0;
                        default -> OUTSIDE;
                    };
                case "owe": {
                    if (!person(first) || !person(second) || first == second) return UNKNOWN;
                    if (x[2] < 0 || x[2] > 9) return OUTSIDE;
                    int was = town.owed[first][second];
                    town.owed[first][second] = x[2];
                    return was;
                }
                case "owes":
                    return person(first) && person(second) ? town.owed[first][second] : UNKNOWN;
                case "weight":
                    return person(first) && person(second) ? town.weight(first, second) : UNKNOWN;
                case "bell": {
                    if (first < 0 || first > 9) return OUTSIDE;
                    if (town.size() == 0) return STATE;
                    int was = town.bell;
                    town.bell = first;
                    return was;
                }
                case "lighter":
                    return person(first) ? town.lighter(first) : UNKNOWN;
                case "dusks":
                    if (first < 0 || first > 60) return OUTSIDE;
                    if (town.size() == 0) return STATE;
                    town = town.dusks(first);
                    return town.lit();
                case "later":
                    if (!person(first)) return UNKNOWN;
                    return second < 0 || second > 60 ? OUTSIDE : town.dusks(second).lighter(first);
                case "dark":
                    return town.size() == 0 ? STATE : town.dark();
                case "ring":
                    return person(first) ? town.ring(first) : UNKNOWN;
                case "free":
                    return person(first) ? town.free(first) : UNKNOWN;
                case "haste":
                    return town.size() == 0 ? STATE : town.haste();
                default:
                    return more(name, x, first, second);
            }
        }

        long more(String name, int[] x, int first, int second) {
            switch (name) {
                case "reading":
                    if (!person(second) || !person(x[2]) && x[2] != NONE) return UNKNOWN;
                    if (first < 0 || first > 10) return OUTSIDE;
                    if (readings.size() == 8) return FULL;
                    readings.add(x.clone());
                    return readings.size() - 1;
                case "back":
                    if (first < 0 || first > readings.size()) return OUTSIDE;
                    for (int k = 0; k < first; k++) readings.remove(readings.size() - 1);
                    return readings.size();
                case "debts": {
                    if (!person(first) || !person(second) || first == second) return UNKNOWN;
                    int set = 0;
                    for (int v = 0; v < 10; v++) {
                        ModelTown t = ModelTown.copyOf(town);
                        t.owed[first][second] = v;
                        if (readingsHold(t)) set += 1 << v;
                    }
                    return set;
                }
                case "kinds": {
                    if (!person(first)) return UNKNOWN;
                    int set = 0;
                    for (int v = 0; v < 3; v++) {
                        ModelTown t = ModelTown.copyOf(town);
                        t.kinds = t.kinds.substring(0, first) + "prb".charAt(v) + t.kinds.substring(first + 1);
                        if (readingsHold(t)) set += 1 << v;
                    }
                    return set;
                }
                case "bells": {
                    if (town.size() == 0) return STATE;
                    int set = 0;
                    for (int v = 0; v < 10; v++) {
                        ModelTown t = ModelTown.copyOf(town);
                        t.bell = v;
                        if (readingsHold(t)) set += 1 << v;
                    }
                    return set;
                }
                case "odds":
                    if (!person(first) || !person(second) || x[2] < 0 || x[2] > 1) return LOST;
                    return town.odds(first, second, x[2]);
                case "lose": {
                    if (!sheetNumber(first)) return UNKNOWN;
                    boolean had = sheets[first] != null;
                    sheets[first] = null;
                    return had ? 1 : 0;
                }
                case "tell":
                    return person(first) ? body(first).told() : UNKNOWN;
                case "hail":
                    return person(first) ? body(first).hailed() : UNKNOWN;
                case "trace":
                    return trace;
                case "fault":
                    return fault;
                case "many":
                    return switch (first) {
                        case 0 -> town.size();
                        case 1 -> town.bell;
                        case 2 -> Integer.bitCount(town.lit());
                        case 3 -> readings.size();
                        default -> OUTSIDE;
                    };
                default:
                    throw new IllegalStateException(name);
            }
        }
    }

    // ---- the runs

    private static long answer(DebtLamps d, String name, int[] x) {
        return switch (name) {
            case "town" -> d.town(x[0], x[1], x[2], x[3]);
            case "ofPerson" -> d.ofPerson(x[0], x[1]);
            case "owe" -> d.owe(x[0], x[1], x[2]);
            case "owes" -> d.owes(x[0], x[1]);
            case "weight" -> d.weight(x[0], x[1]);
            case "bell" -> d.bell(x[0]);
            case "lighter" -> d.lighter(x[0]);
            case "dusks" -> d.dusks(x[0]);
            case "later" -> d.later(x[0], x[1]);
            case "dark" -> d.dark();
            case "ring" -> d.ring(x[0]);
            case "walk" -> d.walk(x[0], x[1], x[2], x[3], x[4], x[5]);
            case "free" -> d.free(x[0]);
            case "haste" -> d.haste();
            case "reading" -> d.reading(x[0], x[1], x[2]);
            case "back" -> d.back(x[0]);
            case "debts" -> d.debts(x[0], x[1]);
            case "kinds" -> d.kinds(x[0]);
            case "bells" -> d.bells();
            case "odds" -> d.odds(x[0], x[1], x[2]);
            case "sheet" -> d.sheet(x[0], x[1], x[2]);
            case "lose" -> d.lose(x[0]);
            case "put" -> d.put(x[0], x[1], x[2]);
            case "cell" -> d.cell(x[0], x[1], x[2]);
            case "copy" -> d.copy(x[0], x[1], x[2], x[3], x[4]);
            case "tell" -> d.tell(x[0]);
            case "hail" -> d.hail(x[0]);
            case "as" -> d.as(x[0], x[1]);
            case "trace" -> d.trace();
            case "fault" -> d.fault();
            case "many" -> d.many(x[0]);
            default -> throw new IllegalStateException(name);
        };
    }

    private static final String[] ASKED = {
        "ofPerson", "owe", "owes", "weight", "bell", "lighter", "dusks", "later", "dark", "ring", "walk", "walk",
        "free", "haste", "reading", "reading", "back", "debts", "kinds", "bells", "odds", "odds", "sheet", "lose",
        "put", "put", "cell", "copy", "tell", "hail", "as", "trace", "fault", "fault", "many", "town",
    };

    private final Random random;
    private final int run;
    private final DebtLamps lamps = new DebtLamps();
    private final Model model = new Model();
    private int calls = 0;
    private int wrong = 0;

    private OracleTest(int run) {
        this.run = run;
        this.random = new Random(run * 7919L + 17);
    }

    private long ask(String name, int... x) {
        if (calls >= CALLS) return 0;
        calls++;
        long due = model.answer(name, x);
        long got = answer(lamps, name, x);
        if (got != due) {
            wrong++;
            System.out.println("run " + run + ", call " + calls + ": " + name + Arrays.toString(x)
                + " answered " + got + ", due is " + due);
        }
        return got;
    }

    private int odd(int usual) {
        int r = random.nextInt(400);
        if (r == 0) return Integer.MIN_VALUE;
        if (r == 1) return Integer.MAX_VALUE;
        if (r == 2) return -1;
        if (r == 3) return NONE;
        if (r == 4) return random.nextInt();
        return usual;
    }

    private int upTo(int most) {
        return odd(random.nextInt(12) == 0 ? random.nextInt(most + 3) - 1 : random.nextInt(most + 1));
    }

    private int anyPerson() {
        return upTo(Math.max(1, model.town.size() - 1));
    }

    private int laneOf(int k) {
        Object row = k < 0 || k > 3 ? null : model.sheets[k];
        if (random.nextInt(15) == 0) return upTo(2);
        return row instanceof byte[] ? 0 : row instanceof short[] ? 1 : row instanceof int[] ? 2 : random.nextInt(3);
    }

    private int lengthOf(int k) {
        Object row = k < 0 || k > 3 ? null : model.sheets[k];
        return row == null ? 5 : Array.getLength(row);
    }

    private String someText() {
        int people = 2 + random.nextInt(5);
        int most = random.nextInt(4) == 0 ? 2 : 10;
        StringBuilder s = new StringBuilder("l").append(people).append(random.nextInt(10)).append("");
        for (int a = 0; a < people; a++) {
            s.append(',').append("prb".charAt(random.nextInt(3)));
            for (int b = 0; b < people; b++) {
                s.append(a == b || random.nextInt(3) == 0 ? 0 : random.nextInt(most));
            }
        }
        return s.toString();
    }

    private String spoilt(String text) {
        int k = random.nextInt(text.length());
        return switch (random.nextInt(4)) {
            case 0 -> text.substring(0, k);
            case 1 -> text.substring(0, k) + text.substring(k + 1);
            case 2 -> text + "0,lprb9".charAt(random.nextInt(7));
            default -> text.substring(0, k) + ",lprb01279 x".charAt(random.nextInt(12)) + text.substring(k + 1);
        };
    }

    private void writeTown(boolean spoil) {
        String text = someText();
        if (spoil) text = spoilt(text);
        int k = random.nextInt(4);
        int lane = random.nextInt(3);
        int lead = random.nextInt(3);
        ask("sheet", k, lane, text.length() + lead + random.nextInt(3));
        for (int i = 0; i < text.length(); i++) {
            int wide = lane == 0 ? 256 * random.nextInt(5) : lane == 1 ? 65536 * random.nextInt(5) : 0;
            ask("put", k, lead + i, text.charAt(i) + wide);
        }
        ask("town", k, lane, lead, text.length());
    }

    private void writeWalk() {
        int k = random.nextInt(4);
        int lane = random.nextInt(3);
        int n = random.nextInt(8);
        ask("sheet", k, lane, n + random.nextInt(2));
        for (int i = 0; i < n; i++) ask("put", k, i, random.nextInt(Math.max(2, model.town.size())));
        int p = anyPerson();
        for (int what = 0; what < 3; what++) ask("walk", p, k, lane, 0, n, what);
    }

    /** Mostly so that readings are true, or the sets that are asked for are empty. */
    private void addReading() {
        int t = random.nextInt(11);
        if (model.town.size() == 0 || random.nextInt(6) == 0) {
            ask("reading", upTo(10), anyPerson(), random.nextInt(4) == 0 ? NONE : anyPerson());
            return;
        }
        int b = random.nextInt(model.town.size());
        ask("reading", t, b, model.town.dusks(t).lighter(b));
    }

    private void askOne() {
        String name = ASKED[random.nextInt(ASKED.length)];
        int k = upTo(3);
        switch (name) {
            case "town" -> ask(name, k, laneOf(k), upTo(2), odd(lengthOf(k) + random.nextInt(3) - 1));
            case "ofPerson" -> ask(name, anyPerson(), upTo(4));
            case "owe" -> ask(name, anyPerson(), anyPerson(), upTo(9));
            case "owes", "weight", "debts" -> ask(name, anyPerson(), anyPerson());
            case "bell" -> ask(name, upTo(9));
            case "dusks" -> ask(name, random.nextInt(3) > 0 ? random.nextInt(3) : upTo(60));
            case "later" -> ask(name, anyPerson(), upTo(60));
            case "lighter", "ring", "kinds", "tell", "hail" -> ask(name, anyPerson());
            case "free" -> {
                int p = anyPerson();
                if (!model.person(p) || model.town.affordable(p)) ask(name, p);
            }
            case "walk" -> ask(name, anyPerson(), k, laneOf(k), upTo(lengthOf(k)), upTo(20), upTo(2));
            case "reading" -> addReading();
            case "back" -> ask(name, random.nextInt(3) > 0 ? random.nextInt(2) : upTo(8));
            case "odds" -> ask(name, anyPerson(), anyPerson(), upTo(1));
            case "sheet" -> ask(name, k, upTo(2), upTo(60));
            case "lose" -> ask(name, k);
            case "put" -> ask(name, k, upTo(lengthOf(k)), random.nextBoolean() ? random.nextInt(6) : random.nextInt());
            case "cell" -> ask(name, k, upTo(lengthOf(k)), laneOf(k));
            case "copy" -> ask(name, k, upTo(lengthOf(k) / 2), upTo(3), upTo(lengthOf(k) / 2), upTo(lengthOf(k) / 2));
            case "as" -> ask(name, anyPerson(), upTo(2));
            case "many" -> ask(name, upTo(3));
            default -> ask(name);
        }
    }

    private void askAll() {
        int people = model.town.size();
        for (int p = 0; p < people; p++) {
            for (int what = 0; what < 5; what++) ask("ofPerson", p, what);
            ask("ring", p);
            ask("kinds", p);
            ask("debts", p, (p + 1) % people);
        }
        ask("bells");
        ask("haste");
        ask("dark");
        ask("fault");
        ask("trace");
    }

    private int go() {
        if (random.nextInt(10) > 0) writeTown(false);
        while (calls < CALLS && wrong == 0) {
            int r = random.nextInt(250);
            if (r == 0) writeTown(false);
            else if (r == 1) writeTown(true);
            else if (r == 2) askAll();
            else if (r < 10) writeWalk();
            else askOne();
        }
        return wrong;
    }

    public static void main(String[] args) {
        int wrong = 0;
        for (int run = 0; run < RUNS; run++) wrong += new OracleTest(run).go();
        System.out.println(wrong == 0 ? RUNS + " runs are as due" : wrong + " runs are not as due");
        if (wrong != 0) System.exit(1);
    }
}
