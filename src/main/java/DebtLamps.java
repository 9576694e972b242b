/**
 * A town whose lamps are lit at dusk by whoever owes most to whoever lives under them.
 * DOC.md says what every call answers; this file says only why it is done so.
 */
public final class DebtLamps {
    public static final int UNKNOWN = -1, OUTSIDE = -2, STATE = -3, FULL = -4, NONE = -9;
    public static final long LOST = Long.MIN_VALUE;

    private static final int NULL = 1, CAST = 2, INDEX = 3, SIZE = 4;
    private static final int MOST_PEOPLE = 6, MOST_PENCE = 9, MOST_BELL = 9, MOST_KIND = 2;
    private static final int MOST_DUSKS = 60, MOST_READINGS = 8, MOST_READING_DUSKS = 10;
    private static final int SHEETS = 4, MOST_CELLS = 60, MOST_DOORS = 20, MOST_LANE = 2;
    private static final int TEXT_FAULT = -100, MACHINE_FAULT = -10;

    private final Town now;
    // What only might be (a later dusk, another debt) is tried out here, so that no call makes a town.
    private final Town trial;
    // A text is read here first: one that is not taken changes nothing.
    private final Town draft;
    private final Trail trail;
    private final Readings readings;
    private final Sheet[] sheets;
    private int latestFault;

    public DebtLamps() {
        now = new Town();
        trial = new Town();
        draft = new Town();
        trail = new Trail();
        readings = new Readings();
        sheets = new Sheet[] {new Sheet(), new Sheet(), new Sheet(), new Sheet()};
        latestFault = 0;
    }

    // ---- 1 the town

    public int town(int sheet, int lane, int i, int n) {
        latestFault = 0;
        if (!isSheet(sheet)) return UNKNOWN;
        if (!isWithin(lane, MOST_LANE)) return OUTSIDE;
        Sheet text = sheets[sheet];
        if (!text.isOfLane(lane)) return faulted(CAST);
        if (text.hasNothing()) return faulted(NULL);
        if (n < 0) return faulted(SIZE);
        if (!text.hasCells(i, n)) return faulted(INDEX);
        int place = draft.readText(text, i, n);
        if (place != NONE) return TEXT_FAULT - place;
        now.becomeLike(draft);
        readings.keepFirst(0);
        return now.people;
    }

    public int ofPerson(int p, int what) {
        if (!isPerson(p)) return UNKNOWN;
        switch (what) {
            case 0: return now.kindOf[p];
            case 1: return now.penceInAll(p);
            case 2: return now.roundOf(p);
            case 3: return now.stepsOf(p);
            case 4: return now.stepsOf(p) <= now.bellSteps ? 1 : 0;
            default: return OUTSIDE;
        }
    }

    public int owe(int a, int b, int v) {
        if (!isPerson(a) || !isPerson(b) || a == b) return UNKNOWN;
        if (!isWithin(v, MOST_PENCE)) return OUTSIDE;
        int was = now.pence[a][b];
        now.pence[a][b] = v;
        return was;
    }

    public int owes(int a, int b) {
        if (!isPerson(a) || !isPerson(b)) return UNKNOWN;
        return now.pence[a][b];
    }

    public int weight(int a, int b) {
        if (!isPerson(a) || !isPerson(b)) return UNKNOWN;
        return now.weightOf(a, b);
    }

    public int bell(int v) {
        if (!isWithin(v, MOST_BELL)) return OUTSIDE;
        if (!hasTown()) return STATE;
        int was = now.bellSteps;
        now.bellSteps = v;
        return was;
    }

    // ---- 2 lamps

    public int lighter(int b) {
        if (!isPerson(b)) return UNKNOWN;
        return now.lighterAmong(b, 0);
    }

    public int dusks(int n) {
        if (!isWithin(n, MOST_DUSKS)) return OUTSIDE;
        if (!hasTown()) return STATE;
        for (int k = 0; k < n; k++) now.passDusk();
        return now.litLamps();
    }

    public int later(int b, int n) {
        if (!isPerson(b)) return UNKNOWN;
        if (!isWithin(n, MOST_DUSKS)) return OUTSIDE;
        trial.becomeLike(now);
        for (int k = 0; k < n; k++) trial.passDusk();
        return trial.lighterAmong(b, 0);
    }

    public int dark() {
        if (!hasTown()) return STATE;
        trial.becomeLike(now);
        for (int k = 0; k <= MOST_DUSKS; k++) {
            if (trial.litLamps() == 0) return k;
            trial.passDusk();
        }
        return NONE;
    }

    public int ring(int b) {
        if (!isPerson(b)) return UNKNOWN;
        // Behind as many goes as there are people, one is surely where people come again.
        int at = b;
        for (int k = 0; k < now.people; k++) {
            at = now.lighterAmong(at, 0);
            if (at == NONE) return NONE;
        }
        int members = 0;
        for (int k = 0; k < now.people; k++) {
            members |= 1 << at;
            at = now.lighterAmong(at, 0);
            if (at == NONE) return NONE;
        }
        return members;
    }

    public int walk(int p, int sheet, int lane, int i, int n, int what) {
        latestFault = 0;
        if (!isPerson(p) || !isSheet(sheet)) return UNKNOWN;
        if (!isWithin(lane, MOST_LANE) || !isWithin(n, MOST_DOORS) || !isWithin(what, 2)) return OUTSIDE;
        Sheet doors = sheets[sheet];
        if (!doors.isOfLane(lane)) return faulted(CAST);
        if (doors.hasNothing()) return faulted(NULL);
        if (!doors.hasCells(i, n)) return faulted(INDEX);
        for (int k = 0; k < n; k++) {
            if (!isPerson(doors.valueAt(i + k))) return UNKNOWN;
        }
        if (what == 0) return stepsAlong(p, doors, i, n);
        if (what == 1) return lampsLeft(p, doors, i, n);
        return doorsTillRoundIsDone(p, doors, i, n);
    }

    private static int stepsAlong(int p, Sheet doors, int i, int n) {
        int steps = 0;
        int at = p;
        for (int k = 0; k < n; k++) {
            int door = doors.valueAt(i + k);
            steps += Math.abs(door - at);
            at = door;
        }
        return steps;
    }

    private int lampsLeft(int p, Sheet doors, int i, int n) {
        int left = now.roundOf(p);
        for (int k = 0; k < n; k++) left &= ~(1 << doors.valueAt(i + k));
        return left;
    }

    private int doorsTillRoundIsDone(int p, Sheet doors, int i, int n) {
        int left = now.roundOf(p);
        for (int k = 0; k < n; k++) {
            if (left == 0) return k;
            left &= ~(1 << doors.valueAt(i + k));
        }
        return left == 0 ? n : NONE;
    }

    // ---- 3 what is to be paid

    public int free(int p) {
        if (!isPerson(p)) return UNKNOWN;
        trial.becomeLike(now);
        return trial.payTillLighterOfNone(p);
    }

    public int haste() {
        if (!hasTown()) return STATE;
        int most = 0;
        for (int p = 0; p < now.people; p++) most = Math.max(most, now.stepsOf(p));
        return most;
    }

    // ---- 4 who lit what

    public int reading(int t, int b, int a) {
        if (!isPerson(b) || !(isPerson(a) || a == NONE)) return UNKNOWN;
        if (!isWithin(t, MOST_READING_DUSKS)) return OUTSIDE;
        return readings.add(t, b, a);
    }

    public int back(int k) {
        if (!isWithin(k, readings.count)) return OUTSIDE;
        readings.keepFirst(readings.count - k);
        return readings.count;
    }

    public int debts(int a, int b) {
        if (!isPerson(a) || !isPerson(b) || a == b) return UNKNOWN;
        int fit = 0;
        for (int v = 0; v <= MOST_PENCE; v++) {
            trial.becomeLike(now);
            trial.pence[a][b] = v;
            if (readings.areSo(trial)) fit |= 1 << v;
        }
        return fit;
    }

    public int kinds(int p) {
        if (!isPerson(p)) return UNKNOWN;
        int fit = 0;
        for (int kind = 0; kind <= MOST_KIND; kind++) {
            trial.becomeLike(now);
            trial.kindOf[p] = kind;
            if (readings.areSo(trial)) fit |= 1 << kind;
        }
        return fit;
    }

    public int bells() {
        if (!hasTown()) return STATE;
        int fit = 0;
        for (int v = 0; v <= MOST_BELL; v++) {
            trial.becomeLike(now);
            trial.bellSteps = v;
            if (readings.areSo(trial)) fit |= 1 << v;
        }
        return fit;
    }

    public long odds(int b, int a, int which) {
        if (!isPerson(b) || !isPerson(a) || !isWithin(which, 1)) return LOST;
        int owing = now.owingTo(b);
        int upper = 0;
        int lower = 0;
        for (int paid = 0; paid < 1 << MOST_PEOPLE; paid++) {
            if ((paid & ~owing) != 0) continue;
            lower++;
            if (now.lighterAmong(b, paid) == a) upper++;
        }
        // The lower number is a power of 2, so halving alone comes to the least terms.
        for (int k = 0; k < MOST_PEOPLE && lower > 1 && upper % 2 == 0; k++) {
            upper /= 2;
            lower /= 2;
        }
        return which == 0 ? upper : lower;
    }

    // ---- 5 sheets, parts

    public int sheet(int k, int lane, int n) {
        latestFault = 0;
        if (!isSheet(k)) return UNKNOWN;
        if (!isWithin(lane, MOST_LANE) || n > MOST_CELLS) return OUTSIDE;
        if (n < 0) return faulted(SIZE);
        sheets[k].renew(lane, n);
        return 1;
    }

    public int lose(int k) {
        if (!isSheet(k)) return UNKNOWN;
        if (sheets[k].hasNothing()) return 0;
        sheets[k].loseRow();
        return 1;
    }

    public int put(int k, int i, int v) {
        latestFault = 0;
        if (!isSheet(k)) return UNKNOWN;
        Sheet row = sheets[k];
        if (row.hasNothing()) return faulted(NULL);
        if (!row.hasCell(i)) return faulted(INDEX);
        row.setCut(i, v);
        return 1;
    }

    public long cell(int k, int i, int lane) {
        latestFault = 0;
        if (!isSheet(k) || !isWithin(lane, MOST_LANE)) return LOST;
        Sheet row = sheets[k];
        if (!row.isOfLane(lane)) return lostBy(CAST);
        if (row.hasNothing()) return lostBy(NULL);
        if (!row.hasCell(i)) return lostBy(INDEX);
        return row.valueAt(i);
    }

    public int copy(int k, int i, int other, int j, int n) {
        latestFault = 0;
        if (!isSheet(k) || !isSheet(other)) return UNKNOWN;
        Sheet from = sheets[k];
        Sheet to = sheets[other];
        if (from.hasNothing() || to.hasNothing()) return faulted(NULL);
        if (!from.isOfLane(to.lane)) return faulted(CAST);
        if (!from.hasCells(i, n) || !to.hasCells(j, n)) return faulted(INDEX);
        System.arraycopy(from.cells, i, to.cells, j, n);
        return n;
    }

    public int tell(int p) {
        if (!isPerson(p)) return UNKNOWN;
        return now.bodyOf(p).telling(now.penceInAll(p), trail);
    }

    public int hail(int p) {
        if (!isPerson(p)) return UNKNOWN;
        return now.bodyOf(p).hailing(p, trail);
    }

    public int as(int p, int kind) {
        latestFault = 0;
        if (!isPerson(p)) return UNKNOWN;
        if (!isWithin(kind, MOST_KIND)) return OUTSIDE;
        // Each kind is one of the kinds before it, too.
        if (now.kindOf[p] < kind) return faulted(CAST);
        return 1;
    }

    public int trace() {
        return trail.value;
    }

    public int fault() {
        return latestFault;
    }

    public int many(int what) {
        switch (what) {
            case 0: return now.people;
            case 1: return now.bellSteps;
            case 2: return Integer.bitCount(now.litLamps());
            case 3: return readings.count;
            default: return OUTSIDE;
        }
    }

    private boolean hasTown() {
        return now.people > 0;
    }

    private boolean isPerson(int p) {
        return p >= 0 && p < now.people;
    }

    private static boolean isSheet(int k) {
        return k >= 0 && k < SHEETS;
    }

    private static boolean isWithin(int v, int most) {
        return v >= 0 && v <= most;
    }

    private int faulted(int machineFault) {
        latestFault = machineFault;
        return MACHINE_FAULT - machineFault;
    }

    private long lostBy(int machineFault) {
        latestFault = machineFault;
        return LOST;
    }

    /** The body of kind 0, and what the other kinds take over from it. */
    private static class Person {
        int weigh(int pence) {
            return pence;
        }

        int telling(int pence, Trail trail) {
            return plainTelling(pence, trail);
        }

        // Apart from telling, so that a BANKRUPT one can come to it past RICH's.
        final int plainTelling(int pence, Trail trail) {
            trail.leave(1);
            return pence;
        }

        int hailing(int number, Trail trail) {
            trail.leave(4);
            return number;
        }
    }

    private static class Rich extends Person {
        int weigh(int pence) {
            return pence > 0 ? pence + 1 : 0;
        }

        int telling(int pence, Trail trail) {
            trail.leave(2);
            return plainTelling(pence, trail) + 100;
        }
    }

    private static final class Bankrupt extends Rich {
        int weigh(int pence) {
            return 2 * pence;
        }

        int telling(int pence, Trail trail) {
            trail.leave(3);
            int asRich = super.telling(pence, trail);
            return asRich + plainTelling(pence, trail);
        }

        int hailing(int number, Trail trail) {
            trail.leave(5);
            return 50;
        }
    }

    /** What bodies leave as they begin. */
    private static final class Trail {
        private int value;

        void leave(int number) {
            value = 31 * value + number;
        }
    }

    /** Readings, the latest one last. */
    private static final class Readings {
        private final int[] duskOf = new int[MOST_READINGS];
        private final int[] lampOf = new int[MOST_READINGS];
        private final int[] lighterOf = new int[MOST_READINGS];
        private int count;

        /** The number of the reading that is added; FULL. */
        int add(int t, int b, int a) {
            if (count >= MOST_READINGS) return FULL;
            duskOf[count] = t;
            lampOf[count] = b;
            lighterOf[count] = a;
            count++;
            return count - 1;
        }

        void keepFirst(int n) {
            if (n >= 0 && n < count) count = n;
        }

        /** Whether all are so of a town, whose dusks go by meanwhile: the town is used up. */
        boolean areSo(Town town) {
            int last = latestDusk();
            for (int t = 0; t <= last; t++) {
                if (t > 0) town.passDusk();
                if (!areSoBehind(t, town)) return false;
            }
            return true;
        }

        private boolean areSoBehind(int t, Town town) {
            for (int k = 0; k < count; k++) {
                if (duskOf[k] == t && town.lighterAmong(lampOf[k], 0) != lighterOf[k]) return false;
            }
            return true;
        }

        private int latestDusk() {
            int last = -1;
            for (int k = 0; k < count; k++) last = Math.max(last, duskOf[k]);
            return last;
        }
    }

    /** A row of numbers of a lane, or nothing. */
    private static final class Sheet {
        private static final int NOTHING = -1;
        // Every row that this sheet ever gets lies here, so that new rows take no room.
        private final int[] cells = new int[MOST_CELLS];
        private int length = NOTHING;
        private int lane;

        boolean hasNothing() {
            return length == NOTHING;
        }

        void renew(int newLane, int n) {
            lane = newLane;
            length = Math.max(0, Math.min(n, MOST_CELLS));
            for (int i = 0; i < MOST_CELLS; i++) cells[i] = 0;
        }

        void loseRow() {
            length = NOTHING;
        }

        /** Nothing is of every lane. */
        boolean isOfLane(int wanted) {
            return hasNothing() || lane == wanted;
        }

        boolean hasCell(int i) {
            return i >= 0 && i < length;
        }

        boolean hasCells(int i, int n) {
            return i >= 0 && i <= length && n >= 0 && n <= length - i;
        }

        void setCut(int i, int v) {
            if (!hasCell(i)) return;
            cells[i] = lane == 0 ? (byte) v : lane == 1 ? (short) v : v;
        }

        int valueAt(int i) {
            return hasCell(i) ? cells[i] : 0;
        }
    }

    /** People, what they owe, and the bell; without people there is no town. */
    private static final class Town {
        private static final int HEAD = 3;
        private final Person[] bodies = {new Person(), new Rich(), new Bankrupt()};
        private final int[] kindOf = new int[MOST_PEOPLE];
        private final int[][] pence = new int[MOST_PEOPLE][MOST_PEOPLE];
        // Rows for what is as a dusk begins.
        private final int[] lighters = new int[MOST_PEOPLE];
        private final boolean[] inTime = new boolean[MOST_PEOPLE];
        private int people;
        private int bellSteps;

        void becomeLike(Town other) {
            people = other.people;
            bellSteps = other.bellSteps;
            for (int a = 0; a < MOST_PEOPLE; a++) {
                kindOf[a] = other.kindOf[a];
                for (int b = 0; b < MOST_PEOPLE; b++) pence[a][b] = other.pence[a][b];
            }
        }

        /** The first fault of a text, which this town becomes; NONE, if the text is one. */
        int readText(Sheet text, int from, int n) {
            people = 0;
            for (int place = 0; place < n; place++) {
                if (!takesCode(place, text.valueAt(from + place))) return place;
            }
            return n < textLength() ? n : NONE;
        }

        private int textLength() {
            return HEAD + people * (people + 2);
        }

        private boolean takesCode(int place, int code) {
            if (place == 0) return code == 'l';
            if (place == 1) return takesPeople(code - '0');
            if (place == 2) return takesBell(code - '0');
            if (place >= textLength()) return false;
            int width = people + 2;
            int a = (place - HEAD) / width;
            int column = (place - HEAD) % width;
            if (column == 0) return code == ',';
            if (column == 1) return takesKind(a, code);
            return takesPence(a, column - 2, code - '0');
        }

        private boolean takesPeople(int digit) {
            if (digit < 2 || digit > MOST_PEOPLE) return false;
            people = digit;
            return true;
        }

        private boolean takesBell(int digit) {
            if (digit < 0 || digit > MOST_BELL) return false;
            bellSteps = digit;
            return true;
        }

        private boolean takesKind(int a, int letter) {
            int kind = letter == 'p' ? 0 : letter == 'r' ? 1 : letter == 'b' ? 2 : NONE;
            if (kind == NONE) return false;
            kindOf[a] = kind;
            return true;
        }

        private boolean takesPence(int a, int b, int digit) {
            int most = a == b ? 0 : MOST_PENCE;
            if (digit < 0 || digit > most) return false;
            pence[a][b] = digit;
            return true;
        }

        int penceInAll(int a) {
            int sum = 0;
            for (int b = 0; b < people; b++) sum += pence[a][b];
            return sum;
        }

        Person bodyOf(int a) {
            return bodies[kindOf[a]];
        }

        int weightOf(int a, int b) {
            return bodies[kindOf[a]].weigh(pence[a][b]);
        }

        int owingTo(int b) {
            int owing = 0;
            for (int a = 0; a < people; a++) {
                if (pence[a][b] > 0) owing |= 1 << a;
            }
            return owing;
        }

        /** The lighter of a lamp, as if those of a set owed nothing. */
        int lighterAmong(int b, int leftOut) {
            int lighter = NONE;
            int most = 0;
            for (int a = 0; a < people; a++) {
                if ((leftOut >> a & 1) == 1) continue;
                int weight = weightOf(a, b);
                if (weight > most) {
                    most = weight;
                    lighter = a;
                }
            }
            return lighter;
        }

        int litLamps() {
            int lit = 0;
            for (int b = 0; b < people; b++) {
                if (lighterAmong(b, 0) != NONE) lit |= 1 << b;
            }
            return lit;
        }

        int roundOf(int p) {
            findLighters();
            return roundByLighters(p);
        }

        int stepsOf(int p) {
            return fewestSteps(p, roundOf(p));
        }

        /** A dusk goes by; all is settled by what is as it begins. */
        void passDusk() {
            findLighters();
            for (int p = 0; p < people; p++) {
                inTime[p] = fewestSteps(p, roundByLighters(p)) <= bellSteps;
            }
            for (int b = 0; b < people; b++) {
                int a = lighters[b];
                if (a == NONE) continue;
                int owed = pence[a][b];
                pence[a][b] = inTime[a] ? Math.max(0, owed - 1) : Math.min(MOST_PENCE, 2 * owed);
            }
        }

        /** What a person pays, penny by penny, at each lamp as long as it is the lighter there. */
        int payTillLighterOfNone(int p) {
            int paid = 0;
            for (int b = 0; b < people; b++) {
                for (int v = pence[p][b]; v > 0 && lighterAmong(b, 0) == p; v--) {
                    pence[p][b] = v - 1;
                    paid++;
                }
            }
            return paid;
        }

        private void findLighters() {
            for (int b = 0; b < people; b++) lighters[b] = lighterAmong(b, 0);
        }

        private int roundByLighters(int p) {
            int round = 0;
            for (int b = 0; b < people; b++) {
                if (lighters[b] == p) round |= 1 << b;
            }
            return round;
        }

        // Doors stand in a row: one goes to the nearer end first and comes by it once more.
        private static int fewestSteps(int p, int round) {
            int down = 0;
            int up = 0;
            for (int b = 0; b < MOST_PEOPLE; b++) {
                if ((round >> b & 1) == 0) continue;
                down = Math.max(down, p - b);
                up = Math.max(up, b - p);
            }
            return down + up + Math.min(down, up);
        }
    }
}
