/** Each promise by hand: ordinary inputs, the edges that the document names, wrong inputs. */
public final class PromiseTest {
    private static final int UNKNOWN = -1, OUTSIDE = -2, STATE = -3, FULL = -4, NONE = -9;
    private static final int NULL = -11, CAST = -12, INDEX = -13, SIZE = -14;
    private static final long LOST = Long.MIN_VALUE;
    // p owes 2 to 1 and 5 to 3, r owes 3 to 0 and 9 to 2, and so on.
    private static final String FIVE = "l53,p02050,r30900,p04071,b01002,p60030";
    private static int wrong = 0;
    private static int promise = 0;

    private static void due(String call, long got, long want) {
        if (got == want) return;
        wrong++;
        System.out.println("promise " + promise + ": " + call + " answered " + got + ", due is " + want);
    }

    private static void write(DebtLamps x, int k, int lane, String text) {
        due("sheet", x.sheet(k, lane, text.length()), 1);
        for (int i = 0; i < text.length(); i++) due("put", x.put(k, i, text.charAt(i)), 1);
    }

    private static void writeNumbers(DebtLamps x, int k, int lane, int... numbers) {
        due("sheet", x.sheet(k, lane, numbers.length), 1);
        for (int i = 0; i < numbers.length; i++) due("put", x.put(k, i, numbers[i]), 1);
    }

    private static int read(DebtLamps x, String text) {
        write(x, 0, 0, text);
        return x.town(0, 0, 0, text.length());
    }

    private static DebtLamps townOf(String text) {
        DebtLamps x = new DebtLamps();
        due("town " + text, read(x, text), text.charAt(1) - '0');
        return x;
    }

    private static void promise1() {
        DebtLamps x = new DebtLamps();
        for (int what = 0; what < 4; what++) due("many " + what, x.many(what), 0);
        for (int k = 0; k < 4; k++) due("lose " + k, x.lose(k), 0);
        due("fault", x.fault(), 0);
        due("trace", x.trace(), 0);
    }

    private static void promise2() {
        DebtLamps x = new DebtLamps();
        due("least", read(x, "l20,p00,p00"), 2);
        due("most", read(x, "l69,p099999,r909999,b990999,p999099,r999909,b999990"), 6);
        due("people", x.many(0), 6);
        due("bell", x.many(1), 9);
        String[] spoilt = {"", "x", "L20", "l1", "l7", "l2x", "l2-", "l20p", "l20,x", "l20,l", "l20,p1", "l20,p0p",
            "l20,p00p", "l20,p00,", "l20,p00,p01", "l20,p00,p00,", "l20,p00,p000", "l20,p00,p00x", "l30,p000,p000,p001"};
        int[] places = {0, 0, 0, 1, 1, 2, 2, 3, 4, 4, 5, 6, 7, 8, 10, 11, 11, 11, 17};
        for (int k = 0; k < spoilt.length; k++) due("town " + spoilt[k], read(x, spoilt[k]), -100 - places[k]);
        due("nothing changed", x.many(0), 6);
        due("fault of a text is none of the machine", x.fault(), 0);
        promise2Faults();
        promise2Anew();
    }

    private static void promise2Faults() {
        DebtLamps x = new DebtLamps();
        due("no such sheet", x.town(4, 0, 0, 0), UNKNOWN);
        due("no such sheet", x.town(-1, 3, 0, 0), UNKNOWN);
        due("lane", x.town(0, 3, 0, 0), OUTSIDE);
        due("lane", x.town(0, -1, 0, 0), OUTSIDE);
        due("nothing, of any lane", x.town(0, 1, 0, -1), NULL);
        due("fault", x.fault(), 1);
        write(x, 1, 1, "xxl20,p00,r00");
        due("cast ahead of size", x.town(1, 0, 0, -1), CAST);
        due("fault", x.fault(), 2);
        due("size ahead of index", x.town(1, 1, -1, -1), SIZE);
        due("fault", x.fault(), 4);
        due("index", x.town(1, 1, 0, 14), INDEX);
        due("index", x.town(1, 1, 13, 1), INDEX);
        due("index", x.town(1, 1, -1, 3), INDEX);
        due("index of none", x.town(1, 1, 14, 0), INDEX);
        due("index of very many", x.town(1, 1, 1, Integer.MAX_VALUE), INDEX);
        due("fault", x.fault(), 3);
        due("none at the end", x.town(1, 1, 13, 0), -100);
        due("fault", x.fault(), 0);
        due("from a place on", x.town(1, 1, 2, 11), 2);
        writeNumbers(x, 2, 2, 'l' + 256, '2', '0');
        due("ints are not cut to bytes", x.town(2, 2, 0, 3), -100);
    }

    private static void promise2Anew() {
        DebtLamps x = townOf(FIVE);
        due("reading", x.reading(0, 0, 4), 0);
        due("a text that is not taken", read(x, "l2"), -102);
        due("readings stay", x.many(3), 1);
        due("a text that is taken", read(x, "l20,p00,p00"), 2);
        due("no readings", x.many(3), 0);
        due("owes", x.owes(0, 1), 0);
        due("no third one", x.owes(2, 0), UNKNOWN);
    }

    private static void promise3() {
        DebtLamps x = townOf(FIVE);
        int[][] want = {{0, 7, 0, 0, 1}, {1, 12, 4, 1, 1}, {0, 12, 10, 3, 1}, {2, 3, 16, 1, 1}, {0, 9, 1, 4, 0}};
        for (int p = 0; p < 5; p++) {
            for (int what = 0; what < 5; what++) due("ofPerson " + p + what, x.ofPerson(p, what), want[p][what]);
        }
        due("what", x.ofPerson(0, 5), OUTSIDE);
        due("what", x.ofPerson(0, -1), OUTSIDE);
        due("unknown ahead of outside", x.ofPerson(5, 5), UNKNOWN);
        due("person", x.ofPerson(-1, 0), UNKNOWN);
        DebtLamps six = townOf("l67,p000000,p000000,p110111,p000000,p000000,p000000");
        due("both ends", six.ofPerson(2, 3), 7);
        due("in time just so", six.ofPerson(2, 4), 1);
        due("bell", six.bell(6), 7);
        due("too late by one", six.ofPerson(2, 4), 0);
    }

    private static void promise4() {
        DebtLamps x = townOf(FIVE);
        due("owe", x.owe(0, 1, 9), 2);
        due("owe", x.owe(0, 1, 0), 9);
        due("owes", x.owes(0, 1), 0);
        due("one to themselves, ahead of outside", x.owe(1, 1, 10), UNKNOWN);
        due("person", x.owe(5, 0, 1), UNKNOWN);
        due("person", x.owe(0, -1, 1), UNKNOWN);
        due("pence", x.owe(0, 1, 10), OUTSIDE);
        due("pence", x.owe(0, 1, -1), OUTSIDE);
        due("nothing changed", x.owes(0, 1), 0);
    }

    private static void promise5() {
        DebtLamps x = townOf(FIVE);
        due("owes", x.owes(1, 2), 9);
        due("owes", x.owes(2, 1), 4);
        due("to themselves", x.owes(3, 3), 0);
        due("person", x.owes(5, 0), UNKNOWN);
        due("person", x.owes(0, 5), UNKNOWN);
        due("person", x.owes(-1, 0), UNKNOWN);
    }

    private static void promise6() {
        DebtLamps x = townOf("l30,p012,r102,b210");
        due("person", x.weight(0, 2), 2);
        due("rich", x.weight(1, 2), 3);
        due("bankrupt", x.weight(2, 0), 4);
        due("rich one that owes nothing", x.weight(1, 1), 0);
        due("owe", x.owe(1, 0, 0), 1);
        due("rich one that owes nothing", x.weight(1, 0), 0);
        due("person", x.weight(3, 0), UNKNOWN);
        due("person", x.weight(0, -1), UNKNOWN);
    }

    private static void promise7() {
        DebtLamps x = new DebtLamps();
        due("no town", x.bell(0), STATE);
        due("outside ahead of state", x.bell(10), OUTSIDE);
        x = townOf("l23,p00,p00");
        due("bell", x.bell(9), 3);
        due("bell", x.bell(0), 9);
        due("bell", x.bell(-1), OUTSIDE);
        due("many", x.many(1), 0);
    }

    private static void promise8() {
        DebtLamps x = townOf("l40,p0400,r3020,b0200,p0030");
        due("the least of several", x.lighter(1), 0);
        due("the only one", x.lighter(0), 1);
        due("rich by one more", x.lighter(2), 1);
        due("dark", x.lighter(3), NONE);
        due("owe", x.owe(2, 1, 3), 2);
        due("bankrupt by twice", x.lighter(1), 2);
        due("lamp", x.lighter(4), UNKNOWN);
        due("lamp", x.lighter(-1), UNKNOWN);
    }

    private static void promise9() {
        DebtLamps x = new DebtLamps();
        due("no town", x.dusks(0), STATE);
        due("outside ahead of state", x.dusks(61), OUTSIDE);
        x = townOf("l31,p012,p000,p500");
        due("none goes by", x.dusks(0), 7);
        due("one", x.dusks(1), 7);
        due("0 goes two steps, too late", x.owes(0, 1), 2);
        due("0 goes two steps, too late", x.owes(0, 2), 4);
        due("2 goes two steps, too late", x.owes(2, 0), 9);
        due("bell", x.bell(2), 1);
        due("two", x.dusks(2), 5);
        due("in time", x.owes(0, 1), 0);
        due("in time", x.owes(0, 2), 2);
        due("in time", x.owes(2, 0), 7);
        due("sixty", x.dusks(60), 0);
        due("below", x.dusks(-1), OUTSIDE);
        due("beyond", x.dusks(61), OUTSIDE);
        DebtLamps ring = townOf("l21,p02,p10");
        due("all at once", ring.dusks(1), 2);
        due("all at once", ring.owes(1, 0), 0);
        due("all at once", ring.owes(0, 1), 1);
    }

    private static void promise10() {
        DebtLamps x = townOf(FIVE);
        int[] want = {2, 2, 0, 2, 0, 2, 0, 2};
        for (int n = 0; n < want.length; n++) due("later 3 " + n, x.later(3, n), want[n]);
        due("nothing is changed", x.owes(1, 2), 9);
        due("bell", x.bell(9), 3);
        due("all paid", x.later(3, 60), NONE);
        due("nothing is changed", x.lighter(3), 2);
        due("beyond", x.later(0, 61), OUTSIDE);
        due("below", x.later(0, -1), OUTSIDE);
        due("unknown ahead of outside", x.later(5, 61), UNKNOWN);
    }

    private static void promise11() {
        due("no town", new DebtLamps().dark(), STATE);
        due("dark already", townOf("l20,p00,p00").dark(), 0);
        due("never", townOf("l20,p01,p00").dark(), NONE);
        due("nine", townOf("l21,p09,p00").dark(), 9);
        due("one behind another", townOf("l29,p09,p90").dark(), 9);
        DebtLamps x = townOf("l69,p000000,p900000,p900000,p900000,p900000,p900000");
        due("five times nine", x.dark(), 45);
        due("nothing is changed", x.owes(1, 0), 9);
    }

    private static void promise12() {
        DebtLamps x = townOf(FIVE);
        due("ring", x.ring(0), 6);
        due("of one in it", x.ring(1), 6);
        due("owe", x.owe(1, 2, 0), 9);
        due("a lamp is dark on the way", x.ring(0), NONE);
        due("lamp", x.ring(5), UNKNOWN);
        due("lamp", x.ring(-1), UNKNOWN);
        // The lighter of k's lamp is k + 1, that of the last one's is the first.
        DebtLamps all = townOf("l60,p000001,p100000,p010000,p001000,p000100,p000010");
        due("all", all.ring(3), 63);
    }

    private static void promise13() {
        DebtLamps x = townOf(FIVE);
        writeNumbers(x, 1, 2, 4, 0, 3, 1, 1, 5);
        due("steps", x.walk(2, 1, 2, 0, 3, 0), 9);
        due("only passed by", x.walk(2, 1, 2, 0, 3, 1), 2);
        due("not to all", x.walk(2, 1, 2, 0, 3, 2), NONE);
        due("steps", x.walk(2, 1, 2, 0, 5, 0), 11);
        due("all", x.walk(2, 1, 2, 0, 5, 1), 0);
        due("the last one", x.walk(2, 1, 2, 0, 5, 2), 4);
        due("from a place on", x.walk(2, 1, 2, 2, 2, 2), 2);
        due("it needs none", x.walk(0, 1, 2, 0, 5, 2), 0);
        due("it needs none, no doors", x.walk(0, 1, 2, 6, 0, 2), 0);
        due("no doors", x.walk(2, 1, 2, 0, 0, 0), 0);
        due("no doors", x.walk(2, 1, 2, 0, 0, 1), 10);
        due("no doors", x.walk(2, 1, 2, 0, 0, 2), NONE);
        due("a cell is no person", x.walk(2, 1, 2, 0, 6, 0), UNKNOWN);
        due("which is no fault", x.fault(), 0);
        due("put", x.put(1, 0, -1), 1);
        due("a cell is no person", x.walk(2, 1, 2, 0, 1, 0), UNKNOWN);
        promise13Wrong(x);
    }

    private static void promise13Wrong(DebtLamps x) {
        due("person", x.walk(5, 1, 3, 0, 0, 0), UNKNOWN);
        due("sheet", x.walk(0, 4, 3, 0, 0, 0), UNKNOWN);
        due("lane", x.walk(0, 1, 3, 0, 0, 0), OUTSIDE);
        due("doors below", x.walk(0, 1, 2, 0, -1, 0), OUTSIDE);
        due("doors beyond", x.walk(0, 1, 2, 0, 21, 0), OUTSIDE);
        due("what", x.walk(0, 1, 2, 0, 0, 3), OUTSIDE);
        due("cast", x.walk(0, 1, 0, 9, 1, 0), CAST);
        due("fault", x.fault(), 2);
        due("nothing", x.walk(0, 2, 0, 9, 1, 0), NULL);
        due("fault", x.fault(), 1);
        due("index", x.walk(0, 1, 2, 5, 2, 0), INDEX);
        due("index of none", x.walk(0, 1, 2, 7, 0, 0), INDEX);
        due("index ahead of cells", x.walk(0, 1, 2, 0, 7, 0), INDEX);
        due("fault", x.fault(), 3);
        due("index", x.walk(0, 1, 2, -1, 1, 0), INDEX);
        due("refused", x.walk(9, 1, 2, -1, 1, 0), UNKNOWN);
        due("fault of what is refused", x.fault(), 0);
        due("sheet", x.sheet(2, 0, 20), 1);
        due("twenty doors", x.walk(4, 2, 0, 0, 20, 0), 4);
    }

    private static void promise14() {
        DebtLamps x = townOf(FIVE);
        int[] want = {0, 9, 4, 2, 2};
        for (int p = 0; p < 5; p++) due("free " + p, x.free(p), want[p]);
        due("nothing is changed", x.owes(1, 2), 9);
        due("person", x.free(5), UNKNOWN);
        due("person", x.free(-1), UNKNOWN);
        DebtLamps tie = townOf("l30,p000,p500,p400");
        due("of several the least: one below", tie.free(1), 2);
        DebtLamps other = townOf("l30,p004,p005,p000");
        due("of several the least: as many", other.free(1), 1);
    }

    private static void promise15() {
        due("no town", new DebtLamps().haste(), STATE);
        due("nobody has a round", townOf("l25,p00,p00").haste(), 0);
        due("haste", townOf(FIVE).haste(), 4);
        due("the most that is", townOf("l60,p000000,p000000,p110111,p000000,p000000,p000000").haste(), 7);
    }

    private static void promise16() {
        DebtLamps x = new DebtLamps();
        due("no town", x.reading(0, 0, NONE), UNKNOWN);
        x = townOf(FIVE);
        due("lamp", x.reading(11, 5, 0), UNKNOWN);
        due("person", x.reading(11, 0, 5), UNKNOWN);
        due("person", x.reading(0, 0, -1), UNKNOWN);
        due("lamp", x.reading(0, NONE, 0), UNKNOWN);
        due("dusks", x.reading(11, 0, 0), OUTSIDE);
        due("dusks", x.reading(-1, 0, 0), OUTSIDE);
        for (int k = 0; k < 8; k++) due("reading " + k, x.reading(k + 2, 0, k % 2 == 0 ? NONE : 1), k);
        due("full", x.reading(0, 0, 0), FULL);
        due("outside ahead of full", x.reading(11, 0, 0), OUTSIDE);
        due("unknown ahead of full", x.reading(0, 0, 7), UNKNOWN);
        due("readings", x.many(3), 8);
    }

    private static void promise17() {
        DebtLamps x = new DebtLamps();
        due("none", x.back(0), 0);
        due("beyond", x.back(1), OUTSIDE);
        x = townOf(FIVE);
        due("so", x.reading(0, 0, 4), 0);
        due("not so", x.reading(0, 1, NONE), 1);
        due("below", x.back(-1), OUTSIDE);
        due("beyond", x.back(3), OUTSIDE);
        due("none", x.back(0), 2);
        due("bells", x.bells(), 0);
        due("the last one", x.back(1), 1);
        due("bells", x.bells(), 1023);
        due("the number is free again", x.reading(0, 0, 0), 1);
        due("all", x.back(2), 0);
    }

    private static void promise18() {
        DebtLamps x = townOf(FIVE);
        due("without readings", x.debts(4, 0), 1023);
        due("reading", x.reading(0, 0, 4), 0);
        due("five at least", x.debts(4, 0), 992);
        due("two at most", x.debts(3, 0), 7);
        due("reading", x.reading(1, 4, NONE), 1);
        due("two owe there", x.debts(3, 4), 0);
        due("one to themselves", x.debts(0, 0), UNKNOWN);
        due("person", x.debts(5, 0), UNKNOWN);
        due("person", x.debts(0, 5), UNKNOWN);
        due("nothing is changed", x.owes(4, 0), 6);
        DebtLamps paid = townOf("l21,p03,p00");
        due("reading", paid.reading(4, 1, NONE), 0);
        due("reading", paid.reading(2, 1, 0), 1);
        due("paid off behind four dusks, not behind two", paid.debts(0, 1), 24);
    }

    private static void promise19() {
        DebtLamps x = townOf("l39,p003,p004,p000");
        due("without readings", x.kinds(0), 7);
        due("reading", x.reading(0, 2, 0), 0);
        due("rich comes up to it", x.kinds(0), 6);
        due("none would do", x.kinds(1), 0);
        due("reading", x.reading(1, 2, 0), 1);
        due("only a bankrupt one has more yet", x.kinds(0), 4);
        due("nothing is changed", x.ofPerson(0, 0), 0);
        due("person", x.kinds(3), UNKNOWN);
        due("person", x.kinds(-1), UNKNOWN);
    }

    private static void promise20() {
        DebtLamps x = new DebtLamps();
        due("no town", x.bells(), STATE);
        x = townOf("l30,p001,p000,p000");
        due("without readings", x.bells(), 1023);
        due("reading", x.reading(1, 2, NONE), 0);
        due("in time by two", x.bells(), 1020);
        due("back", x.back(1), 0);
        due("reading", x.reading(10, 2, 0), 0);
        due("too late by one", x.bells(), 3);
        due("nothing is changed", x.many(1), 0);
    }

    private static void promise21() {
        DebtLamps x = townOf("l69,p000000,p100000,p200000,p300000,p400000,p500000");
        for (int a = 1; a < 6; a++) {
            due("upper " + a, x.odds(0, a, 0), 1);
            due("lower " + a, x.odds(0, a, 1), 1 << 6 - a);
        }
        due("who owes nothing", x.odds(0, 0, 0), 0);
        due("who owes nothing", x.odds(0, 0, 1), 1);
        due("nobody owes", x.odds(1, 0, 0), 0);
        due("nobody owes", x.odds(1, 0, 1), 1);
        due("lamp", x.odds(6, 0, 0), LOST);
        due("person", x.odds(0, 6, 0), LOST);
        due("person", x.odds(0, NONE, 0), LOST);
        due("which", x.odds(0, 0, 2), LOST);
        due("which", x.odds(0, 0, -1), LOST);
    }

    private static void promise22() {
        DebtLamps x = new DebtLamps();
        due("sheet", x.sheet(4, 3, -1), UNKNOWN);
        due("sheet", x.sheet(-1, 0, 0), UNKNOWN);
        due("lane", x.sheet(0, 3, -1), OUTSIDE);
        due("lane", x.sheet(0, -1, 0), OUTSIDE);
        due("too long", x.sheet(0, 0, 61), OUTSIDE);
        due("size", x.sheet(0, 0, -1), SIZE);
        due("fault", x.fault(), 4);
        due("nothing changed", x.lose(0), 0);
        due("empty", x.sheet(0, 0, 0), 1);
        due("fault", x.fault(), 0);
        due("no cell", x.put(0, 0, 1), INDEX);
        due("longest", x.sheet(0, 2, 60), 1);
        due("last cell", x.put(0, 59, 7), 1);
        due("new row", x.sheet(0, 1, 60), 1);
        due("zero at first", x.cell(0, 59, 1), 0);
        due("of another lane", x.cell(0, 59, 2), LOST);
    }

    private static void promise23() {
        DebtLamps x = new DebtLamps();
        due("had nothing", x.lose(3), 0);
        due("sheet", x.sheet(3, 0, 0), 1);
        due("had a row", x.lose(3), 1);
        due("nothing", x.put(3, 0, 0), NULL);
        due("lose names no fault", x.lose(3), 0);
        due("fault stays", x.fault(), 1);
        due("sheet", x.lose(4), UNKNOWN);
        due("sheet", x.lose(-1), UNKNOWN);
        due("fault stays", x.fault(), 1);
    }

    private static void promise24() {
        DebtLamps x = new DebtLamps();
        due("sheet", x.put(4, 0, 0), UNKNOWN);
        due("nothing", x.put(0, -1, 0), NULL);
        for (int lane = 0; lane < 3; lane++) {
            due("sheet", x.sheet(lane, lane, 2), 1);
            due("put", x.put(lane, 1, 0x12348081), 1);
            due("below", x.put(lane, -1, 0), INDEX);
            due("beyond", x.put(lane, 2, 0), INDEX);
            due("fault", x.fault(), 3);
            due("other cell", x.cell(lane, 0, lane), 0);
        }
        due("byte", x.cell(0, 1, 0), (byte) 0x81);
        due("short", x.cell(1, 1, 1), (short) 0x8081);
        due("int", x.cell(2, 1, 2), 0x12348081);
    }

    private static void promise25() {
        DebtLamps x = new DebtLamps();
        due("sheet", x.cell(4, 0, 0), LOST);
        due("lane", x.cell(0, 0, 3), LOST);
        due("refused", x.fault(), 0);
        due("nothing is no cast", x.cell(0, 0, 2), LOST);
        due("fault", x.fault(), 1);
        writeNumbers(x, 0, 1, 5, Short.MIN_VALUE);
        due("cell", x.cell(0, 0, 1), 5);
        due("cell", x.cell(0, 1, 1), Short.MIN_VALUE);
        due("fault", x.fault(), 0);
        due("cast ahead of index", x.cell(0, 2, 0), LOST);
        due("fault", x.fault(), 2);
        due("beyond", x.cell(0, 2, 1), LOST);
        due("fault", x.fault(), 3);
        due("below", x.cell(0, -1, 1), LOST);
        due("refused", x.cell(-1, 0, 1), LOST);
        due("fault", x.fault(), 0);
    }

    private static void promise26() {
        DebtLamps x = new DebtLamps();
        writeNumbers(x, 0, 2, 1, 2, 3, 4, 5);
        due("onward", x.copy(0, 0, 0, 1, 4), 4);
        int[] want = {1, 1, 2, 3, 4};
        for (int i = 0; i < 5; i++) due("cell " + i, x.cell(0, i, 2), want[i]);
        due("backward", x.copy(0, 2, 0, 0, 3), 3);
        due("as they were", x.cell(0, 0, 2), 2);
        due("as they were", x.cell(0, 2, 2), 4);
        due("the other has nothing", x.copy(0, -1, 1, 0, 1), NULL);
        due("the first has nothing", x.copy(1, 0, 0, -1, 1), NULL);
        due("sheet", x.sheet(1, 1, 2), 1);
        due("cast ahead of index", x.copy(0, -1, 1, 0, 1), CAST);
        due("fault", x.fault(), 2);
        due("sheet", x.sheet(1, 2, 2), 1);
        due("to another", x.copy(0, 3, 1, 0, 2), 2);
        due("cell", x.cell(1, 1, 2), 4);
        int[][] beyond = {{-1, 0, 1}, {0, -1, 1}, {0, 0, -1}, {4, 0, 2}, {0, 1, 2}, {6, 0, 0}, {0, 3, 0},
            {1, 1, Integer.MAX_VALUE}, {Integer.MAX_VALUE, 0, 1}};
        for (int[] c : beyond) due("index", x.copy(0, c[0], 1, c[1], c[2]), INDEX);
        due("fault", x.fault(), 3);
        due("none at the ends", x.copy(0, 5, 1, 2, 0), 0);
        due("fault", x.fault(), 0);
        due("index", x.copy(0, 6, 1, 0, 0), INDEX);
        due("sheet", x.copy(4, 0, 0, 0, 0), UNKNOWN);
        due("refused", x.fault(), 0);
        due("sheet", x.copy(0, 0, -1, 0, 0), UNKNOWN);
    }

    private static int traceOf(int before, int... bodies) {
        int trace = before;
        for (int body : bodies) trace = 31 * trace + body;
        return trace;
    }

    private static void promise27() {
        DebtLamps x = townOf("l30,p034,r203,b120");
        due("person", x.tell(0), 7);
        due("trace", x.trace(), traceOf(0, 1));
        due("rich", x.tell(1), 105);
        due("trace", x.trace(), traceOf(0, 1, 2, 1));
        due("bankrupt", x.tell(2), 106);
        due("trace", x.trace(), traceOf(0, 1, 2, 1, 3, 2, 1, 1));
        due("person", x.tell(3), UNKNOWN);
        due("person", x.tell(-1), UNKNOWN);
        due("trace", x.trace(), traceOf(0, 1, 2, 1, 3, 2, 1, 1));
    }

    private static void promise28() {
        DebtLamps x = townOf("l30,p034,r203,b120");
        due("number", x.hail(0), 0);
        due("number", x.hail(1), 1);
        due("trace", x.trace(), traceOf(0, 4, 4));
        due("bankrupt", x.hail(2), 50);
        due("trace", x.trace(), traceOf(0, 4, 4, 5));
        due("person", x.hail(3), UNKNOWN);
        due("trace", x.trace(), traceOf(0, 4, 4, 5));
    }

    private static void promise29() {
        DebtLamps x = townOf("l30,p034,r203,b120");
        for (int p = 0; p < 3; p++) {
            for (int kind = 0; kind < 3; kind++) {
                due("as " + p + kind, x.as(p, kind), kind <= p ? 1 : CAST);
                due("fault", x.fault(), kind <= p ? 0 : 2);
            }
        }
        due("cast", x.as(0, 1), CAST);
        due("unknown ahead of outside", x.as(3, 3), UNKNOWN);
        due("fault", x.fault(), 0);
        due("kind", x.as(0, 3), OUTSIDE);
        due("kind", x.as(0, -1), OUTSIDE);
    }

    private static void promise30() {
        DebtLamps x = townOf("l20,b01,p00");
        int want = 0;
        for (int k = 0; k < 12; k++) {
            due("tell", x.tell(0), 102);
            want = traceOf(want, 3, 2, 1, 1);
            due("trace wraps", x.trace(), want);
        }
        due("a text that is taken", read(x, "l20,p00,p00"), 2);
        due("trace stays", x.trace(), want);
    }

    private static void promise31() {
        DebtLamps x = new DebtLamps();
        due("ahead of any", x.fault(), 0);
        due("nothing", x.put(0, 0, 0), NULL);
        due("many", x.many(9), OUTSIDE);
        due("of the latest that names one", x.fault(), 1);
        due("sheet", x.sheet(0, 0, -1), SIZE);
        due("size", x.fault(), 4);
        due("again", x.fault(), 4);
        due("refused", x.put(4, 0, 0), UNKNOWN);
        due("refused", x.fault(), 0);
        due("size", x.sheet(0, 0, -1), SIZE);
        due("came to none", x.sheet(0, 0, 1), 1);
        due("came to none", x.fault(), 0);
        due("cast", x.cell(0, 0, 1), LOST);
        due("cast", x.fault(), 2);
        due("index", x.copy(0, 2, 0, 0, 0), INDEX);
        due("index", x.fault(), 3);
    }

    private static void promise32() {
        DebtLamps x = townOf("l48,p0100,p0000,p0000,p0020");
        int[] want = {4, 8, 2, 0};
        for (int what = 0; what < 4; what++) due("many " + what, x.many(what), want[what]);
        due("reading", x.reading(0, 0, 0), 0);
        due("readings", x.many(3), 1);
        due("bell", x.bell(1), 8);
        due("bell", x.many(1), 1);
        due("owe", x.owe(0, 1, 0), 1);
        due("lit", x.many(2), 1);
        due("what", x.many(4), OUTSIDE);
        due("what", x.many(-1), OUTSIDE);
    }

    private static void firstHalf() {
        promise = 1; promise1();
        promise = 2; promise2();
        promise = 3; promise3();
        promise = 4; promise4();
        promise = 5; promise5();
        promise = 6; promise6();
        promise = 7; promise7();
        promise = 8; promise8();
        promise = 9; promise9();
        promise = 10; promise10();
        promise = 11; promise11();
        promise = 12; promise12();
        promise = 13; promise13();
        promise = 14; promise14();
        promise = 15; promise15();
        promise = 16; promise16();
    }

    private static void secondHalf() {
        promise = 17; promise17();
        promise = 18; promise18();
        promise = 19; promise19();
        promise = 20; promise20();
        promise = 21; promise21();
        promise = 22; promise22();
        promise = 23; promise23();
        promise = 24; promise24();
        promise = 25; promise25();
        promise = 26; promise26();
        promise = 27; promise27();
        promise = 28; promise28();
        promise = 29; promise29();
        promise = 30; promise30();
        promise = 31; promise31();
        promise = 32; promise32();
    }

    public static void main(String[] args) {
        firstHalf();
        secondHalf();
        System.out.println(wrong == 0 ? "all promises are kept" : wrong + " answers are not as due");
        if (wrong != 0) System.exit(1);
    }
}
