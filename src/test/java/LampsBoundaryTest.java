/** The boundary cases of promises 8 to 15 (lamps, what is to be paid), sentence by sentence. */
public final class LampsBoundaryTest implements Words {
    private static final int[] NO_PERSONS_OF_FIVE = {-1, 5, 6, NONE, LEAST, MOST};
    private static final String DARK = "l20,p00,p00";
    private static final String FIVE = "l53,p02050,r30900,p04071,b01002,p60030";
    private static final String ALL_TO_ONE = "l69,p000000,p900000,p900000,p900000,p900000,p900000";
    private static final String ONE_TO_ALL = "l60,p000000,p000000,p110111,p000000,p000000,p000000";
    // The lamp of each is lit by the next one, that of the last by the one before: 0 to 3 lead to 4 and 5.
    private static final String LONG_WAY = "l60,p000000,p100000,p010000,p001000,p000101,p000010";
    // As lamp 0 is paid off by 1, it falls to 2, who is too late from then on.
    private static final String FALLS_TO_ANOTHER = "l41,p0000,p1000,p1005,p0000";

    // ---- promise 8

    private static void lighterOfNoLamp() {
        Run x = Run.ofTown(FIVE);
        for (int b : NO_PERSONS_OF_FIVE) x.due(UNKNOWN, "lighter", b);
        x.due(3, "lighter", 4);
    }

    private static void ofSeveralTheLeast() {
        Run x = Run.ofTown(ALL_TO_ONE);
        for (int p = 1; p < 6; p++) {
            x.due(p, "lighter", 0);
            x.due(9, "owe", p, 0, 0);
        }
        Run kinds = Run.ofTown("l40,p0000,p2000,r1000,b1000");
        kinds.due(1, "lighter", 0);
        kinds.due(2, "owe", 1, 0, 1);
        kinds.due(2, "lighter", 0);
        kinds.due(1, "owe", 2, 0, 0);
        kinds.due(3, "lighter", 0);
    }

    private static void byTheMostWeight() {
        Run x = Run.ofTown("l40,p0005,r0004,b0002,p0000");
        x.due(0, "lighter", 3);
        x.due(4, "owe", 1, 3, 5);
        x.due(1, "lighter", 3);
        x.due(2, "owe", 2, 3, 3);
        x.due(1, "lighter", 3);
        x.due(3, "owe", 2, 3, 4);
        x.due(2, "lighter", 3);
    }

    private static void darkIfNobodyOwes() {
        Run x = Run.ofTown("l20,p01,p00");
        x.due(NONE, "lighter", 0);
        x.due(0, "lighter", 1);
        x.due(1, "owe", 0, 1, 0);
        x.due(NONE, "lighter", 1);
    }

    // ---- promise 9

    private static void noDusk() {
        Run x = Run.ofTown(FIVE);
        x.due(31, "dusks", 0);
        x.due(9, "owes", 1, 2);
        x.due(6, "owes", 4, 0);
    }

    private static void sixtyDusksAtMost() {
        Run x = Run.ofTown("l20,p01,p00");
        x.due(2, "dusks", 60);
        x.due(0, "bell", 1);
        for (int n : new int[] {-1, 61, LEAST, MOST}) x.due(OUTSIDE, "dusks", n);
        x.due(9, "owes", 0, 1);
        x.due(0, "dusks", 60);
    }

    private static void dusksWithoutTown() {
        Run x = new Run();
        x.due(STATE, "dusks", 0);
        x.due(STATE, "dusks", 60);
        x.due(OUTSIDE, "dusks", 61);
        x.due(OUTSIDE, "dusks", -1);
    }

    private static void asManyDusksAsTold() {
        Run x = Run.ofTown(ALL_TO_ONE);
        x.due(1, "dusks", 44);
        x.due(1, "owes", 5, 0);
        x.due(0, "dusks", 1);
        x.due(0, "owes", 5, 0);
    }

    private static void litThen() {
        Run.ofTown(DARK).due(0, "dusks", 1);
        Run.ofTown("l69,p000002,p200000,p020000,p002000,p000200,p000020").due(63, "dusks", 1);
        Run x = Run.ofTown("l21,p02,p10");
        x.due(2, "dusks", 1);
        x.due(0, "dusks", 1);
    }

    private static void aPennyLess() {
        Run x = Run.ofTown("l21,p09,p00");
        for (int left = 8; left >= 0; left--) {
            x.due(left == 0 ? 0 : 2, "dusks", 1);
            x.due(left, "owes", 0, 1);
        }
        x.due(0, "dusks", 1);
        x.due(0, "owes", 0, 1);
    }

    private static void twiceAsManyNineAtMost() {
        Run x = Run.ofTown("l20,p01,p00");
        for (int then : new int[] {2, 4, 8, 9, 9}) {
            x.due(2, "dusks", 1);
            x.due(then, "owes", 0, 1);
        }
        for (int v = 1; v <= 9; v++) {
            x.ask("owe", 0, 1, v);
            x.due(2, "dusks", 1);
            x.due(v <= 4 ? 2 * v : 9, "owes", 0, 1);
        }
    }

    private static void onlyWhatTheLighterOwesThere() {
        Run x = Run.ofTown("l39,p000,p502,p400");
        x.due(5, "dusks", 1);
        x.due(4, "owes", 1, 0);
        x.due(4, "owes", 2, 0);
        x.due(1, "owes", 1, 2);
        x.due(0, "owes", 1, 1);
        Run late = Run.ofTown("l30,p000,p504,p400");
        late.due(5, "dusks", 1);
        late.due(9, "owes", 1, 0);
        late.due(8, "owes", 1, 2);
        late.due(4, "owes", 2, 0);
    }

    private static void allAtOnce() {
        Run x = Run.ofTown(FALLS_TO_ANOTHER);
        x.due(9, "dusks", 1);
        x.due(0, "owes", 1, 0);
        x.due(1, "owes", 2, 0);
        x.due(4, "owes", 2, 3);
        x.due(9, "dusks", 1);
        x.due(2, "owes", 2, 0);
        x.due(8, "owes", 2, 3);
        Run other = Run.ofTown("l41,p0000,p5001,r0001,p0000");
        other.due(9, "dusks", 1);
        other.due(4, "owes", 1, 0);
        other.due(1, "owes", 1, 3);
        other.due(0, "owes", 2, 3);
    }

    // ---- promise 10

    private static void laterOfNoLamp() {
        Run x = Run.ofTown(FIVE);
        for (int b : NO_PERSONS_OF_FIVE) x.due(UNKNOWN, "later", b, 0);
        x.due(UNKNOWN, "later", 5, 61);
        x.due(UNKNOWN, "later", -1, -1);
    }

    private static void laterSixtyAtMost() {
        Run x = Run.ofTown(FIVE);
        for (int n : new int[] {-1, 61, LEAST, MOST}) x.due(OUTSIDE, "later", 0, n);
        x.due(4, "later", 0, 60);
        for (int b = 0; b < 5; b++) x.due(x.ask("lighter", b), "later", b, 0);
    }

    private static void laterJustThen() {
        Run x = Run.ofTown(ALL_TO_ONE);
        x.due(5, "later", 0, 44);
        x.due(NONE, "later", 0, 45);
        x.due(NONE, "later", 0, 60);
        x.due(2, "later", 0, 1);
        Run first = Run.ofTown("l31,p030,p000,r020");
        int[] lighters = {0, 2, 0, 2, 0, NONE};
        for (int n = 0; n < 6; n++) first.due(lighters[n], "later", 1, n);
    }

    private static void laterChangesNothing() {
        Run x = Run.ofTown(FIVE);
        x.due(4, "later", 0, 60);
        int[][] owed = {{0, 2, 0, 5, 0}, {3, 0, 9, 0, 0}, {0, 4, 0, 7, 1}, {0, 1, 0, 0, 2}, {6, 0, 0, 3, 0}};
        for (int a = 0; a < 5; a++) {
            for (int b = 0; b < 5; b++) x.due(owed[a][b], "owes", a, b);
        }
    }

    // ---- promise 11

    private static void darkWithoutTown() {
        new Run().due(STATE, "dark");
    }

    private static void darkAlready() {
        Run.ofTown(DARK).due(0, "dark");
        Run.ofTown("l21,p01,p00").due(1, "dark");
    }

    /** Who is once too late stays so, and all other debts are paid behind 45 DUSKS: that is the most there is. */
    private static void darkAtTheLatest() {
        Run x = Run.ofTown(ALL_TO_ONE);
        x.due(45, "dark");
        x.due(9, "owes", 1, 0);
        x.due(1, "dusks", 1);
        x.due(44, "dark");
    }

    private static void darkNever() {
        Run.ofTown("l20,p01,p00").due(NONE, "dark");
        Run x = Run.ofTown(FALLS_TO_ANOTHER);
        x.due(NONE, "dark");
        x.due(1, "bell", 4);
        x.due(5, "dark");
        x.due(5, "owes", 2, 3);
    }

    // ---- promise 12

    private static void ringOfNoLamp() {
        Run x = Run.ofTown(FIVE);
        for (int b : NO_PERSONS_OF_FIVE) x.due(UNKNOWN, "ring", b);
    }

    private static void thoseWhoComeAgain() {
        Run x = Run.ofTown(LONG_WAY);
        for (int b = 0; b < 6; b++) x.due(48, "ring", b);
        Run five = Run.ofTown(FIVE);
        for (int b = 0; b < 5; b++) five.due(6, "ring", b);
        Run all = Run.ofTown("l60,p000001,p100000,p010000,p001000,p000100,p000010");
        for (int b = 0; b < 6; b++) all.due(63, "ring", b);
        Run two = Run.ofTown("l20,p01,p10");
        for (int b = 0; b < 2; b++) two.due(3, "ring", b);
    }

    private static void darkOnTheWay() {
        Run x = Run.ofTown(LONG_WAY);
        x.due(1, "owe", 4, 5, 0);
        for (int b = 0; b < 6; b++) x.due(NONE, "ring", b);
        Run first = Run.ofTown(LONG_WAY);
        first.due(1, "owe", 1, 0, 0);
        first.due(NONE, "ring", 0);
        for (int b = 1; b < 6; b++) first.due(48, "ring", b);
        Run.ofTown(DARK).due(NONE, "ring", 0);
    }

    // ---- promise 13

    private static Run withDoors(int... doors) {
        Run x = Run.ofTown(FIVE);
        x.write(1, 2, doors);
        return x;
    }

    private static void walkOfNoPerson() {
        Run x = withDoors(0, 1, 2);
        for (int p : NO_PERSONS_OF_FIVE) x.due(UNKNOWN, "walk", p, 1, 2, 0, 3, 0);
        x.due(0, "fault");
    }

    private static void walkOfNoSheet() {
        Run x = withDoors(0, 1, 2);
        for (int k : new int[] {-1, 4, LEAST, MOST}) x.due(UNKNOWN, "walk", 0, k, 2, 0, 3, 0);
        x.due(0, "fault");
    }

    private static void walkOfNoLane() {
        Run x = withDoors(0, 1, 2);
        for (int lane : new int[] {-1, 3, LEAST, MOST}) x.due(OUTSIDE, "walk", 0, 1, lane, 0, 3, 0);
    }

    private static void walkTwentyDoorsAtMost() {
        Run x = Run.ofTown(ONE_TO_ALL);
        x.due(1, "sheet", 1, 0, 21);
        for (int i = 0; i < 20; i += 2) x.due(1, "put", 1, i, 5);
        for (int n : new int[] {-1, 21, LEAST, MOST}) x.due(OUTSIDE, "walk", 0, 1, 0, 0, n, 0);
        x.due(0, "walk", 0, 1, 0, 0, 0, 0);
        x.due(100, "walk", 0, 1, 0, 0, 20, 0);
        x.due(90, "walk", 0, 1, 0, 1, 20, 0);
    }

    private static void walkWhat() {
        Run x = withDoors(0, 1, 2);
        for (int what : new int[] {-1, 3, LEAST, MOST}) x.due(OUTSIDE, "walk", 0, 1, 2, 0, 3, what);
    }

    private static void walkInTheOrderTold() {
        Run x = withDoors(0, 9);
        x.due(UNKNOWN, "walk", 5, 1, 3, -1, 21, 3);
        x.due(UNKNOWN, "walk", 0, 4, 3, -1, 21, 3);
        x.due(OUTSIDE, "walk", 0, 1, 1, -1, 21, 0);
        x.due(OUTSIDE, "walk", 0, 1, 1, -1, 2, 3);
        x.due(OUTSIDE, "walk", 0, 2, 3, -1, 2, 0);
        x.due(0, "fault");
        x.dueFault(CAST, "walk", 0, 1, 1, -1, 2, 0);
        x.dueFault(NULL, "walk", 0, 2, 1, -1, 2, 0);
        x.dueFault(INDEX, "walk", 0, 1, 2, 0, 3, 0);
        x.due(UNKNOWN, "walk", 0, 1, 2, 0, 2, 0);
        x.due(0, "fault");
    }

    private static void walkCast() {
        for (int lane = 0; lane < 3; lane++) {
            Run x = Run.ofTown(FIVE);
            x.write(1, lane, 4);
            for (int other = 0; other < 3; other++) {
                if (other == lane) x.due(4, "walk", 0, 1, other, 0, 1, 0);
                else x.dueFault(CAST, "walk", 0, 1, other, 0, 1, 0);
            }
        }
    }

    private static void walkOfNothing() {
        Run x = withDoors(0);
        x.due(1, "lose", 1);
        for (int lane = 0; lane < 3; lane++) {
            x.dueFault(NULL, "walk", 0, 1, lane, 0, 0, 0);
            x.dueFault(NULL, "walk", 0, 2, lane, 0, 0, 0);
        }
    }

    private static void walkIndex() {
        Run x = withDoors(4, 4, 4);
        int[][] beyond = {{-1, 1}, {-1, 3}, {0, 4}, {1, 3}, {3, 1}, {4, 1}, {LEAST, 1}, {MOST, 1}, {MOST, 20}};
        for (int[] at : beyond) x.dueFault(INDEX, "walk", 0, 1, 2, at[0], at[1], 0);
        x.due(4, "walk", 0, 1, 2, 0, 3, 0);
        x.due(4, "walk", 0, 1, 2, 2, 1, 0);
    }

    private static void walkIndexOfNone() {
        Run x = withDoors(4, 4, 4);
        for (int i : new int[] {-1, 4, LEAST, MOST}) x.dueFault(INDEX, "walk", 0, 1, 2, i, 0, 0);
        for (int i = 0; i <= 3; i++) x.due(0, "walk", 0, 1, 2, i, 0, 0);
        x.due(0, "fault");
    }

    private static void walkToNoPerson() {
        for (int door : new int[] {-1, 5, 6, NONE, 256, 65536, LEAST, MOST}) {
            for (int place = 0; place < 3; place++) {
                Run x = withDoors(1, 1, 1);
                x.dueFault(NULL, "put", 2, 0, 0);
                x.due(1, "put", 1, place, door);
                for (int what = 0; what < 3; what++) x.due(UNKNOWN, "walk", 0, 1, 2, 0, 3, what);
                x.due(0, "fault");
            }
        }
    }

    private static void walkLooksAtItsOwnCellsOnly() {
        Run x = withDoors(-1, 3, 1, 5);
        x.due(5, "walk", 0, 1, 2, 1, 2, 0);
        x.due(UNKNOWN, "walk", 0, 1, 2, 0, 2, 0);
        x.due(UNKNOWN, "walk", 0, 1, 2, 2, 2, 0);
    }

    private static void walkSteps() {
        Run x = withDoors(2, 2, 0, 4, 4, 3);
        x.due(0, "walk", 2, 1, 2, 0, 2, 0);
        x.due(7, "walk", 2, 1, 2, 0, 6, 0);
        x.due(9, "walk", 0, 1, 2, 0, 6, 0);
        x.due(9, "walk", 4, 1, 2, 0, 6, 0);
    }

    private static void walkLampsLeft() {
        Run x = withDoors(0, 4, 3, 1);
        x.due(10, "ofPerson", 2, 2);
        x.due(10, "walk", 2, 1, 2, 0, 0, 1);
        x.due(10, "walk", 2, 1, 2, 0, 2, 1);
        x.due(2, "walk", 2, 1, 2, 0, 3, 1);
        x.due(0, "walk", 2, 1, 2, 0, 4, 1);
        x.due(8, "walk", 2, 1, 2, 3, 1, 1);
        x.due(0, "walk", 0, 1, 2, 0, 0, 1);
    }

    private static void walkNeedsNone() {
        Run x = withDoors(1, 2, 3, 4);
        x.due(0, "ofPerson", 0, 2);
        for (int n = 0; n <= 4; n++) x.due(0, "walk", 0, 1, 2, 0, n, 2);
    }

    private static void walkDidNotComeToAll() {
        Run x = withDoors(0, 4, 3, 2, 1);
        for (int n = 0; n <= 4; n++) x.due(NONE, "walk", 2, 1, 2, 0, n, 2);
        x.due(5, "walk", 2, 1, 2, 0, 5, 2);
    }

    private static void walkBehindHowManyDoors() {
        Run x = withDoors(0, 0, 1, 2, 0);
        x.due(1, "walk", 4, 1, 2, 0, 5, 2);
        x.due(3, "walk", 4, 1, 2, 2, 3, 2);
        Run all = Run.ofTown(ONE_TO_ALL);
        all.due(1, "sheet", 1, 0, 20);
        for (int k = 0; k < 5; k++) all.due(1, "put", 1, 15 + k, new int[] {1, 3, 4, 5, 0}[k]);
        all.due(19, "walk", 2, 1, 0, 0, 20, 2);
        all.due(1, "put", 1, 18, 0);
        all.due(1, "put", 1, 19, 5);
        all.due(20, "walk", 2, 1, 0, 0, 20, 2);
        all.due(NONE, "walk", 2, 1, 0, 0, 19, 2);
    }

    // ---- promise 14

    private static void freeOfNoPerson() {
        Run x = Run.ofTown(FIVE);
        for (int p : NO_PERSONS_OF_FIVE) x.due(UNKNOWN, "free", p);
    }

    private static void dueFree(int want, int p, String text) {
        Run.ofTown(text).due(want, "free", p);
    }

    private static void lighterOfNoneAlready() {
        dueFree(0, 0, DARK);
        dueFree(0, 0, FIVE);
        dueFree(0, 2, "l30,p000,p900,p900");
    }

    private static void allThatIsOwed() {
        dueFree(1, 0, "l20,p01,p00");
        dueFree(9, 0, "l20,r09,p00");
        dueFree(45, 2, "l60,p000000,p000000,b990999,p000000,p000000,p000000");
    }

    private static void asManyIsEnoughForAGreaterNumber() {
        dueFree(1, 1, "l30,p004,p005,p000");
        dueFree(2, 1, "l30,p003,r004,p000");
        dueFree(1, 1, "l30,p004,b003,p000");
    }

    private static void oneBelowForALesserNumber() {
        dueFree(1, 1, "l30,p000,p400,p400");
        dueFree(2, 1, "l30,p000,p500,p400");
        dueFree(2, 1, "l30,p000,r300,p300");
        dueFree(2, 1, "l30,p000,b500,p700");
        dueFree(2, 1, "l30,p000,b500,p800");
    }

    private static void aRichOneThatOwesNothing() {
        dueFree(1, 1, "l30,p000,r100,p100");
        dueFree(2, 1, "l30,p001,r002,p000");
        dueFree(1, 1, "l30,p002,r002,p000");
    }

    private static void onlyWhereItIsTheLighter() {
        // Lighter at 0 (5 against 3) and at 3 (8 alone), not at 2 (3 against 9).
        dueFree(3 + 8, 1, "l40,p0000,p5038,p3000,p0090");
    }

    private static void freeChangesNothing() {
        Run x = Run.ofTown(FIVE);
        x.due(9, "free", 1);
        x.due(9, "owes", 1, 2);
        x.due(1, "lighter", 2);
        x.due(9, "free", 1);
    }

    // ---- promise 15

    private static void hasteWithoutTown() {
        new Run().due(STATE, "haste");
    }

    private static void hasteLeastAndMost() {
        Run.ofTown("l29,p00,p00").due(0, "haste");
        Run.ofTown("l29,p01,p00").due(1, "haste");
        Run x = Run.ofTown(ONE_TO_ALL);
        x.due(7, "haste");
        x.due(0, "many", 1);
        x.due(0, "bell", 9);
        x.due(7, "haste");
    }

    private static void hasteByAll() {
        Run x = Run.ofTown("l60,p000010,p001000,p000000,p000001,p000000,p000000");
        x.due(4, "haste");
        x.due(0, "bell", 4);
        for (int p = 0; p < 6; p++) x.due(1, "ofPerson", p, 4);
        x.due(4, "bell", 3);
        x.due(0, "ofPerson", 0, 4);
    }

    private static void lighters() {
        Check.that("promise 8", "UNKNOWN", LampsBoundaryTest::lighterOfNoLamp);
        Check.that("terms 2", "of several the least", LampsBoundaryTest::ofSeveralTheLeast);
        Check.that("terms 2", "by the most WEIGHT", LampsBoundaryTest::byTheMostWeight);
        Check.that("promise 8", "NONE: dark", LampsBoundaryTest::darkIfNobodyOwes);
    }

    private static void dusks() {
        Check.that("promise 9", "n DUSKS (0 ..)", LampsBoundaryTest::noDusk);
        Check.that("promise 9", "n DUSKS (.. 60); OUTSIDE", LampsBoundaryTest::sixtyDusksAtMost);
        Check.that("promise 9", "OUTSIDE; STATE: there is no TOWN", LampsBoundaryTest::dusksWithoutTown);
        Check.that("promise 9", "n DUSKS go by", LampsBoundaryTest::asManyDusksAsTold);
        Check.that("promise 9", "LAMPS that are lit then, as a set", LampsBoundaryTest::litThen);
        Check.that("terms 2", "it OWES there 1 PENNY less", LampsBoundaryTest::aPennyLess);
        Check.that("terms 2", "twice as many PENCE, 9 at most", LampsBoundaryTest::twiceAsManyNineAtMost);
        Check.that("terms 2", "that one OWES there", LampsBoundaryTest::onlyWhatTheLighterOwesThere);
        Check.that("terms 2", "all at once, by what is as it begins", LampsBoundaryTest::allAtOnce);
        Check.that("promise 10", "UNKNOWN, ahead of OUTSIDE", LampsBoundaryTest::laterOfNoLamp);
        Check.that("promise 10", "n DUSKS (0 .. 60); OUTSIDE", LampsBoundaryTest::laterSixtyAtMost);
        Check.that("promise 10", "LIGHTER behind n DUSKS; NONE", LampsBoundaryTest::laterJustThen);
        Check.that("promise 10", "nothing is changed", LampsBoundaryTest::laterChangesNothing);
        Check.that("promise 11", "STATE: there is no TOWN", LampsBoundaryTest::darkWithoutTown);
        Check.that("terms 2", "the fewest DUSKS (0 ..)", LampsBoundaryTest::darkAlready);
        Check.that("terms 2", "behind which all LAMPS are dark", LampsBoundaryTest::darkAtTheLatest);
        Check.that("terms 2", "NONE: they are not by then", LampsBoundaryTest::darkNever);
        Check.that("promise 12", "UNKNOWN", LampsBoundaryTest::ringOfNoLamp);
        Check.that("terms 2", "those who come again and again", LampsBoundaryTest::thoseWhoComeAgain);
        Check.that("terms 2", "NONE: a LAMP is dark on the way", LampsBoundaryTest::darkOnTheWay);
    }

    private static void walks() {
        Check.that("promise 13", "UNKNOWN: PERSON", LampsBoundaryTest::walkOfNoPerson);
        Check.that("promise 13", "UNKNOWN: SHEET", LampsBoundaryTest::walkOfNoSheet);
        Check.that("promise 13", "OUTSIDE: lane", LampsBoundaryTest::walkOfNoLane);
        Check.that("promise 13", "OUTSIDE: n (0 .. 20)", LampsBoundaryTest::walkTwentyDoorsAtMost);
        Check.that("promise 13", "OUTSIDE: what", LampsBoundaryTest::walkWhat);
        Check.that("promise 13", "refusals and FAULTS in the order told", LampsBoundaryTest::walkInTheOrderTold);
        Check.that("promise 13", "CAST", LampsBoundaryTest::walkCast);
        Check.that("promise 13", "NULL", LampsBoundaryTest::walkOfNothing);
        Check.that("promise 13", "INDEX", LampsBoundaryTest::walkIndex);
        Check.that("terms", "INDEX, if none of the cells is taken, too", LampsBoundaryTest::walkIndexOfNone);
        Check.that("promise 13", "UNKNOWN: a cell is no PERSON", LampsBoundaryTest::walkToNoPerson);
        Check.that("promise 13", "n doors, cells from i on", LampsBoundaryTest::walkLooksAtItsOwnCellsOnly);
        Check.that("promise 13", "STEPS (what 0)", LampsBoundaryTest::walkSteps);
        Check.that("promise 13", "LAMPS to which it did not come (1)", LampsBoundaryTest::walkLampsLeft);
        Check.that("promise 13", "0: it needs none", LampsBoundaryTest::walkNeedsNone);
        Check.that("promise 13", "NONE: it did not come to all", LampsBoundaryTest::walkDidNotComeToAll);
        Check.that("promise 13", "behind how many doors (2)", LampsBoundaryTest::walkBehindHowManyDoors);
    }

    private static void payments() {
        Check.that("promise 14", "UNKNOWN", LampsBoundaryTest::freeOfNoPerson);
        Check.that("terms 3", "LIGHTER of none already: 0", LampsBoundaryTest::lighterOfNoneAlready);
        Check.that("terms 3", "any PENCE of them: all", LampsBoundaryTest::allThatIsOwed);
        Check.that("terms 3", "the least: as many as a lesser number", LampsBoundaryTest::asManyIsEnoughForAGreaterNumber);
        Check.that("terms 3", "the least: below a greater number", LampsBoundaryTest::oneBelowForALesserNumber);
        Check.that("terms 3", "the least: a RICH one to the last PENNY", LampsBoundaryTest::aRichOneThatOwesNothing);
        Check.that("terms 3", "LIGHTER of none: lamp by lamp", LampsBoundaryTest::onlyWhereItIsTheLighter);
        Check.that("promise 14", "nothing is changed", LampsBoundaryTest::freeChangesNothing);
        Check.that("promise 15", "STATE: there is no TOWN", LampsBoundaryTest::hasteWithoutTown);
        Check.that("terms 3", "the least BELL (0 to 9)", LampsBoundaryTest::hasteLeastAndMost);
        Check.that("terms 3", "all who have a ROUND are IN TIME", LampsBoundaryTest::hasteByAll);
    }

    public static void main(String[] args) {
        lighters();
        dusks();
        walks();
        payments();
        Check.end();
    }
}
