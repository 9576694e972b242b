/** The boundary cases of promises 22 to 32 (sheets, parts), sentence by sentence. */
public final class SheetsBoundaryTest implements Words {
    private static final int[] NO_SHEETS = {-1, 4, LEAST, MOST};
    private static final int[] NO_LANES = {-1, 3, LEAST, MOST};
    private static final int[] NO_PERSONS_OF_THREE = {-1, 3, 6, NONE, LEAST, MOST};
    // One of each kind, who owe 7, 5 and 3 in all.
    private static final String THREE = "l30,p034,r203,b120";

    // ---- promise 22

    private static void sheetUnknown() {
        Run x = new Run();
        for (int k : NO_SHEETS) x.due(UNKNOWN, "sheet", k, 0, 1);
        for (int k = 0; k < 4; k++) x.due(1, "sheet", k, 0, 1);
    }

    private static void sheetLane() {
        Run x = new Run();
        for (int lane : NO_LANES) x.due(OUTSIDE, "sheet", 0, lane, 1);
        x.due(0, "lose", 0);
        for (int lane = 0; lane < 3; lane++) x.due(1, "sheet", 0, lane, 1);
    }

    private static void sheetSixtyAtMost() {
        for (int lane = 0; lane < 3; lane++) {
            Run x = new Run();
            x.due(OUTSIDE, "sheet", 0, lane, 61);
            x.due(OUTSIDE, "sheet", 0, lane, MOST);
            x.due(0, "fault");
            x.due(0, "lose", 0);
            x.due(1, "sheet", 0, lane, 60);
            x.due(1, "put", 0, 59, 7);
            x.dueFault(INDEX, "put", 0, 60, 7);
        }
    }

    private static void sheetSize() {
        Run x = new Run();
        x.dueFault(SIZE, "sheet", 0, 0, -1);
        x.dueFault(SIZE, "sheet", 0, 2, LEAST);
        x.due(0, "lose", 0);
        x.write(1, 1, 5);
        x.dueFault(SIZE, "sheet", 1, 0, -1);
        x.due(5, "cell", 1, 0, 1);
    }

    private static void sheetInTheOrderTold() {
        Run x = new Run();
        x.due(UNKNOWN, "sheet", 4, 3, 61);
        x.due(UNKNOWN, "sheet", 4, 3, -1);
        x.due(OUTSIDE, "sheet", 0, 3, -1);
        x.due(0, "fault");
    }

    private static void sheetOfNoCells() {
        Run x = new Run();
        for (int lane = 0; lane < 3; lane++) {
            x.due(1, "sheet", 0, lane, 0);
            x.dueFault(INDEX, "put", 0, 0, 1);
            x.due(LOST, "cell", 0, 0, lane);
            x.due(3, "fault");
        }
        x.due(1, "lose", 0);
    }

    private static void noughtAtFirst() {
        for (int lane = 0; lane < 3; lane++) {
            Run x = new Run();
            x.due(1, "sheet", 2, lane, 60);
            for (int i = 0; i < 60; i++) x.due(0, "cell", 2, i, lane);
            for (int i = 0; i < 60; i++) x.due(1, "put", 2, i, -1);
            x.due(1, "sheet", 2, lane, 60);
            for (int i = 0; i < 60; i++) x.due(0, "cell", 2, i, lane);
        }
    }

    private static void noughtBehindAShorterRow() {
        Run x = new Run();
        x.write(0, 2, 1, 2, 3, 4);
        x.due(1, "sheet", 0, 2, 2);
        x.due(1, "sheet", 0, 2, 4);
        x.dueCells(0, 2, 0, 0, 0, 0);
        x.due(1, "put", 0, 3, 9);
        x.due(1, "lose", 0);
        x.due(1, "sheet", 0, 2, 4);
        x.dueCells(0, 2, 0, 0, 0, 0);
    }

    // ---- promise 23

    private static void loseUnknown() {
        Run x = new Run();
        for (int k : NO_SHEETS) x.due(UNKNOWN, "lose", k);
    }

    private static void loseOnce() {
        Run x = new Run();
        for (int k = 0; k < 4; k++) {
            x.due(0, "lose", k);
            x.due(1, "sheet", k, k % 3, 0);
            x.due(1, "lose", k);
            x.due(0, "lose", k);
            x.dueFault(NULL, "put", k, 0, 0);
        }
    }

    // ---- promise 24

    private static void putUnknown() {
        Run x = new Run();
        for (int k = 0; k < 4; k++) x.due(1, "sheet", k, 0, 1);
        for (int k : NO_SHEETS) x.due(UNKNOWN, "put", k, 0, 1);
        x.due(UNKNOWN, "put", 4, -1, 1);
        x.due(0, "fault");
    }

    private static void putNull() {
        Run x = new Run();
        for (int i : new int[] {0, -1, 60, LEAST, MOST}) x.dueFault(NULL, "put", 0, i, 1);
    }

    private static void putIndex() {
        Run x = new Run();
        for (int lane = 0; lane < 3; lane++) {
            x.write(0, lane, 1, 2, 3);
            for (int i : new int[] {-1, 3, 59, LEAST, MOST}) x.dueFault(INDEX, "put", 0, i, 9);
            x.dueCells(0, lane, 1, 2, 3);
            x.due(1, "put", 0, 0, 9);
            x.due(1, "put", 0, 2, 8);
            x.due(0, "fault");
            x.dueCells(0, lane, 9, 2, 8);
        }
    }

    private static void cutToItsLane() {
        int[] given = {127, 128, 255, 256, -128, -129, 32767, 32768, 65535, 65536, -32768, -32769, LEAST, MOST};
        for (int lane = 0; lane < 3; lane++) {
            Run x = new Run();
            x.write(0, lane, given);
            for (int i = 0; i < given.length; i++) {
                int bits = lane == 0 ? 8 : lane == 1 ? 16 : 32;
                x.due(given[i] << 32 - bits >> 32 - bits, "cell", 0, i, lane);
            }
        }
        Run byHand = new Run();
        byHand.write(0, 0, given);
        byHand.dueCells(0, 0, 127, -128, -1, 0, -128, 127, -1, 0, -1, 0, 0, -1, 0, -1);
        byHand.write(1, 1, given);
        byHand.dueCells(1, 1, 127, 128, 255, 256, -128, -129, 32767, -32768, -1, 0, -32768, 32767, 0, -1);
    }

    // ---- promise 25

    private static void dueLost(Run x, int fault, int k, int i, int lane) {
        x.due(LOST, "cell", k, i, lane);
        x.due(fault, "fault");
    }

    private static void cellUnknown() {
        Run x = new Run();
        x.write(0, 0, 5);
        for (int k : NO_SHEETS) {
            dueLost(x, 3, 0, 1, 0);
            dueLost(x, 0, k, 0, 0);
        }
        dueLost(x, 0, 4, 1, 3);
    }

    private static void cellLane() {
        Run x = new Run();
        x.write(0, 0, 5);
        for (int lane : NO_LANES) {
            dueLost(x, 3, 0, 1, 0);
            dueLost(x, 0, 0, 0, lane);
        }
        dueLost(x, 1, 1, 0, 0);
        dueLost(x, 0, 1, 0, 3);
    }

    private static void cellCast() {
        for (int lane = 0; lane < 3; lane++) {
            Run x = new Run();
            x.write(0, lane, 5);
            for (int other = 0; other < 3; other++) {
                if (other == lane) continue;
                dueLost(x, 2, 0, 0, other);
                dueLost(x, 2, 0, 1, other);
                dueLost(x, 2, 0, -1, other);
            }
            x.due(5, "cell", 0, 0, lane);
            x.due(0, "fault");
        }
    }

    private static void cellOfNothingIsNoCast() {
        Run x = new Run();
        for (int lane = 0; lane < 3; lane++) dueLost(x, 1, 0, 0, lane);
        x.write(0, 2, 5);
        x.due(1, "lose", 0);
        for (int lane = 0; lane < 3; lane++) {
            dueLost(x, 1, 0, 0, lane);
            dueLost(x, 1, 0, -1, lane);
        }
    }

    private static void cellIndex() {
        Run x = new Run();
        for (int lane = 0; lane < 3; lane++) {
            x.write(0, lane, 5, 6);
            for (int i : new int[] {-1, 2, 60, LEAST, MOST}) dueLost(x, 3, 0, i, lane);
            x.due(6, "cell", 0, 1, lane);
            x.due(0, "fault");
        }
    }

    // ---- promise 26

    private static void copyUnknown() {
        Run x = new Run();
        x.write(0, 0, 5, 6);
        for (int k : NO_SHEETS) {
            x.due(UNKNOWN, "copy", k, 0, 0, 0, 1);
            x.due(UNKNOWN, "copy", 0, 0, k, 0, 1);
            x.due(UNKNOWN, "copy", k, -1, k, -1, -1);
            x.due(UNKNOWN, "copy", 1, 0, k, 0, 0);
            x.due(0, "fault");
        }
    }

    private static void copyNull() {
        Run x = new Run();
        x.write(0, 0, 5, 6);
        x.dueFault(NULL, "copy", 1, 0, 0, 0, 1);
        x.dueFault(NULL, "copy", 0, 0, 1, 0, 1);
        x.dueFault(NULL, "copy", 1, 0, 1, 0, 0);
        x.dueFault(NULL, "copy", 1, -1, 2, 9, -1);
        x.dueFault(NULL, "copy", 0, -1, 1, 0, -1);
        x.dueFault(NULL, "copy", 1, 0, 0, -1, 3);
        x.dueCells(0, 0, 5, 6);
    }

    private static void copyNullBeforeCast() {
        Run x = new Run();
        x.write(0, 2, 5, 6);
        x.dueFault(NULL, "copy", 0, 0, 1, 0, 1);
        x.dueFault(NULL, "copy", 1, 0, 0, 0, 1);
        x.write(1, 2, 5, 6);
        x.due(1, "lose", 1);
        x.write(0, 1, 5, 6);
        x.dueFault(NULL, "copy", 0, 0, 1, 0, 1);
        x.dueFault(NULL, "copy", 1, 0, 0, 0, 1);
    }

    private static void copyCast() {
        for (int from = 0; from < 3; from++) {
            for (int to = 0; to < 3; to++) {
                Run x = new Run();
                x.write(0, from, 5, 6);
                x.write(1, to, 7, 8);
                if (from == to) {
                    x.due(2, "copy", 0, 0, 1, 0, 2);
                    x.due(0, "fault");
                    x.dueCells(1, to, 5, 6);
                    continue;
                }
                x.dueFault(CAST, "copy", 0, 0, 1, 0, 2);
                x.dueFault(CAST, "copy", 0, 0, 1, 0, 0);
                x.dueFault(CAST, "copy", 0, -1, 1, 3, -1);
                x.dueCells(1, to, 7, 8);
            }
        }
    }

    private static void copyIndex() {
        Run x = new Run();
        x.write(0, 2, 1, 2, 3);
        x.write(1, 2, 4, 5);
        int[][] beyond = {{-1, 0, 1}, {0, -1, 1}, {0, 0, -1}, {LEAST, 0, 1}, {0, LEAST, 1}, {0, 0, LEAST},
            {3, 0, 1}, {2, 0, 2}, {0, 0, 3}, {0, 1, 2}, {0, 2, 1}, {0, 0, 4}, {MOST, 0, 1}, {0, MOST, 1}, {0, 0, MOST},
            {1, 1, MOST}, {MOST, MOST, MOST}, {3, 2, -1}, {3, 2, LEAST}};
        for (int[] at : beyond) x.dueFault(INDEX, "copy", 0, at[0], 1, at[1], at[2]);
        x.dueCells(0, 2, 1, 2, 3);
        x.dueCells(1, 2, 4, 5);
        x.due(2, "copy", 0, 1, 1, 0, 2);
        x.due(0, "fault");
        x.dueCells(1, 2, 2, 3);
        x.dueFault(INDEX, "copy", 1, 0, 0, 0, 3);
        x.dueFault(INDEX, "copy", 0, 0, 0, 1, 3);
    }

    private static void copyIndexOfNone() {
        Run x = new Run();
        x.write(0, 2, 1, 2, 3);
        x.write(1, 2, 4, 5);
        int[][] beyond = {{-1, 0}, {4, 0}, {LEAST, 0}, {MOST, 0}, {0, -1}, {0, 3}, {0, LEAST}, {0, MOST}};
        for (int[] at : beyond) x.dueFault(INDEX, "copy", 0, at[0], 1, at[1], 0);
        int[][] within = {{0, 0}, {3, 0}, {0, 2}, {3, 2}};
        for (int[] at : within) x.due(0, "copy", 0, at[0], 1, at[1], 0);
        x.due(0, "fault");
        x.dueCells(1, 2, 4, 5);
    }

    private static void copyToTheSame() {
        Run x = new Run();
        x.write(0, 2, 1, 2, 3, 4, 5);
        x.due(4, "copy", 0, 0, 0, 1, 4);
        x.dueCells(0, 2, 1, 1, 2, 3, 4);
        x.due(3, "copy", 0, 2, 0, 0, 3);
        x.dueCells(0, 2, 2, 3, 4, 3, 4);
        x.due(5, "copy", 0, 0, 0, 0, 5);
        x.dueCells(0, 2, 2, 3, 4, 3, 4);
    }

    private static void copyOfTheLongest() {
        Run x = new Run();
        x.due(1, "sheet", 0, 1, 60);
        x.due(1, "sheet", 1, 1, 60);
        for (int i = 0; i < 60; i++) x.due(1, "put", 0, i, -i);
        x.due(60, "copy", 0, 0, 1, 0, 60);
        for (int i = 0; i < 60; i++) x.due(-i, "cell", 1, i, 1);
        x.dueFault(INDEX, "copy", 0, 0, 1, 0, 61);
        x.due(1, "copy", 0, 59, 1, 0, 1);
        x.due(-59, "cell", 1, 0, 1);
        x.due(1, "put", 0, 0, 7);
        x.due(-59, "cell", 1, 0, 1);
    }

    // ---- promises 27, 28, 30

    private static void tellUnknown() {
        Run x = Run.ofTown(THREE);
        for (int p : NO_PERSONS_OF_THREE) x.due(UNKNOWN, "tell", p);
        x.due(0, "trace");
    }

    private static void tellOfKinds() {
        Run x = Run.ofTown(THREE);
        x.due(7, "tell", 0);
        x.due(105, "tell", 1);
        x.due(106, "tell", 2);
        Run none = Run.ofTown("l30,p000,r000,b000");
        none.due(0, "tell", 0);
        none.due(100, "tell", 1);
        none.due(100, "tell", 2);
        Run most = Run.ofTown("l60,p099999,r909999,b990999,p000000,p000000,p000000");
        most.due(45, "tell", 0);
        most.due(145, "tell", 1);
        most.due(190, "tell", 2);
    }

    private static void bodiesAsTheyBegin() {
        int[] want = {1, 2 * 31 + 1, ((3 * 31 + 2) * 31 + 1) * 31 + 1};
        for (int p = 0; p < 3; p++) {
            Run x = Run.ofTown(THREE);
            x.ask("tell", p);
            x.due(want[p], "trace");
        }
    }

    private static void hailUnknown() {
        Run x = Run.ofTown(THREE);
        for (int p : NO_PERSONS_OF_THREE) x.due(UNKNOWN, "hail", p);
        x.due(0, "trace");
    }

    private static void hailOfKinds() {
        Run x = Run.ofTown("l60,p000000,r000000,b000000,p000000,r000000,b000000");
        int[] want = {0, 1, 50, 3, 4, 50};
        int trace = 0;
        for (int p = 0; p < 6; p++) {
            x.due(want[p], "hail", p);
            trace = 31 * trace + (want[p] == 50 ? 5 : 4);
            x.due(trace, "trace");
        }
    }

    private static void traceWraps() {
        Run x = Run.ofTown(THREE);
        int trace = 0;
        boolean below = false;
        for (int k = 0; k < 40; k++) {
            x.due(50, "hail", 2);
            trace = 31 * trace + 5;
            below |= trace < 0;
            x.due(trace, "trace");
        }
        if (!below) Check.wrong("it never wrapped");
    }

    private static void traceNoughtAtFirst() {
        Run x = new Run();
        x.due(0, "trace");
        x.readText(THREE);
        x.due(0, "trace");
        x.due(UNKNOWN, "tell", 3);
        x.due(0, "trace");
    }

    // ---- promise 29

    private static void asUnknown() {
        Run x = Run.ofTown(THREE);
        for (int p : NO_PERSONS_OF_THREE) x.due(UNKNOWN, "as", p, 0);
        x.due(UNKNOWN, "as", 3, 3);
    }

    private static void asOutside() {
        Run x = Run.ofTown(THREE);
        for (int kind : new int[] {-1, 3, LEAST, MOST}) {
            for (int p = 0; p < 3; p++) {
                x.dueFault(CAST, "as", 0, 1);
                x.due(OUTSIDE, "as", p, kind);
                x.due(0, "fault");
            }
        }
    }

    private static void asCast() {
        Run x = Run.ofTown(THREE);
        x.dueFault(CAST, "as", 0, 1);
        x.dueFault(CAST, "as", 0, 2);
        x.dueFault(CAST, "as", 1, 2);
    }

    private static void eachIsAPersonToo() {
        Run x = Run.ofTown(THREE);
        for (int p = 0; p < 3; p++) {
            for (int kind = 0; kind <= p; kind++) {
                x.dueFault(CAST, "as", 0, 1);
                x.due(1, "as", p, kind);
                x.due(0, "fault");
            }
        }
    }

    // ---- promise 32

    private static void manyOutside() {
        for (Run x : new Run[] {new Run(), Run.ofTown(THREE)}) {
            for (int what : new int[] {-1, 4, LEAST, MOST}) x.due(OUTSIDE, "many", what);
        }
    }

    private static void manyWithoutTown() {
        Run x = new Run();
        for (int what = 0; what < 4; what++) x.due(0, "many", what);
        x.dueOfText(-110, "l29,p09,p9");
        for (int what = 0; what < 4; what++) x.due(0, "many", what);
    }

    private static void manyLeastAndMost() {
        Run x = Run.ofTown("l69,p099999,r909999,b990999,p999099,r999909,b999990");
        for (int k = 0; k < 8; k++) x.due(k, "reading", 10, 0, 5);
        int[] most = {6, 9, 6, 8};
        for (int what = 0; what < 4; what++) x.due(most[what], "many", what);
        Run least = Run.ofTown("l20,p00,p00");
        int[] want = {2, 0, 0, 0};
        for (int what = 0; what < 4; what++) least.due(want[what], "many", what);
        least.due(0, "owe", 0, 1, 1);
        least.due(1, "many", 2);
    }

    private static void rows() {
        Check.that("promise 22", "UNKNOWN; SHEETS 0 .. 3", SheetsBoundaryTest::sheetUnknown);
        Check.that("promise 22", "OUTSIDE: lane", SheetsBoundaryTest::sheetLane);
        Check.that("promise 22", "OUTSIDE: n above 60", SheetsBoundaryTest::sheetSixtyAtMost);
        Check.that("promise 22", "SIZE", SheetsBoundaryTest::sheetSize);
        Check.that("promise 22", "UNKNOWN; OUTSIDE; SIZE in this order", SheetsBoundaryTest::sheetInTheOrderTold);
        Check.that("terms 5", "a row of 0 numbers", SheetsBoundaryTest::sheetOfNoCells);
        Check.that("terms 5", "0 at first", SheetsBoundaryTest::noughtAtFirst);
        Check.that("promise 22", "a new row", SheetsBoundaryTest::noughtBehindAShorterRow);
        Check.that("promise 23", "UNKNOWN", SheetsBoundaryTest::loseUnknown);
        Check.that("promise 23", "1; 0: it had nothing", SheetsBoundaryTest::loseOnce);
        Check.that("promise 24", "UNKNOWN", SheetsBoundaryTest::putUnknown);
        Check.that("promise 24", "NULL, ahead of INDEX", SheetsBoundaryTest::putNull);
        Check.that("promise 24", "INDEX", SheetsBoundaryTest::putIndex);
        Check.that("terms 5", "what comes to a cell is cut to its LANE", SheetsBoundaryTest::cutToItsLane);
        Check.that("promise 25", "LOST: UNKNOWN", SheetsBoundaryTest::cellUnknown);
        Check.that("promise 25", "LOST: OUTSIDE: lane", SheetsBoundaryTest::cellLane);
        Check.that("promise 25", "CAST, ahead of INDEX", SheetsBoundaryTest::cellCast);
        Check.that("promise 25", "nothing is no CAST; NULL", SheetsBoundaryTest::cellOfNothingIsNoCast);
        Check.that("promise 25", "INDEX", SheetsBoundaryTest::cellIndex);
    }

    private static void copies() {
        Check.that("promise 26", "UNKNOWN", SheetsBoundaryTest::copyUnknown);
        Check.that("promise 26", "NULL (the first, the other)", SheetsBoundaryTest::copyNull);
        Check.that("promise 26", "NULL ahead of CAST", SheetsBoundaryTest::copyNullBeforeCast);
        Check.that("promise 26", "CAST (unlike LANES), ahead of INDEX", SheetsBoundaryTest::copyCast);
        Check.that("promise 26", "INDEX: i, j, n below 0 or beyond", SheetsBoundaryTest::copyIndex);
        Check.that("terms", "INDEX, if none of the cells is taken, too", SheetsBoundaryTest::copyIndexOfNone);
        Check.that("promise 26", "perhaps the same, as they were", SheetsBoundaryTest::copyToTheSame);
        Check.that("promise 26", "n cells: all sixty, the last one", SheetsBoundaryTest::copyOfTheLongest);
    }

    private static void bodies() {
        Check.that("promise 27", "UNKNOWN", SheetsBoundaryTest::tellUnknown);
        Check.that("terms 5", "PENCE in all; and 100; both", SheetsBoundaryTest::tellOfKinds);
        Check.that("terms 5", "31 times it and the number, as they begin", SheetsBoundaryTest::bodiesAsTheyBegin);
        Check.that("promise 28", "UNKNOWN", SheetsBoundaryTest::hailUnknown);
        Check.that("terms 5", "its number; BANKRUPT ones: 50", SheetsBoundaryTest::hailOfKinds);
        Check.that("promise 29", "UNKNOWN, ahead of OUTSIDE", SheetsBoundaryTest::asUnknown);
        Check.that("promise 29", "OUTSIDE, ahead of CAST", SheetsBoundaryTest::asOutside);
        Check.that("promise 29", "CAST: it is none", SheetsBoundaryTest::asCast);
        Check.that("promise 29", "each is a PERSON, a BANKRUPT one is RICH", SheetsBoundaryTest::eachIsAPersonToo);
        Check.that("terms 5", "an int that wraps", SheetsBoundaryTest::traceWraps);
        Check.that("terms 5", "TRACE 0 at first", SheetsBoundaryTest::traceNoughtAtFirst);
        Check.that("promise 32", "OUTSIDE", SheetsBoundaryTest::manyOutside);
        Check.that("promise 32", "0 all without a TOWN", SheetsBoundaryTest::manyWithoutTown);
        Check.that("promise 32", "how many, at least and at most", SheetsBoundaryTest::manyLeastAndMost);
    }

    public static void main(String[] args) {
        rows();
        copies();
        bodies();
        Check.end();
    }
}
