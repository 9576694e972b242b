/** The boundary cases of promises 1 to 7 (a new object, the town), sentence by sentence. */
public final class TownBoundaryTest implements Words {
    private static final int[] NO_SHEETS = {-1, 4, LEAST, MOST};
    private static final int[] NO_LANES = {-1, 3, LEAST, MOST};
    private static final String TWO = "l23,p05,r30";
    private static final String DARK = "l20,p00,p00";
    private static final String SIX = "l69,p099999,r909999,b990999,p999099,r999909,b999990";

    // ---- promise 1

    private static void noPeople() {
        Run x = new Run();
        x.due(0, "many", 0);
        for (String name : new String[] {"lighter", "ring", "free", "kinds", "tell", "hail"}) x.due(UNKNOWN, name, 0);
        for (String name : new String[] {"ofPerson", "owes", "weight", "later", "debts", "as"}) {
            x.due(UNKNOWN, name, 0, 1);
        }
        x.due(UNKNOWN, "owe", 0, 1, 1);
        x.due(UNKNOWN, "reading", 0, 0, NONE);
        x.due(LOST, "odds", 0, 0, 0);
        x.due(1, "sheet", 0, 0, 1);
        x.due(UNKNOWN, "walk", 0, 0, 0, 0, 0, 0);
    }

    private static void sheetsHaveNothing() {
        for (int k = 0; k < 4; k++) {
            Run x = new Run();
            x.dueFault(NULL, "put", k, 0, 0);
            x.due(0, "lose", k);
        }
    }

    private static void objectsStandAlone() {
        Run one = Run.ofTown(TWO);
        one.due(5, "tell", 0);
        one.due(0, "reading", 0, 0, 1);
        Run other = new Run();
        for (int what = 0; what < 4; what++) other.due(0, "many", what);
        other.due(0, "trace");
        other.due(0, "lose", 0);
    }

    // ---- promise 2: refusals and faults

    private static void townOfNoSheet() {
        Run x = Run.ofTown(TWO);
        for (int k : NO_SHEETS) x.due(UNKNOWN, "town", k, 0, 0, 11);
        for (int k = 1; k < 4; k++) x.dueFault(NULL, "town", k, 0, 0, 11);
    }

    private static void townOfNoLane() {
        Run x = Run.ofTown(TWO);
        for (int lane : NO_LANES) x.due(OUTSIDE, "town", 0, lane, 0, 11);
    }

    private static void townUnknownFirst() {
        Run x = new Run();
        x.due(UNKNOWN, "town", 4, 3, -1, -1);
        x.due(OUTSIDE, "town", 0, 3, -1, -1);
    }

    private static void townCast() {
        for (int lane = 0; lane < 3; lane++) {
            Run x = new Run();
            x.writeText(0, lane, TWO);
            for (int other = 0; other < 3; other++) {
                if (other == lane) x.due(2, "town", 0, other, 0, 11);
                else x.dueFault(CAST, "town", 0, other, 0, 11);
            }
        }
    }

    private static void townOfNothingIsNoCast() {
        Run x = new Run();
        for (int lane = 0; lane < 3; lane++) x.dueFault(NULL, "town", 0, lane, 0, 0);
        x.due(1, "sheet", 0, 2, 11);
        x.due(1, "lose", 0);
        for (int lane = 0; lane < 3; lane++) x.dueFault(NULL, "town", 0, lane, 0, 0);
    }

    private static void townCastFirst() {
        Run x = new Run();
        x.due(1, "sheet", 0, 0, 3);
        x.dueFault(CAST, "town", 0, 1, -1, -1);
        x.dueFault(CAST, "town", 0, 1, 4, 0);
    }

    private static void townNullFirst() {
        Run x = new Run();
        x.dueFault(NULL, "town", 0, 0, -1, -1);
        x.dueFault(NULL, "town", 0, 0, 1, 1);
    }

    private static void townSize() {
        Run x = Run.ofTown(TWO);
        x.dueFault(SIZE, "town", 0, 0, 0, -1);
        x.dueFault(SIZE, "town", 0, 0, 0, LEAST);
        x.dueFault(SIZE, "town", 0, 0, 11, -11);
    }

    private static void townSizeBeforeIndex() {
        Run x = Run.ofTown(TWO);
        for (int i : new int[] {-1, 12, LEAST, MOST}) x.dueFault(SIZE, "town", 0, 0, i, -1);
    }

    private static void townIndex() {
        Run x = Run.ofTown(TWO);
        int[][] beyond = {{-1, 1}, {-1, 12}, {0, 12}, {1, 11}, {11, 1}, {12, 1}, {LEAST, 1}, {MOST, 1}, {0, MOST},
            {1, MOST}, {11, MOST}, {MOST, MOST}, {LEAST, MOST}};
        for (int[] at : beyond) x.dueFault(INDEX, "town", 0, 0, at[0], at[1]);
        x.due(2, "town", 0, 0, 0, 11);
    }

    private static void townIndexOfNone() {
        Run x = Run.ofTown(TWO);
        for (int i : new int[] {-1, 12, LEAST, MOST}) x.dueFault(INDEX, "town", 0, 0, i, 0);
        x.due(-100, "town", 0, 0, 0, 0);
        x.due(-100, "town", 0, 0, 11, 0);
        x.due(0, "fault");
        x.due(1, "sheet", 1, 0, 0);
        x.due(-100, "town", 1, 0, 0, 0);
        x.dueFault(INDEX, "town", 1, 0, 1, 0);
        x.dueFault(INDEX, "town", 1, 0, 0, 1);
    }

    private static void townIndexBeforeText() {
        Run x = new Run();
        x.writeText(0, 0, "xyz");
        x.dueFault(INDEX, "town", 0, 0, 0, 4);
        x.due(-100, "town", 0, 0, 0, 3);
        x.due(0, "fault");
    }

    private static void townFaultsChangeNothing() {
        Run x = Run.ofTown(TWO);
        x.due(0, "reading", 0, 0, 1);
        x.dueFault(CAST, "town", 0, 1, 0, 11);
        x.dueFault(NULL, "town", 1, 0, 0, 11);
        x.dueFault(SIZE, "town", 0, 0, 0, -1);
        x.dueFault(INDEX, "town", 0, 0, 0, 12);
        x.due(2, "many", 0);
        x.due(3, "many", 1);
        x.due(1, "many", 3);
        x.due(5, "owes", 0, 1);
    }

    // ---- promise 2: the text

    private static void peopleTwoToSix() {
        String[] least = {DARK, "l30,p000,p000,p000", "l40,p0000,p0000,p0000,p0000",
            "l50,p00000,p00000,p00000,p00000,p00000", "l60,p000000,p000000,p000000,p000000,p000000,p000000"};
        for (int k = 0; k < least.length; k++) {
            Run x = Run.ofTown(least[k]);
            x.due(k + 2, "many", 0);
            x.due(0, "owes", k + 1, k + 1);
            x.due(UNKNOWN, "owes", k + 2, 0);
        }
        Run x = new Run();
        for (String digit : new String[] {"/", "0", "1", "7", "8", "9", ":", ",", "p"}) x.dueOfText(-101, "l" + digit);
    }

    private static void bellNoughtToNine() {
        Run x = new Run();
        for (int v = 0; v <= 9; v++) {
            x.dueOfText(2, "l2" + v + ",p00,p00");
            x.due(v, "many", 1);
        }
        for (String code : new String[] {"/", ":", ",", "p"}) x.dueOfText(-102, "l2" + code);
    }

    private static void theTextBeginsByL() {
        Run x = new Run();
        for (String code : new String[] {"k", "m", "L", "2", ","}) x.dueOfText(-100, code + DARK.substring(1));
    }

    private static void aCommaAheadOfEach() {
        Run x = new Run();
        for (String code : new String[] {"+", "-", "p", "0"}) {
            x.dueOfText(-103, "l20" + code + "p00,p00");
            x.dueOfText(-107, "l20,p00" + code + "p00");
        }
    }

    private static void aLetterOfThree() {
        for (int who = 0; who < 2; who++) {
            Run x = new Run();
            for (String code : new String[] {"a", "c", "o", "q", "s", "P", "R", "B", "l", "0", ","}) {
                x.dueOfText(-104 - 4 * who, who == 0 ? "l20," + code + "00,p00" : "l20,p00," + code + "00");
            }
            for (int kind = 0; kind < 3; kind++) {
                x.dueOfText(2, who == 0 ? "l20," + "prb".charAt(kind) + "00,p00" : "l20,p00," + "prb".charAt(kind) + "00");
                x.due(kind, "ofPerson", who, 0);
            }
        }
    }

    private static void penceNoughtToNine() {
        Run x = new Run();
        for (int v = 0; v <= 9; v++) {
            x.dueOfText(2, "l20,p0" + v + ",p" + (9 - v) + "0");
            x.due(v, "owes", 0, 1);
            x.due(9 - v, "owes", 1, 0);
        }
        for (String code : new String[] {"/", ":", ",", "p"}) {
            x.dueOfText(-106, "l20,p0" + code);
            x.dueOfText(-109, "l20,p00,p" + code);
        }
    }

    private static void toThemselvesNought() {
        for (int p = 0; p < 6; p++) {
            Run x = new Run();
            int place = 3 + 8 * p + 2 + p;
            for (String code : new String[] {"/", "1", "9", ":"}) {
                x.dueOfText(-100 - place, SIX.substring(0, place) + code + SIX.substring(place + 1));
            }
        }
    }

    private static void itEndsTooSoon() {
        for (int n = 0; n < SIX.length(); n++) {
            Run x = new Run();
            x.dueOfText(-100 - n, SIX.substring(0, n));
            x.due(0, "fault");
            x.due(0, "many", 0);
        }
    }

    private static void itGoesOnTooLong() {
        for (String code : new String[] {"0", ",", "p", "l", "x"}) {
            Run x = new Run();
            x.dueOfText(-100 - TWO.length(), TWO + code);
            x.dueOfText(-100 - TWO.length(), TWO + code + code);
            x.dueOfText(-100 - SIX.length(), SIX + code);
            x.due(0, "many", 0);
        }
    }

    private static void theFirstOfSeveral() {
        Run x = new Run();
        x.dueOfText(-105, "l20,p10,p01");
        x.dueOfText(-101, "l1x");
        x.dueOfText(-103, "l20x");
        x.dueOfText(-100, "xl20,p00,p00");
    }

    private static void thePlaceIsOfTheText() {
        Run x = new Run();
        x.writeText(0, 0, "xxx" + TWO + "x");
        x.due(2, "town", 0, 0, 3, 11);
        x.due(-111, "town", 0, 0, 3, 12);
        x.due(-104, "town", 0, 0, 3, 4);
        x.due(-100, "town", 0, 0, 2, 11);
    }

    private static void theLongestAtTheEndOfARow() {
        Run x = new Run();
        x.due(1, "sheet", 3, 2, 60);
        for (int i = 0; i < SIX.length(); i++) x.due(1, "put", 3, 9 + i, SIX.charAt(i));
        x.due(6, "town", 3, 2, 9, 51);
        x.due(9, "owes", 5, 4);
        x.dueFault(INDEX, "town", 3, 2, 9, 52);
        x.dueFault(INDEX, "town", 3, 2, 10, 51);
    }

    private static void codesAreNotCut() {
        Run x = new Run();
        x.write(0, 0, 'l' + 256, '2' - 256, '0' + 512, ',', 'p', '0', '0', ',', 'p', '0', '0');
        x.due(2, "town", 0, 0, 0, 11);
        x.write(1, 1, 'l' + 65536, '2' + 256);
        x.due(-101, "town", 1, 1, 0, 2);
        x.write(2, 2, 'l', '2' + 65536);
        x.due(-101, "town", 2, 2, 0, 2);
        for (int code : new int[] {'l' + 256, 'l' + 65536, -108, LEAST, MOST}) {
            x.due(1, "put", 2, 0, code);
            x.due(-100, "town", 2, 2, 0, 2);
        }
        x.write(3, 2, 'l', '2', LEAST);
        x.due(-102, "town", 3, 2, 0, 3);
        x.due(1, "put", 3, 1, LEAST);
        x.due(-101, "town", 3, 2, 0, 3);
        x.due(1, "put", 3, 1, LEAST + 50);
        x.due(-101, "town", 3, 2, 0, 3);
    }

    private static void takenMakesAllAnew() {
        Run x = Run.ofTown(SIX);
        x.due(0, "reading", 0, 0, 5);
        x.due(1, "reading", 1, 0, 5);
        x.readText(DARK);
        x.due(2, "many", 0);
        x.due(0, "many", 1);
        x.due(0, "many", 2);
        x.due(0, "many", 3);
        x.due(0, "reading", 0, 0, NONE);
        x.readText("l60,p000000,p000000,p000000,p000000,p000000,p000000");
        x.due(0, "many", 3);
        for (int p = 0; p < 6; p++) {
            x.due(0, "ofPerson", p, 0);
            x.due(0, "ofPerson", p, 1);
        }
    }

    private static void notTakenChangesNothing() {
        Run x = Run.ofTown(TWO);
        x.due(0, "reading", 0, 1, 0);
        x.due(5, "owe", 0, 1, 4);
        x.due(3, "bell", 8);
        x.dueOfText(-151, SIX + "0");
        x.due(2, "many", 0);
        x.due(8, "many", 1);
        x.due(1, "many", 3);
        x.due(4, "owes", 0, 1);
        x.due(3, "owes", 1, 0);
        x.due(0, "ofPerson", 0, 0);
        x.due(1, "ofPerson", 1, 0);
    }

    // ---- promise 3

    private static void ofNoPerson() {
        Run x = Run.ofTown(TWO);
        for (int p : new int[] {-1, 2, NONE, LEAST, MOST}) {
            for (int what = 0; what < 5; what++) x.due(UNKNOWN, "ofPerson", p, what);
        }
        Run six = Run.ofTown(SIX);
        six.due(45, "ofPerson", 5, 1);
        six.due(UNKNOWN, "ofPerson", 6, 1);
    }

    private static void ofPersonWhat() {
        Run x = Run.ofTown(TWO);
        for (int what : new int[] {-1, 5, LEAST, MOST}) x.due(OUTSIDE, "ofPerson", 0, what);
        x.due(UNKNOWN, "ofPerson", 2, 5);
        x.due(UNKNOWN, "ofPerson", -1, -1);
    }

    private static void penceInAll() {
        Run x = Run.ofTown(SIX);
        for (int p = 0; p < 6; p++) x.due(45, "ofPerson", p, 1);
        Run.ofTown(DARK).due(0, "ofPerson", 0, 1);
    }

    private static void roundsOfNoneAndOfAll() {
        Run x = Run.ofTown("l60,p000000,p000000,p110111,p000000,p000000,p000000");
        x.due(59, "ofPerson", 2, 2);
        for (int p : new int[] {0, 1, 3, 4, 5}) {
            x.due(0, "ofPerson", p, 2);
            x.due(0, "ofPerson", p, 3);
            x.due(1, "ofPerson", p, 4);
        }
    }

    /** Each row: who, the doors, the fewest steps. */
    private static void fewestSteps() {
        int[][] rounds = {{0, 0b000010, 1}, {0, 0b100000, 5}, {0, 0b111110, 5}, {5, 0b000001, 5}, {5, 0b011111, 5},
            {5, 0b010000, 1}, {2, 0b100001, 7}, {3, 0b100001, 7}, {2, 0b010001, 6}, {1, 0b100001, 6}, {4, 0b100001, 6},
            {2, 0b001010, 3}, {2, 0b000011, 2}, {2, 0b001001, 4}, {2, 0b010010, 4}};
        for (int[] round : rounds) {
            Run x = Run.ofTown("l60,p000000,p000000,p000000,p000000,p000000,p000000");
            for (int b = 0; b < 6; b++) if ((round[1] >> b & 1) == 1) x.due(0, "owe", round[0], b, 1);
            x.due(round[1], "ofPerson", round[0], 2);
            x.due(round[2], "ofPerson", round[0], 3);
        }
    }

    private static void inTimeByNoMoreSteps() {
        Run x = Run.ofTown("l67,p000000,p000000,p110111,p000000,p000000,p000000");
        x.due(1, "ofPerson", 2, 4);
        x.due(7, "bell", 6);
        x.due(0, "ofPerson", 2, 4);
        x.due(6, "bell", 8);
        x.due(1, "ofPerson", 2, 4);
        Run least = Run.ofTown("l20,p01,p00");
        least.due(0, "ofPerson", 0, 4);
        least.due(1, "ofPerson", 1, 4);
        least.due(0, "bell", 1);
        least.due(1, "ofPerson", 0, 4);
    }

    // ---- promise 4

    private static void oweByNoPerson() {
        Run x = Run.ofTown(TWO);
        for (int p : new int[] {-1, 2, NONE, LEAST, MOST}) {
            x.due(UNKNOWN, "owe", p, 0, 1);
            x.due(UNKNOWN, "owe", 0, p, 1);
            x.due(UNKNOWN, "owe", p, p, 0);
        }
    }

    private static void oweToThemselves() {
        Run x = Run.ofTown(TWO);
        for (int p = 0; p < 2; p++) {
            x.due(UNKNOWN, "owe", p, p, 0);
            x.due(UNKNOWN, "owe", p, p, 1);
            x.due(0, "owes", p, p);
        }
    }

    private static void owePence() {
        Run x = Run.ofTown(TWO);
        for (int v : new int[] {-1, 10, LEAST, MOST}) x.due(OUTSIDE, "owe", 0, 1, v);
        x.due(5, "owe", 0, 1, 0);
        x.due(0, "owe", 0, 1, 9);
        x.due(9, "owes", 0, 1);
    }

    private static void oweUnknownFirst() {
        Run x = Run.ofTown(TWO);
        x.due(UNKNOWN, "owe", 2, 0, 10);
        x.due(UNKNOWN, "owe", 0, 2, -1);
        x.due(UNKNOWN, "owe", 1, 1, 10);
    }

    // ---- promises 5, 6

    private static void owesByNoPerson() {
        Run x = Run.ofTown(TWO);
        for (int p : new int[] {-1, 2, NONE, LEAST, MOST}) {
            x.due(UNKNOWN, "owes", p, 0);
            x.due(UNKNOWN, "owes", 0, p);
            x.due(UNKNOWN, "owes", p, p);
        }
    }

    private static void owesToThemselves() {
        Run x = Run.ofTown(SIX);
        for (int p = 0; p < 6; p++) {
            x.due(0, "owes", p, p);
            x.due(0, "weight", p, p);
        }
    }

    private static void weightOfNoPerson() {
        Run x = Run.ofTown(TWO);
        for (int p : new int[] {-1, 2, NONE, LEAST, MOST}) {
            x.due(UNKNOWN, "weight", p, 0);
            x.due(UNKNOWN, "weight", 0, p);
        }
    }

    private static void weightOfKinds() {
        Run x = Run.ofTown("l40,p0000,r0000,b0000,p0000");
        for (int v = 9; v >= 0; v--) {
            for (int a = 0; a < 3; a++) x.ask("owe", a, 3, v);
            x.due(v, "weight", 0, 3);
            x.due(v == 0 ? 0 : v + 1, "weight", 1, 3);
            x.due(2 * v, "weight", 2, 3);
        }
    }

    private static void richOwesAnyThere() {
        Run x = Run.ofTown("l30,p000,r900,p000");
        x.due(10, "weight", 1, 0);
        x.due(0, "weight", 1, 2);
        x.due(NONE, "lighter", 2);
    }

    // ---- promise 7

    private static void bellOutside() {
        Run x = Run.ofTown(TWO);
        for (int v : new int[] {-1, 10, LEAST, MOST}) x.due(OUTSIDE, "bell", v);
        x.due(3, "many", 1);
        x.due(3, "bell", 0);
        x.due(0, "bell", 9);
        x.due(9, "many", 1);
    }

    private static void bellWithoutTown() {
        Run x = new Run();
        for (int v = 0; v <= 9; v++) x.due(STATE, "bell", v);
        x.due(0, "many", 1);
    }

    private static void bellOutsideFirst() {
        Run x = new Run();
        x.due(OUTSIDE, "bell", -1);
        x.due(OUTSIDE, "bell", 10);
    }

    private static void townRefusals() {
        Check.that("promise 2", "UNKNOWN", TownBoundaryTest::townOfNoSheet);
        Check.that("promise 2", "OUTSIDE: lane", TownBoundaryTest::townOfNoLane);
        Check.that("promise 2", "UNKNOWN; OUTSIDE; FAULTS in this order", TownBoundaryTest::townUnknownFirst);
        Check.that("promise 2", "CAST", TownBoundaryTest::townCast);
        Check.that("promise 2", "nothing is no CAST", TownBoundaryTest::townOfNothingIsNoCast);
        Check.that("promise 2", "CAST ahead of SIZE, INDEX", TownBoundaryTest::townCastFirst);
        Check.that("promise 2", "NULL ahead of SIZE, INDEX", TownBoundaryTest::townNullFirst);
        Check.that("promise 2", "SIZE: n is below 0", TownBoundaryTest::townSize);
        Check.that("promise 2", "SIZE ahead of INDEX", TownBoundaryTest::townSizeBeforeIndex);
        Check.that("promise 2", "INDEX: not all cells are there", TownBoundaryTest::townIndex);
        Check.that("terms", "INDEX, if none of the cells is taken, too", TownBoundaryTest::townIndexOfNone);
        Check.that("promise 2", "INDEX ahead of the FIRST FAULT", TownBoundaryTest::townIndexBeforeText);
        Check.that("terms", "a FAULT changes nothing (town)", TownBoundaryTest::townFaultsChangeNothing);
    }

    private static void texts() {
        Check.that("terms 1", "a digit 2 .. 6 (PEOPLE)", TownBoundaryTest::peopleTwoToSix);
        Check.that("terms 1", "a digit 0 .. 9 (the BELL)", TownBoundaryTest::bellNoughtToNine);
        Check.that("terms 1", "a TEXT: l", TownBoundaryTest::theTextBeginsByL);
        Check.that("terms 1", "for each PERSON: ,", TownBoundaryTest::aCommaAheadOfEach);
        Check.that("terms 1", "a letter; kinds p, r, b", TownBoundaryTest::aLetterOfThree);
        Check.that("terms 1", "digits 0 .. 9: PENCE", TownBoundaryTest::penceNoughtToNine);
        Check.that("terms 1", "to themselves 0", TownBoundaryTest::toThemselvesNought);
        Check.that("terms 1", "how many codes there are, if it just ends too soon", TownBoundaryTest::itEndsTooSoon);
        Check.that("terms 1", "code with which no TEXT goes on: one too many", TownBoundaryTest::itGoesOnTooLong);
        Check.that("terms 1", "the first code with which no TEXT goes on", TownBoundaryTest::theFirstOfSeveral);
        Check.that("terms 1", "the place (from 0 on)", TownBoundaryTest::thePlaceIsOfTheText);
        Check.that("promise 2", "n cells of a SHEET from i on", TownBoundaryTest::theLongestAtTheEndOfARow);
        Check.that("promise 2", "taken as a row of a LANE", TownBoundaryTest::codesAreNotCut);
        Check.that("terms 1", "a TEXT that is taken makes all anew: no READINGS", TownBoundaryTest::takenMakesAllAnew);
        Check.that("promise 2", "one that is not taken makes nothing anew", TownBoundaryTest::notTakenChangesNothing);
    }

    private static void people() {
        Check.that("promise 3", "UNKNOWN", TownBoundaryTest::ofNoPerson);
        Check.that("promise 3", "OUTSIDE, behind UNKNOWN", TownBoundaryTest::ofPersonWhat);
        Check.that("promise 3", "PENCE that they OWE in all", TownBoundaryTest::penceInAll);
        Check.that("promise 3", "their ROUND, as a set", TownBoundaryTest::roundsOfNoneAndOfAll);
        Check.that("terms 2", "the fewest STEPS (not back)", TownBoundaryTest::fewestSteps);
        Check.that("terms 2", "IN TIME: no more STEPS than the BELL tells", TownBoundaryTest::inTimeByNoMoreSteps);
        Check.that("promise 4", "UNKNOWN: a, b", TownBoundaryTest::oweByNoPerson);
        Check.that("promise 4", "UNKNOWN: one to themselves", TownBoundaryTest::oweToThemselves);
        Check.that("promise 4", "v (0 .. 9); OUTSIDE", TownBoundaryTest::owePence);
        Check.that("promise 4", "UNKNOWN ahead of OUTSIDE", TownBoundaryTest::oweUnknownFirst);
        Check.that("promise 5", "UNKNOWN: a, b", TownBoundaryTest::owesByNoPerson);
        Check.that("promises 5, 6", "to themselves 0", TownBoundaryTest::owesToThemselves);
        Check.that("promise 6", "UNKNOWN: a, b", TownBoundaryTest::weightOfNoPerson);
        Check.that("terms 1", "WEIGHT by kinds", TownBoundaryTest::weightOfKinds);
        Check.that("terms 1", "1 more, if it OWES any", TownBoundaryTest::richOwesAnyThere);
        Check.that("promise 7", "v (0 .. 9); OUTSIDE", TownBoundaryTest::bellOutside);
        Check.that("promise 7", "STATE: there is no TOWN", TownBoundaryTest::bellWithoutTown);
        Check.that("promise 7", "OUTSIDE ahead of STATE", TownBoundaryTest::bellOutsideFirst);
    }

    public static void main(String[] args) {
        Check.that("promise 1", "no TOWN (no PEOPLE)", TownBoundaryTest::noPeople);
        Check.that("promise 1", "SHEETS have nothing", TownBoundaryTest::sheetsHaveNothing);
        Check.that("promise 1", "a new object, beside another one", TownBoundaryTest::objectsStandAlone);
        townRefusals();
        texts();
        people();
        Check.end();
    }
}
