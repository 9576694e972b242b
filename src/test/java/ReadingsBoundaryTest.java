/** The boundary cases of promises 16 to 21 (who lit what), sentence by sentence. */
public final class ReadingsBoundaryTest implements Words {
    private static final int[] NO_PERSONS_OF_THREE = {-1, 3, 6, -2, -8, -10, LEAST, MOST};
    private static final String DARK = "l20,p00,p00";
    // Lamp 0 is lit by 1 (5 against 4), lamp 2 by 1, lamp 1 is dark.
    private static final String THREE = "l39,p000,p503,p400";
    // 0 owes to 1 alone and is in time: paid off behind as many dusks as there are pence.
    private static final String PAID_OFF = "l21,p03,p00";

    // ---- promise 16

    private static void readingOfNoLamp() {
        Run x = Run.ofTown(THREE);
        for (int b : NO_PERSONS_OF_THREE) x.due(UNKNOWN, "reading", 0, b, 0);
        x.due(UNKNOWN, "reading", 0, NONE, 0);
        x.due(UNKNOWN, "reading", 0, NONE, NONE);
        x.due(0, "many", 3);
    }

    private static void readingOfNoPerson() {
        Run x = Run.ofTown(THREE);
        for (int a : NO_PERSONS_OF_THREE) x.due(UNKNOWN, "reading", 0, 0, a);
        x.due(0, "many", 3);
    }

    private static void readingOfDark() {
        Run x = Run.ofTown(THREE);
        x.due(0, "reading", 0, 1, NONE);
        x.due(7, "kinds", 0);
        x.due(1, "reading", 0, 0, NONE);
        x.due(0, "kinds", 0);
    }

    private static void readingTenDusksAtMost() {
        Run x = Run.ofTown(THREE);
        for (int t : new int[] {-1, 11, LEAST, MOST}) x.due(OUTSIDE, "reading", t, 0, 0);
        x.due(0, "many", 3);
        x.due(0, "reading", 0, 0, 0);
        x.due(1, "reading", 10, 0, 0);
    }

    private static void readingUnknownFirst() {
        Run x = Run.ofTown(THREE);
        x.due(UNKNOWN, "reading", 11, 3, 0);
        x.due(UNKNOWN, "reading", -1, 0, 3);
    }

    private static void eightReadingsAtMost() {
        Run x = Run.ofTown(THREE);
        for (int k = 0; k < 8; k++) x.due(k, "reading", 0, 1, NONE);
        x.due(FULL, "reading", 0, 1, NONE);
        x.due(FULL, "reading", 0, 0, NONE);
        x.due(8, "many", 3);
        x.due(1023, "bells");
        x.due(7, "back", 1);
        x.due(7, "reading", 0, 1, NONE);
        x.due(FULL, "reading", 10, 1, NONE);
    }

    private static void fullComesLast() {
        Run x = Run.ofTown(THREE);
        for (int k = 0; k < 8; k++) x.due(k, "reading", 0, 1, NONE);
        x.due(OUTSIDE, "reading", 11, 1, NONE);
        x.due(OUTSIDE, "reading", -1, 1, NONE);
        x.due(UNKNOWN, "reading", 11, 3, NONE);
        x.due(UNKNOWN, "reading", 0, 0, 3);
    }

    private static void numberedByHowManyThereAre() {
        Run x = Run.ofTown(THREE);
        x.due(0, "reading", 0, 0, 1);
        x.due(1, "reading", 0, 0, 1);
        x.due(0, "back", 2);
        x.due(0, "reading", 0, 0, 1);
    }

    private static void behindNoDuskAndTen() {
        Run x = Run.ofTown("l29,p09,p00");
        x.due(0, "reading", 0, 1, 0);
        x.due(1022, "debts", 0, 1);
        x.due(0, "back", 1);
        x.due(0, "reading", 9, 1, NONE);
        x.due(1023, "debts", 0, 1);
        x.due(1, "reading", 8, 1, 0);
        x.due(512, "debts", 0, 1);
        x.due(0, "back", 2);
        Run ten = Run.ofTown("l39,p000,p900,p100");
        ten.due(0, "reading", 10, 0, NONE);
        ten.due(1023, "debts", 1, 0);
        ten.due(1, "reading", 9, 0, NONE);
        ten.due(511, "debts", 1, 0);
    }

    private static void fromNowOn() {
        Run x = Run.ofTown(PAID_OFF);
        x.due(0, "reading", 2, 1, 0);
        x.due(1016, "debts", 0, 1);
        x.due(1023, "bells");
        x.due(2, "dusks", 1);
        x.due(1, "many", 3);
        x.due(1016, "debts", 0, 1);
        x.due(1, "bells");
        x.due(2, "owe", 0, 1, 3);
        x.due(1023, "bells");
    }

    // ---- promise 17

    private static void backOutside() {
        Run x = Run.ofTown(THREE);
        x.due(OUTSIDE, "back", 1);
        x.due(0, "reading", 0, 0, 1);
        x.due(1, "reading", 0, 0, 1);
        for (int k : new int[] {-1, 3, LEAST, MOST}) x.due(OUTSIDE, "back", k);
        x.due(2, "many", 3);
    }

    private static void backNoneAndAll() {
        Run x = Run.ofTown(THREE);
        x.due(0, "back", 0);
        for (int k = 0; k < 8; k++) x.due(k, "reading", 0, 0, NONE);
        x.due(8, "back", 0);
        x.due(OUTSIDE, "back", 9);
        x.due(0, "back", 8);
        x.due(1023, "bells");
        x.due(OUTSIDE, "back", 1);
    }

    private static void backWithoutTown() {
        Run x = new Run();
        x.due(0, "back", 0);
        x.due(OUTSIDE, "back", 1);
        x.due(OUTSIDE, "back", -1);
    }

    private static void theLastAreTakenBack() {
        Run x = Run.ofTown(THREE);
        x.due(0, "reading", 0, 0, 1);
        x.due(1, "reading", 0, 0, 2);
        x.due(0, "bells");
        x.due(1, "back", 1);
        x.due(1023, "bells");
        x.due(1, "reading", 0, 2, 1);
        x.due(1023, "bells");
        x.due(0, "back", 2);
    }

    // ---- promise 18

    private static void debtsOfNoPerson() {
        Run x = Run.ofTown(THREE);
        for (int p : NO_PERSONS_OF_THREE) {
            x.due(UNKNOWN, "debts", p, 0);
            x.due(UNKNOWN, "debts", 0, p);
        }
        x.due(UNKNOWN, "debts", NONE, NONE);
    }

    private static void debtsToThemselves() {
        Run x = Run.ofTown(THREE);
        for (int p = 0; p < 3; p++) x.due(UNKNOWN, "debts", p, p);
    }

    private static void penceNoughtToNine() {
        Run x = Run.ofTown(THREE);
        x.due(1023, "debts", 0, 1);
        x.due(0, "reading", 0, 1, NONE);
        x.due(1, "debts", 0, 1);
        x.due(0, "back", 1);
        x.due(0, "reading", 0, 1, 0);
        x.due(1022, "debts", 0, 1);
        Run most = Run.ofTown("l39,p000,p900,r800");
        most.due(0, "reading", 0, 0, 1);
        most.due(512, "debts", 1, 0);
        most.due(511, "debts", 2, 0);
    }

    private static void noDebtWouldDo() {
        Run x = Run.ofTown(THREE);
        x.due(0, "reading", 0, 0, 2);
        x.due(0, "debts", 0, 1);
        x.due(15, "debts", 1, 0);
        x.due(960, "debts", 2, 0);
    }

    private static void allReadingsAreSo() {
        Run x = Run.ofTown(PAID_OFF);
        x.due(0, "reading", 4, 1, NONE);
        x.due(31, "debts", 0, 1);
        x.due(1, "reading", 2, 1, 0);
        x.due(24, "debts", 0, 1);
        x.due(2, "reading", 3, 1, 0);
        x.due(16, "debts", 0, 1);
        x.due(3, "reading", 3, 1, NONE);
        x.due(0, "debts", 0, 1);
    }

    private static void inPlaceOfWhatItIs() {
        Run x = Run.ofTown(PAID_OFF);
        x.due(0, "reading", 0, 1, NONE);
        x.due(1, "debts", 0, 1);
        x.due(3, "owes", 0, 1);
        x.due(0, "kinds", 0);
        x.due(0, "bells");
        x.due(1, "many", 1);
        x.due(0, "ofPerson", 0, 0);
    }

    // ---- promise 19

    private static void kindsOfNoPerson() {
        Run x = Run.ofTown(THREE);
        for (int p : NO_PERSONS_OF_THREE) x.due(UNKNOWN, "kinds", p);
        x.due(UNKNOWN, "kinds", NONE);
    }

    private static void kindsNoughtToTwo() {
        Run x = Run.ofTown("l39,p000,p300,p400");
        x.due(7, "kinds", 1);
        x.due(0, "reading", 0, 0, 1);
        x.due(6, "kinds", 1);
        x.due(4, "owe", 2, 0, 5);
        x.due(4, "kinds", 1);
        x.due(5, "owe", 2, 0, 7);
        x.due(0, "kinds", 1);
        x.due(7, "owe", 2, 0, 2);
        x.due(7, "kinds", 1);
        x.due(3, "kinds", 2);
        x.due(0, "ofPerson", 1, 0);
    }

    // ---- promise 20

    private static void bellsWithoutTown() {
        new Run().due(STATE, "bells");
    }

    private static void bellsNoughtToNine() {
        Run.ofTown(DARK).due(1023, "bells");
        Run x = Run.ofTown("l60,p000000,p000000,p110111,p000000,p000000,p000000");
        x.due(0, "reading", 1, 0, NONE);
        x.due(1023 - 127, "bells");
        x.due(0, "back", 1);
        x.due(0, "reading", 1, 0, 2);
        x.due(127, "bells");
        x.due(1, "reading", 1, 0, NONE);
        x.due(0, "bells");
        x.due(0, "many", 1);
    }

    // ---- promise 21

    private static void oddsOfNoLamp() {
        Run x = Run.ofTown(THREE);
        for (int p : NO_PERSONS_OF_THREE) {
            x.due(LOST, "odds", p, 0, 0);
            x.due(LOST, "odds", 0, p, 1);
        }
        x.due(LOST, "odds", 0, NONE, 0);
        x.due(LOST, "odds", NONE, 0, 0);
    }

    private static void oddsWhich() {
        Run x = Run.ofTown(THREE);
        for (int which : new int[] {-1, 2, LEAST, MOST}) x.due(LOST, "odds", 0, 1, which);
    }

    private static void dueOdds(Run x, int b, int a, long upper, long lower) {
        x.due(upper, "odds", b, a, 0);
        x.due(lower, "odds", b, a, 1);
    }

    private static void oddsOfNone() {
        Run x = Run.ofTown(THREE);
        dueOdds(x, 0, 0, 0, 1);
        dueOdds(x, 1, 0, 0, 1);
        dueOdds(x, 1, 1, 0, 1);
        dueOdds(x, 2, 2, 0, 1);
        dueOdds(Run.ofTown(DARK), 0, 1, 0, 1);
    }

    private static void oddsInLeastTerms() {
        Run x = Run.ofTown("l60,p000000,p100000,p200000,p300000,p400000,p500000");
        for (int a = 1; a < 6; a++) dueOdds(x, 0, a, 1, 1 << 6 - a);
        Run one = Run.ofTown("l20,p01,p00");
        dueOdds(one, 1, 0, 1, 2);
    }

    private static void oddsOfSeveralTheLeast() {
        Run x = Run.ofTown("l60,p000000,p300000,p300000,r200000,p300000,p300000");
        for (int a = 1; a < 6; a++) dueOdds(x, 0, a, 1, 1 << a);
        Run kinds = Run.ofTown("l40,p0000,p5000,r5000,b3000");
        dueOdds(kinds, 0, 2, 1, 2);
        dueOdds(kinds, 0, 3, 1, 4);
        dueOdds(kinds, 0, 1, 1, 8);
    }

    private static void oddsChangeNothing() {
        Run x = Run.ofTown(THREE);
        dueOdds(x, 0, 2, 1, 4);
        x.due(5, "owes", 1, 0);
        x.due(4, "owes", 2, 0);
        x.due(1, "lighter", 0);
    }

    private static void oddsByWhatIsOwedNow() {
        Run x = Run.ofTown(THREE);
        x.due(0, "reading", 0, 0, NONE);
        x.due(0, "bells");
        dueOdds(x, 0, 1, 1, 2);
        dueOdds(x, 0, 2, 1, 4);
    }

    private static void readings() {
        Check.that("promise 16", "UNKNOWN: b", ReadingsBoundaryTest::readingOfNoLamp);
        Check.that("promise 16", "UNKNOWN: a", ReadingsBoundaryTest::readingOfNoPerson);
        Check.that("promise 16", "a NONE: dark", ReadingsBoundaryTest::readingOfDark);
        Check.that("promise 16", "OUTSIDE: t (0 .. 10)", ReadingsBoundaryTest::readingTenDusksAtMost);
        Check.that("promise 16", "UNKNOWN ahead of OUTSIDE", ReadingsBoundaryTest::readingUnknownFirst);
        Check.that("terms 4", "READINGS, 8 at most; FULL", ReadingsBoundaryTest::eightReadingsAtMost);
        Check.that("promise 16", "FULL behind UNKNOWN, OUTSIDE", ReadingsBoundaryTest::fullComesLast);
        Check.that("terms 4", "numbered by how many there are", ReadingsBoundaryTest::numberedByHowManyThereAre);
        Check.that("terms 4", "behind t DUSKS", ReadingsBoundaryTest::behindNoDuskAndTen);
        Check.that("terms 4", "from now on", ReadingsBoundaryTest::fromNowOn);
        Check.that("promise 17", "OUTSIDE", ReadingsBoundaryTest::backOutside);
        Check.that("promise 17", "k READINGS (0 .. as many as there are)", ReadingsBoundaryTest::backNoneAndAll);
        Check.that("promise 17", "as many as there are: none without a TOWN", ReadingsBoundaryTest::backWithoutTown);
        Check.that("promise 17", "the last k READINGS", ReadingsBoundaryTest::theLastAreTakenBack);
    }

    private static void whatFits() {
        Check.that("promise 18", "UNKNOWN: a, b", ReadingsBoundaryTest::debtsOfNoPerson);
        Check.that("promise 18", "UNKNOWN: one to themselves", ReadingsBoundaryTest::debtsToThemselves);
        Check.that("terms 4", "PENCE 0 .. 9, as a set", ReadingsBoundaryTest::penceNoughtToNine);
        Check.that("terms 4", "an empty set", ReadingsBoundaryTest::noDebtWouldDo);
        Check.that("terms 4", "by which all READINGS are so", ReadingsBoundaryTest::allReadingsAreSo);
        Check.that("terms 4", "in place of what it is alone", ReadingsBoundaryTest::inPlaceOfWhatItIs);
        Check.that("promise 19", "UNKNOWN", ReadingsBoundaryTest::kindsOfNoPerson);
        Check.that("terms 4", "KINDS of a PERSON: 0 .. 2, as a set", ReadingsBoundaryTest::kindsNoughtToTwo);
        Check.that("promise 20", "STATE: there is no TOWN", ReadingsBoundaryTest::bellsWithoutTown);
        Check.that("terms 4", "BELLS: 0 .. 9, as a set", ReadingsBoundaryTest::bellsNoughtToNine);
        Check.that("promise 21", "LOST: UNKNOWN: b, a", ReadingsBoundaryTest::oddsOfNoLamp);
        Check.that("promise 21", "LOST: OUTSIDE: which", ReadingsBoundaryTest::oddsWhich);
        Check.that("terms", "the lower number is above 0", ReadingsBoundaryTest::oddsOfNone);
        Check.that("terms", "in least terms", ReadingsBoundaryTest::oddsInLeastTerms);
        Check.that("terms 4", "paid all, or nothing: the LIGHTER then", ReadingsBoundaryTest::oddsOfSeveralTheLeast);
        Check.that("terms 4", "ODDS by who OWES there", ReadingsBoundaryTest::oddsByWhatIsOwedNow);
        Check.that("promise 21", "nothing is changed", ReadingsBoundaryTest::oddsChangeNothing);
    }

    public static void main(String[] args) {
        readings();
        whatFits();
        Check.end();
    }
}
