import java.util.List;

/** What the document's terms say of every call: refusals and faults change nothing, fault(), no call ever throws. */
public final class RefusalsBoundaryTest implements Words {
    private static final String TEXT = "l31,p034,r203,b120";
    private static final String ALL_CALLS = "town ofPerson owe owes weight bell lighter dusks later dark ring walk free "
        + "haste reading back debts kinds bells odds sheet lose put cell copy tell hail as trace fault many";
    private static final String NAME_FAULTS = " town walk sheet put cell copy as ";

    /** A call that is refused, or comes to a fault, and its answer. */
    private record Wrong(long answer, String name, int... args) {
        boolean namesFaults() {
            return NAME_FAULTS.contains(" " + name + " ");
        }
    }

    private static final Wrong[] UNKNOWNS = {
        new Wrong(UNKNOWN, "town", 4, 0, 0, 18), new Wrong(UNKNOWN, "ofPerson", 3, 0), new Wrong(UNKNOWN, "owe", 3, 0, 5),
        new Wrong(UNKNOWN, "owe", 0, 3, 5), new Wrong(UNKNOWN, "owe", 1, 1, 5), new Wrong(UNKNOWN, "owes", 3, 0),
        new Wrong(UNKNOWN, "weight", 0, 3), new Wrong(UNKNOWN, "lighter", 3), new Wrong(UNKNOWN, "later", 3, 1),
        new Wrong(UNKNOWN, "ring", 3), new Wrong(UNKNOWN, "walk", 3, 2, 2, 0, 1, 0),
        new Wrong(UNKNOWN, "walk", 0, 4, 2, 0, 1, 0), new Wrong(UNKNOWN, "walk", 0, 2, 2, 0, 3, 0),
        new Wrong(UNKNOWN, "free", 3), new Wrong(UNKNOWN, "reading", 0, 3, 0), new Wrong(UNKNOWN, "reading", 0, 0, 3),
        new Wrong(UNKNOWN, "debts", 3, 0), new Wrong(UNKNOWN, "debts", 2, 2), new Wrong(UNKNOWN, "kinds", 3),
        new Wrong(LOST, "odds", 3, 0, 0), new Wrong(LOST, "odds", 0, 3, 0), new Wrong(UNKNOWN, "sheet", 4, 0, 5),
        new Wrong(UNKNOWN, "lose", 4), new Wrong(UNKNOWN, "put", 4, 0, 7), new Wrong(LOST, "cell", 4, 0, 0),
        new Wrong(UNKNOWN, "copy", 4, 0, 2, 0, 1), new Wrong(UNKNOWN, "copy", 2, 0, 4, 0, 1),
        new Wrong(UNKNOWN, "tell", 3), new Wrong(UNKNOWN, "hail", 3), new Wrong(UNKNOWN, "as", 3, 0),
    };
    private static final Wrong[] OUTSIDES = {
        new Wrong(OUTSIDE, "town", 0, 3, 0, 18), new Wrong(OUTSIDE, "ofPerson", 0, 5), new Wrong(OUTSIDE, "owe", 0, 1, 10),
        new Wrong(OUTSIDE, "bell", 10), new Wrong(OUTSIDE, "dusks", 61), new Wrong(OUTSIDE, "later", 0, 61),
        new Wrong(OUTSIDE, "walk", 0, 2, 3, 0, 1, 0), new Wrong(OUTSIDE, "walk", 0, 2, 2, 0, 21, 0),
        new Wrong(OUTSIDE, "walk", 0, 2, 2, 0, 1, 3), new Wrong(OUTSIDE, "reading", 11, 0, 0),
        new Wrong(OUTSIDE, "back", 3), new Wrong(OUTSIDE, "back", -1), new Wrong(LOST, "odds", 0, 0, 2),
        new Wrong(OUTSIDE, "sheet", 0, 3, 5), new Wrong(OUTSIDE, "sheet", 0, 0, 61), new Wrong(LOST, "cell", 0, 0, 3),
        new Wrong(OUTSIDE, "as", 0, 3), new Wrong(OUTSIDE, "many", 4),
    };
    private static final Wrong[] STATES = {
        new Wrong(STATE, "bell", 5), new Wrong(STATE, "dusks", 5), new Wrong(STATE, "dark"), new Wrong(STATE, "haste"),
        new Wrong(STATE, "bells"),
    };
    private static final Wrong[] FAULTS = {
        new Wrong(CAST, "town", 0, 1, 0, 18), new Wrong(NULL, "town", 3, 0, 0, 18), new Wrong(SIZE, "town", 0, 0, 0, -1),
        new Wrong(INDEX, "town", 0, 0, 1, 18), new Wrong(CAST, "walk", 0, 2, 1, 0, 1, 0),
        new Wrong(NULL, "walk", 0, 3, 1, 0, 1, 0), new Wrong(INDEX, "walk", 0, 2, 2, 3, 1, 0),
        new Wrong(SIZE, "sheet", 0, 0, -1), new Wrong(NULL, "put", 3, 0, 7), new Wrong(INDEX, "put", 1, 2, 7),
        new Wrong(CAST, "copy", 1, 0, 2, 0, 2), new Wrong(NULL, "copy", 3, 0, 1, 0, 1),
        new Wrong(NULL, "copy", 1, 0, 3, 0, 1), new Wrong(INDEX, "copy", 2, 0, 2, 2, 2), new Wrong(CAST, "as", 0, 1),
    };

    /** A town, rows of all lanes and nothing in the last sheet, two readings, a trace, and 3 as the latest fault. */
    private static Run lived() {
        Run x = Run.ofTown(TEXT);
        x.write(1, 1, -300, 300);
        x.write(2, 2, 1, 2, 70000);
        x.due(106, "tell", 2);
        x.due(0, "reading", 0, 0, 1);
        x.due(1, "reading", 1, 2, 0);
        x.dueFault(INDEX, "put", 2, 3, 0);
        return x;
    }

    private static void changesNothing(Run x, Run untouched, Wrong call) {
        x.due(call.answer(), call.name(), call.args());
        List<Long> due = untouched.seen();
        if (!x.seen().equals(due)) Check.wrong(Run.told(call.name(), call.args()) + " changed something");
    }

    private static void unknownChangesNothing() {
        for (Wrong call : UNKNOWNS) changesNothing(lived(), lived(), call);
    }

    private static void outsideChangesNothing() {
        for (Wrong call : OUTSIDES) changesNothing(lived(), lived(), call);
    }

    private static void stateChangesNothing() {
        for (Wrong call : STATES) changesNothing(new Run(), new Run(), call);
    }

    private static void fullChangesNothing() {
        Run[] both = {lived(), lived()};
        for (Run x : both) {
            for (int k = 2; k < 8; k++) x.due(k, "reading", 0, 0, 1);
        }
        changesNothing(both[0], both[1], new Wrong(FULL, "reading", 0, 0, NONE));
    }

    private static void faultsChangeNothing() {
        for (Wrong call : FAULTS) changesNothing(lived(), lived(), call);
    }

    private static void faultOfWhatIsRefused() {
        for (Wrong[] calls : new Wrong[][] {UNKNOWNS, OUTSIDES}) {
            for (Wrong call : calls) {
                if (!call.namesFaults()) continue;
                Run x = lived();
                x.due(3, "fault");
                x.due(call.answer(), call.name(), call.args());
                x.due(0, "fault");
            }
        }
    }

    private static void otherCallsLeaveFault() {
        Run x = lived();
        for (Wrong[] calls : new Wrong[][] {UNKNOWNS, OUTSIDES}) {
            for (Wrong call : calls) {
                if (call.namesFaults()) continue;
                x.due(call.answer(), call.name(), call.args());
                x.due(3, "fault");
            }
        }
        for (String name : ALL_CALLS.split(" ")) {
            if (NAME_FAULTS.contains(" " + name + " ")) continue;
            x.ask(name, new int[Run.argumentsOf(name)]);
            x.due(3, "fault");
        }
    }

    private static void faultOfALatestThatCameToNone() {
        Wrong[] fine = {new Wrong(3, "town", 0, 0, 0, 18), new Wrong(-117, "town", 0, 0, 0, 17),
            new Wrong(-100, "town", 1, 1, 0, 2), new Wrong(1, "walk", 0, 2, 2, 0, 1, 0), new Wrong(1, "sheet", 3, 0, 0),
            new Wrong(1, "put", 2, 0, 5), new Wrong(300, "cell", 1, 1, 1), new Wrong(0, "copy", 1, 0, 1, 0, 0),
            new Wrong(1, "as", 2, 1)};
        for (Wrong call : fine) {
            Run x = lived();
            x.due(3, "fault");
            x.due(call.answer(), call.name(), call.args());
            x.due(0, "fault");
        }
    }

    private static void eachFaultByItsNumber() {
        for (Wrong call : FAULTS) lived().dueFault((int) call.answer(), call.name(), call.args());
        Run x = lived();
        int[][] lost = {{3, 0, 0, 1}, {1, 0, 0, 2}, {1, 2, 1, 3}};
        for (int[] cell : lost) {
            x.due(LOST, "cell", cell[0], cell[1], cell[2]);
            x.due(cell[3], "fault");
            x.due(cell[3], "fault");
        }
    }

    private static void noFaultAtFirst() {
        Run x = new Run();
        x.due(0, "fault");
        x.due(0, "lose", 0);
        x.due(OUTSIDE, "many", 4);
        x.due(0, "fault");
    }

    private static void askingChangesNothing() {
        Run x = lived();
        Run untouched = lived();
        for (int p = 0; p < 3; p++) {
            for (String name : new String[] {"lighter", "ring", "free", "kinds"}) x.ask(name, p);
            for (String name : new String[] {"weight", "debts"}) x.ask(name, p, 0);
            for (int what = 0; what < 5; what++) x.ask("ofPerson", p, what);
            for (int what = 0; what < 3; what++) x.ask("walk", p, 2, 2, 0, 2, what);
            x.ask("later", p, 60);
            x.ask("odds", p, 0, 1);
            x.ask("as", p, 2);
        }
        for (String name : new String[] {"dark", "haste", "bells", "trace", "fault"}) x.ask(name);
        if (!x.seen().equals(untouched.seen())) Check.wrong("something is changed");
    }

    private static void theLastOfAllCalls() {
        Run x = lived();
        int trace = (int) x.ask("trace");
        while (x.callsLeft() > 1) {
            x.due(0, "hail", 0);
            trace = 31 * trace + 4;
        }
        x.due(trace, "trace");
    }

    /** Every call by all numbers of a few that lie at edges; only that an answer comes is looked at. */
    private static void noCallThrows() {
        for (String name : ALL_CALLS.split(" ")) {
            int n = Run.argumentsOf(name);
            int[] edges = n < 5 ? new int[] {LEAST, -10, NONE, -1, 0, 1, 2, 3, 4, 6, 10, 60, 61, MOST}
                : new int[] {LEAST, -1, 0, 1, 3, MOST};
            long all = 1;
            for (int k = 0; k < n; k++) all *= edges.length;
            Run x = new Run();
            for (long code = 0; code < all; code++) {
                if (code % 400 == 0) x = code % 800 == 0 ? lived() : new Run();
                int[] args = new int[n];
                long rest = code;
                for (int k = 0; k < n; k++, rest /= edges.length) args[k] = edges[(int) (rest % edges.length)];
                x.ask(name, args);
            }
        }
    }

    public static void main(String[] args) {
        Check.that("terms", "UNKNOWN changes nothing", RefusalsBoundaryTest::unknownChangesNothing);
        Check.that("terms", "OUTSIDE changes nothing", RefusalsBoundaryTest::outsideChangesNothing);
        Check.that("terms", "STATE changes nothing", RefusalsBoundaryTest::stateChangesNothing);
        Check.that("terms", "FULL changes nothing", RefusalsBoundaryTest::fullChangesNothing);
        Check.that("terms", "a FAULT changes nothing", RefusalsBoundaryTest::faultsChangeNothing);
        Check.that("terms", "but fault(), of a call that names FAULTS", RefusalsBoundaryTest::faultOfWhatIsRefused);
        Check.that("promise 31", "of a call that names one", RefusalsBoundaryTest::otherCallsLeaveFault);
        Check.that("promise 31", "0: it came to none", RefusalsBoundaryTest::faultOfALatestThatCameToNone);
        Check.that("terms", "-10 less it (LOST, where a long is answered)", RefusalsBoundaryTest::eachFaultByItsNumber);
        Check.that("promise 31", "0 ahead of any", RefusalsBoundaryTest::noFaultAtFirst);
        Check.that("promises 3 to 21", "what is asked changes nothing", RefusalsBoundaryTest::askingChangesNothing);
        Check.that("what it is", "at most 512 calls", RefusalsBoundaryTest::theLastOfAllCalls);
        Check.that("language 7", "no call may ever throw", RefusalsBoundaryTest::noCallThrows);
        Check.end();
    }
}
