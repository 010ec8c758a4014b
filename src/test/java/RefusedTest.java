import java.util.ArrayList;
import java.util.LinkedHashMap;
import java.util.List;
import java.util.Map;

/**
 * "Refused, and nothing changes": two objects are brought to one state, one of them is asked what is refused, and then
 * all that can be seen of both is compared: NOW, what can be UNDONE, both IMAGES, THE TEXT, and how it goes on. The
 * same is done with the calls of which the document says "(Nothing is changed.)".
 */
public final class RefusedTest {
    private static final int BAD = Run.BAD, STATE = Run.STATE, FULL = Run.FULL, NO = Run.NO;
    private static final int TOWNS = 3, OATHS = 2;

    private static final String TEXT = "t9 5 1;t7 7 1;t20 9 2;d0 1 2;o0 0 0;o2 1 60;";
    /** 200 letters, the last of them told too: who loses or moves one reads another text. */
    private static final String FULL_TEXT = "t9 3 1;" + " ".repeat(186) + "t8 2 0;";

    /** Refused, one time and more: what grows by a little each time is seen, too. */
    private static final int OFTEN = 3;

    /** A state that an object can be brought to, and how many TOWNS and OATHS there are in it. */
    private record State(String name, int towns, int oaths, String before, String[] calls, String behind) {
        Run reach() {
            Run run = before.isEmpty() ? new Run() : Run.told(before);
            return run.done(calls).letters(behind);
        }

        State typing(String text) {
            return new State(name + " and the text '" + text + "'", towns, oaths, before, calls, text);
        }
    }

    private static final State EMPTY = new State("a new object", 0, 0, "", new String[0], "");
    private static final State TOLD = new State("just told", TOWNS, OATHS, TEXT, new String[0], "");
    private static final State MIDDLE = new State("in the midst", TOWNS, OATHS, TEXT, new String[] {
        "lots(5)", "keep(0)", "trades(0, 1)", "found(0, 1)", "rate(3, 2)", "widens(2, 50)", "undo()", "lots(9999)",
        "keep(1)", "found(2, 2)", "widens(0, 99)", "trades(1, 2)"}, "t5 5");
    private static final State LAST = new State("TERM 60, all full", TOWNS, OATHS, TEXT, lastTerm(), FULL_TEXT);
    private static final State[] STATES = {EMPTY, TOLD, MIDDLE, LAST};

    private static String[] lastTerm() {
        List<String> calls = new ArrayList<>();
        for (int z = 0; z < 60; z++) {
            calls.add("lots(" + (z * 37) + ")");
            if (z == 49) {
                calls.add("keep(1)");
            }
        }
        for (int i = 0; i < 5; i++) {
            calls.add("found(" + i % 3 + ", " + i % 2 + ")");
        }
        calls.add("rate(5, 1)");
        return calls.toArray(new String[0]);
    }

    // ---- all that can be seen

    private static List<String> seenNow() {
        List<String> calls = new ArrayList<>(List.of("home(0)", "home(1)", "hang(-1)", "crossed()", "oaths(0)",
            "oaths(1)", "oaths(2)", "which(0)", "which(1)", "odds(0)", "odds(1)", "trace()"));
        for (int what = 0; what <= 4; what++) {
            calls.add("now(" + what + ")");
            calls.add("count(" + what + ")");
        }
        for (int a = 0; a < TOWNS; a++) {
            calls.add("hang(" + a + ")");
            for (int what = 0; what <= 3; what++) {
                calls.add("town(" + a + ", " + what + ")");
                calls.add("bell(" + a + ", " + what + ")");
            }
            for (int b = 0; b < TOWNS; b++) {
                calls.add("far(" + a + ", " + b + ")");
                calls.add("strokes(" + a + ", " + b + ")");
            }
        }
        for (int i = 0; i < OATHS; i++) {
            for (int what = 0; what <= 3; what++) {
                calls.add("oath(" + i + ", " + what + ")");
            }
        }
        return calls;
    }

    private static List<String> seenUndoing() {
        List<String> calls = new ArrayList<>();
        for (int i = 0; i < 11; i++) {
            calls.addAll(List.of("undo()", "now(0)", "now(1)", "now(2)", "now(4)", "oaths(1)", "oaths(2)"));
            for (int t = 0; t < TOWNS; t++) {
                calls.add("town(" + t + ", 0)");
                calls.add("town(" + t + ", 1)");
            }
        }
        return calls;
    }

    private static List<String> seenBack(int image) {
        List<String> calls = new ArrayList<>(List.of("back(" + image + ")"));
        calls.addAll(seenNow());
        calls.add("undo()");
        return calls;
    }

    private static List<String> seenReading() {
        List<String> calls = new ArrayList<>(List.of("count(4)", "plain()", "clear()"));
        calls.addAll(seenNow());
        calls.addAll(List.of("back(0)", "back(1)", "undo()"));
        return calls;
    }

    private static List<String> seenGoingOn() {
        return List.of("lots(9999)", "now(0)", "now(1)", "now(4)", "trades(0, 1)", "now(1)", "widens(0, 99)", "town(0, 0)",
            "found(0, 0)", "which(0)", "forget()", "keep(0)", "lots(7)", "town(0, 1)", "town(1, 1)", "town(2, 1)",
            "oaths(0)", "strokes(0, 0)", "now(4)", "undo()", "back(0)", "undo()", "rate(3, 0)", "trace()", "type(32)",
            "count(4)", "clear()", "type(116)");
    }

    private static final List<List<String>> WATCHES = List.of(seenNow(), seenUndoing(), seenBack(0), seenBack(1),
        seenReading(), seenGoingOn());

    private static final Map<String, List<Long>> UNTOUCHED = new LinkedHashMap<>();

    private static List<Long> answers(Run run, List<String> calls) {
        List<Long> all = new ArrayList<>();
        for (String call : calls) {
            all.add(run.ask(call));
        }
        return all;
    }

    /** A call in a state, the answer that is due, and that nothing at all has changed behind it. */
    private static void changesNothing(State state, String call, Long want) {
        for (int w = 0; w < WATCHES.size(); w++) {
            List<String> watch = WATCHES.get(w);
            List<Long> untouched = UNTOUCHED.computeIfAbsent(state.name() + w, key -> answers(state.reach(), watch));
            Run run = state.reach();
            for (int i = 0; i < OFTEN; i++) {
                long got = run.ask(call);
                if (want != null && got != want) {
                    Run.complain(state.name() + ": " + call + " answered " + got + ", due is " + want);
                }
            }
            List<Long> then = answers(run, watch);
            for (int i = 0; i < watch.size(); i++) {
                if (!then.get(i).equals(untouched.get(i))) {
                    Run.complain(state.name() + ": behind " + call + ", " + watch.get(i) + " answered " + then.get(i)
                        + ", without it " + untouched.get(i));
                    break;
                }
            }
        }
    }

    private static void refused(State state, String call, long want) {
        changesNothing(state, call, want);
    }

    // ---- BAD: every number of every call, one beyond and far beyond

    /** The least and the greatest of a number; T is the last TOWN, O the last OATH of a state. */
    private static int[] range(String told, State state) {
        String[] ends = told.replace("T", "" + (state.towns() - 1)).replace("O", "" + (state.oaths() - 1)).split("~");
        return new int[] {Integer.parseInt(ends[0]), Integer.parseInt(ends[1])};
    }

    private static String call(String name, int[] numbers) {
        StringBuilder s = new StringBuilder(name).append('(');
        for (int i = 0; i < numbers.length; i++) {
            s.append(i == 0 ? "" : ", ").append(numbers[i]);
        }
        return s.append(')').toString();
    }

    /** Each number of the call in turn is beyond its range, the others are as they may be. */
    private static void badNumbers(String name, long answer, String... ranges) {
        for (State state : STATES) {
            int[] good = new int[ranges.length];
            for (int i = 0; i < ranges.length; i++) {
                good[i] = range(ranges[i], state)[0];
            }
            for (int i = 0; i < ranges.length; i++) {
                int[] ends = range(ranges[i], state);
                for (int n : new int[] {ends[0] - 1, ends[1] + 1, Run.LEAST, Run.GREATEST}) {
                    int[] numbers = good.clone();
                    numbers[i] = n;
                    refused(state, call(name, numbers), answer);
                }
            }
        }
    }

    /** The calls that only tell something: each number at its least and its greatest. */
    private static void goodNumbers(String name, String... ranges) {
        for (State state : STATES) {
            for (int ends = 0; ends < 2; ends++) {
                int[] numbers = new int[ranges.length];
                for (int i = 0; i < ranges.length; i++) {
                    numbers[i] = range(ranges[i], state)[ends];
                }
                changesNothing(state, call(name, numbers), null);
            }
        }
    }

    private static void tells(String name, String... ranges) {
        badNumbers(name, BAD, ranges);
        goodNumbers(name, ranges);
    }

    // ---- STATE, FULL, NO, a FAULT

    private static void fullText() {
        badNumbers("type", BAD, "0~255");
        for (int letter : new int[] {0, 32, ';', 255}) {
            refused(LAST, "type(" + letter + ")", FULL);
        }
        refused(LAST, "type(256)", BAD);
    }

    private static void emptyText() {
        changesNothing(EMPTY, "clear()", 0L);
        changesNothing(TOLD, "clear()", 0L);
    }

    private static void faults() {
        String[] texts = {"x", "t", ";", "t0", "t1 1 1", "t1 1 1;x", "t100", "t1 01", "d0 1 1;", "o0 0 0;", "t1 1 1;d0 0 1;",
            "t9 9 1;t9 9 2;d0 1 3;o0 1 5;t", "t1 1 1;t1 1 1;d0 1 9;o1 1 1;o", "t1 1 1;".repeat(7)};
        int[] places = {0, 1, 0, 1, 6, 7, 1, 3, 1, 1, 10, 29, 29, 42};
        for (int i = 0; i < texts.length; i++) {
            for (State state : new State[] {EMPTY, TOLD, MIDDLE, LAST}) {
                refused(state.typing(texts[i]), "plain()", -10 - places[i]);
            }
        }
        refused(LAST.typing("t9 9 9;" + " ".repeat(193)), "plain()", -15);
        refused(MIDDLE.typing(" ".repeat(199) + "t"), "plain()", -210);
    }

    private static void lots() {
        badNumbers("lots", BAD, "0~9999");
        refused(LAST, "lots(0)", STATE);
        refused(LAST, "lots(9999)", STATE);
        refused(LAST, "lots(10000)", BAD);
    }

    private static void trades() {
        badNumbers("trades", BAD, "0~T", "0~T");
        for (State state : STATES) {
            for (int t = 0; t < TOWNS; t++) {
                refused(state, "trades(" + t + ", " + t + ")", BAD);
            }
            refused(state, "trades(1, 3)", BAD);
            refused(state, "trades(3, 1)", BAD);
        }
    }

    private static void widens() {
        badNumbers("widens", BAD, "0~T", "1~99");
        for (int n = 1; n < 5; n++) {
            refused(TOLD, "widens(0, " + n + ")", STATE);
        }
        refused(TOLD, "widens(1, 6)", STATE);
        refused(TOLD, "widens(2, 8)", STATE);
        for (int t = 0; t < TOWNS; t++) {
            refused(MIDDLE, "widens(" + t + ", 4)", STATE);
            refused(LAST, "widens(" + t + ", 1)", STATE);
        }
    }

    private static void undo() {
        refused(EMPTY, "undo()", STATE);
        refused(TOLD, "undo()", STATE);
        refused(new State("behind back()", TOWNS, OATHS, TEXT, new String[] {"lots(5)", "keep(1)", "lots(6)", "back(1)"},
            ""), "undo()", STATE);
    }

    private static void found() {
        badNumbers("found", BAD, "0~T", "0~T");
        for (int t = 0; t < TOWNS; t++) {
            refused(LAST, "found(" + t + ", " + t + ")", FULL);
        }
        refused(LAST, "found(3, 0)", BAD);
    }

    private static void forget() {
        changesNothing(EMPTY, "forget()", 0L);
        changesNothing(TOLD, "forget()", 0L);
    }

    private static void back() {
        badNumbers("back", BAD, "0~1");
        for (State state : new State[] {EMPTY, TOLD}) {
            refused(state, "back(0)", STATE);
            refused(state, "back(1)", STATE);
        }
        refused(LAST, "back(0)", STATE);
    }

    private static void noNumbers() {
        for (State state : STATES) {
            changesNothing(state, "crossed()", null);
        }
    }

    private static void traceOnly() {
        for (State state : STATES) {
            changesNothing(state, "trace()", null);
        }
    }

    private static void nothingThere() {
        String[] calls = {"town(0, 0)", "bell(0, 0)", "far(0, 0)", "oath(0, 0)", "trades(0, 1)", "widens(0, 1)",
            "inLots(0, 0, 0)", "hang(0)", "strokes(0, 0)", "found(0, 0)"};
        for (String call : calls) {
            refused(EMPTY, call, BAD);
        }
        refused(EMPTY, "rate(0, 0)", NO);
    }

    // ---- all of them

    private static void whatIsDone() {
        Run.sentence(1, "As told; no TOWNS.", RefusedTest::nothingThere);
        Run.sentence(2, "comes to THE TEXT: how many it has. BAD; FULL.", RefusedTest::fullText);
        Run.sentence(3, "THE TEXT is empty: how many letters it had.", RefusedTest::emptyText);
        Run.sentence(4, "-10 less FAULT: nothing changes.", RefusedTest::faults);
        Run.sentence(10, "how many TOWERS were CUT by it. BAD; STATE: it is TERM 60.", RefusedTest::lots);
        Run.sentence(11, "TRADED: how many TOWERS were CUT by it. BAD (alike, too).", RefusedTest::trades);
        Run.sentence(12, "WIDENED: what it bore. BAD; STATE: the BELL in it is heavier.", RefusedTest::widens);
        Run.sentence(13, "UNDONE: how many more may be. STATE: none.", RefusedTest::undo);
        Run.sentence(22, "FOUND: how much there is. BAD; FULL.", RefusedTest::found);
        Run.sentence(23, "Nothing was FOUND: how much there was.", RefusedTest::forget);
        Run.sentence(26, "RATE. NO: BAD.", () -> badNumbers("rate", NO, "0~5", "0~T"));
        Run.sentence(27, "An IMAGE is kept: THE TERM. BAD.", () -> badNumbers("keep", BAD, "0~1"));
        Run.sentence(28, "THE TERM. BAD; STATE: none was kept.", RefusedTest::back);
    }

    private static void whatIsTold() {
        Run.sentence(5, "3 whether it is DUMB. BAD.", () -> tells("town", "0~T", "0~3"));
        Run.sentence(6, "3 FITS (bits). BAD.", () -> tells("bell", "0~T", "0~3"));
        Run.sentence(7, "FAR; NONE. BAD.", () -> tells("far", "0~T", "0~T"));
        Run.sentence(8, "(0 not due yet, 1 KEPT, 2 BROKEN). BAD.", () -> tells("oath", "0~O", "0~3"));
        Run.sentence(9, "4 how many may be UNDONE. BAD.", () -> tells("now", "0~4"));
        Run.sentence(14, "(Nothing is changed.) IN LOTS", () -> tells("inLots", "0~9999", "0~20", "-1~T"));
        Run.sentence(15, "COST; NONE. BAD.", () -> tells("cost", "0~9999"));
        Run.sentence(16, "the first (1; NONE). BAD.", () -> tells("home", "0~1"));
        Run.sentence(17, "the BELL of a TOWN; NONE. BAD.", () -> tells("hang", "-1~T"));
        Run.sentence(18, "ROUND. BAD.", () -> tells("round", "0~9999"));
        Run.sentence(19, "CROSSED; NONE.", RefusedTest::noNumbers);
        Run.sentence(20, "not due yet (what = 0), KEPT (1), BROKEN (2). BAD.", () -> tells("oaths", "0~2"));
        Run.sentence(21, "STROKES. BAD.", () -> tells("strokes", "0~T", "0~T"));
        Run.sentence(24, "the least (1; NONE). BAD.", () -> tells("which", "0~1"));
        Run.sentence(25, "in least terms. BAD.", () -> tells("odds", "0~1"));
        Run.sentence(29, "4 letters of THE TEXT. BAD.", () -> tells("count", "0~4"));
        Run.sentence(30, "`long trace()`: THE TRACE.", RefusedTest::traceOnly);
    }

    public static void main(String[] args) {
        whatIsDone();
        whatIsTold();
        Run.end();
    }
}
