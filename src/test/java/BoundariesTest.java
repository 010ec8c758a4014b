/**
 * For each sentence of the document that names a boundary a test of its own: the least and the greatest that is
 * allowed, the one beyond each, what is empty, what is full. That nothing changes behind a refused call is looked at
 * by RefusedTest.
 */
public final class BoundariesTest {
    private static final int BAD = Run.BAD, STATE = Run.STATE, FULL = Run.FULL, NONE = Run.NONE, NO = Run.NO;
    private static final int LEAST = Run.LEAST, GREATEST = Run.GREATEST;

    private static final String ONE = "t1 1 0;", TWO = ONE + ONE, THREE = TWO + ONE, SIX = THREE + THREE;

    /*
     * LOTS worked out apart from the class. Of three TOWNS, TOWN 0, 1, 2 gets the BELL that hangs in TOWN:
     * by 0, 12: 0 1 2; by 1, 4: 0 2 1; by 3: 1 0 2; by 5, 6, 9999: 2 0 1; by 7: 2 1 0; by 11: 1 2 0.
     * Of two TOWNS: by 0, 9999: 0 1; by 1: 1 0. Of six TOWNS: see draws().
     */
    private static final String STAY = "lots(0)";

    private static Run empty() {
        return new Run();
    }

    private static Run told(String text) {
        return Run.told(text);
    }

    /** The one number of a call, * in it, is taken from least to greatest and refused beyond, however far. */
    private static void allowed(Run x, String call, int least, int greatest, int refused) {
        for (int n : new int[] {least, greatest}) {
            long got = x.ask(call.replace("*", "" + n));
            if (got == refused || got == STATE || got == FULL) {
                Run.complain(call.replace("*", "" + n) + " answered " + got + ", but " + n + " is allowed");
            }
        }
        for (int n : new int[] {least - 1, greatest + 1, LEAST, GREATEST}) {
            x.due(call.replace("*", "" + n), refused);
        }
    }

    private static void fault(String text, int place) {
        empty().letters(text).due("plain()", -10 - place).due("count(4)", text.length());
    }

    private static void items(String text, int items) {
        empty().letters(text).due("plain()", items).due("count(4)", 0);
    }

    private static void bells(Run x, int... bells) {
        for (int t = 0; t < bells.length; t++) {
            x.due("town(" + t + ", 1)", bells[t]);
        }
    }

    // ---- 1: a new object

    private static void newObject() {
        Run x = empty();
        for (int what = 0; what <= 4; what++) {
            x.due("count(" + what + ")", 0).due("now(" + what + ")", 0);
        }
        x.due("trace()", 0).due("undo()", STATE).due("back(0)", STATE).due("back(1)", STATE).due("forget()", 0);
        x.due("clear()", 0).due("crossed()", NONE);
    }

    private static void noTowns() {
        String[] refused = {"town(0, 0)", "bell(0, 0)", "far(0, 0)", "oath(0, 0)", "trades(0, 1)", "widens(0, 1)",
            "inLots(0, 0, 0)", "hang(0)", "strokes(0, 0)", "found(0, 0)"};
        for (String call : refused) {
            empty().due(call, BAD);
        }
        empty().due("rate(0, 0)", NO);
        Run x = empty();
        x.due("inLots(9999, 20, -1)", 0).due("cost(9999)", 0).due("home(0)", 0).due("home(1)", NONE);
        x.due("hang(-1)", 0).due("round(9999)", 1).due("crossed()", NONE).due("oaths(0)", 0).due("oaths(1)", 0);
        x.due("oaths(2)", 0).due("which(0)", 1000).due("which(1)", 0).due("odds(0)", 1).due("odds(1)", 1);
        x.due("keep(0)", 0).due("lots(9999)", 0).due("now(0)", 1).due("now(4)", 1).due("undo()", 0).due("now(0)", 0);
        x.due("lots(0)", 0).due("back(0)", 0).due("now(4)", 0).due("plain()", 0);
    }

    private static void constants() {
        int[] got = {BellLots.BAD, BellLots.STATE, BellLots.FULL, BellLots.NONE, BellLots.NO};
        int[] want = {-1, -2, -3, -9, -1000000};
        if (!java.util.Arrays.equals(got, want)) {
            Run.complain("the constants are " + java.util.Arrays.toString(got));
        }
    }

    private static void lastCall() {
        Run x = told(TWO);
        int used = TWO.length() + 1;
        x.times(Run.MOST_CALLS - used - 1, "rate(5, 1)");
        x.due("trace()", 100001L * (Run.MOST_CALLS - used - 1));
    }

    // ---- 2, 3: letters

    private static void letters() {
        allowed(empty(), "type(*)", 0, 255, BAD);
        empty().due("type(0)", 1).due("type(255)", 2).due("type(0)", 3).due("count(4)", 3);
    }

    private static void fullText() {
        Run x = empty().letters(" ".repeat(199)).due("type(32)", 200).due("type(32)", FULL).due("count(4)", 200);
        x.due("type(32)", FULL).due("clear()", 200).due("type(32)", 1);
        Run told = empty().letters(SIX + " ".repeat(158)).due("type(59)", FULL).due("plain()", 6);
        told.due("type(32)", 1);
    }

    private static void badAheadOfFull() {
        empty().letters(" ".repeat(200)).due("type(256)", BAD).due("type(-1)", BAD).due("type(255)", FULL);
        Run x = told(TWO).times(5, "found(0, 0)");
        x.due("found(2, 0)", BAD).due("found(0, 2)", BAD).due("found(0, -1)", BAD).due("found(0, 0)", FULL);
    }

    private static void badAheadOfState() {
        told("t9 9 0;").due("widens(0, 0)", BAD).due("widens(0, 8)", STATE).due("widens(1, 8)", BAD)
            .due("back(2)", BAD).due("back(-1)", BAD).due("back(1)", STATE);
        told(ONE).times(60, STAY).due("lots(10000)", BAD).due("lots(-1)", BAD).due("lots(9999)", STATE);
    }

    private static void clear() {
        empty().due("clear()", 0).due("clear()", 0);
        empty().letters(" ").due("clear()", 1).due("count(4)", 0).due("clear()", 0);
        empty().letters("x".repeat(200)).due("clear()", 200).due("count(4)", 0).due("type(0)", 1);
        told(SIX).letters("t").due("clear()", 1).due("count(0)", 6).letters(ONE).due("plain()", 1);
    }

    // ---- 4: the text

    private static void emptyText() {
        items("", 0);
        items(" ", 0);
        items(" ".repeat(200), 0);
        items(ONE, 1);
        items(SIX + "d0 1 1;".repeat(16) + "o0 0 0;".repeat(6), 28);
        Run x = told(SIX + "d0 1 1;o0 0 0;").done("lots(0)").due("plain()", 0);
        for (int what = 0; what <= 4; what++) {
            x.due("count(" + what + ")", 0).due("now(" + what + ")", 0);
        }
        x.due("town(0, 0)", BAD).due("oath(0, 0)", BAD).due("trades(0, 1)", BAD);
    }

    private static void faultPlaces() {
        fault(";", 0);
        fault(" ;", 1);
        fault(" ".repeat(199) + ";", 199);
        fault(" ".repeat(199) + "t", 200);
    }

    private static void sixthTown() {
        items(SIX, 6);
        told(SIX).due("count(0)", 6).due("town(5, 1)", 5).due("town(6, 1)", BAD);
        fault(SIX + ONE, 42);
        fault(SIX + "o0 0 0; t", 50);
        told(SIX).letters(SIX).due("plain()", 6);
    }

    private static void towers() {
        items("t1 1 0;", 1);
        items("t99 1 0;", 1);
        fault("t0 1 0;", 1);
        fault("t100 1 0;", 1);
        told("t1 1 0;").due("town(0, 0)", 1);
        told("t99 1 0;").due("town(0, 0)", 99);
        told("t98 99 0;").due("town(0, 0)", 99);
        told("t1 99 0;").due("town(0, 0)", 99).due("now(1)", 0);
        told("t50 50 0;").due("town(0, 0)", 50);
        told("t51 50 0;").due("town(0, 0)", 51);
    }

    private static void weights() {
        told("t50 1 0;").due("bell(0, 0)", 1);
        told("t50 99 0;").due("bell(0, 0)", 99);
        fault("t50 0 0;", 4);
        fault("t50 100 0;", 4);
    }

    private static void notes() {
        told("t50 50 0;").due("bell(0, 1)", 0);
        told("t50 50 6;").due("bell(0, 1)", 6);
        fault("t50 50 7;", 7);
        fault("t50 50 99;", 7);
        fault("t50 50 100;", 7);
    }

    private static void atFirst() {
        Run x = told(SIX).due("now(2)", 63);
        for (int k = 0; k < 6; k++) {
            x.due("town(" + k + ", 1)", k).due("town(" + k + ", 2)", k).due("bell(" + k + ", 2)", k);
        }
    }

    private static void tolls() {
        told(TWO + "d0 1 1;").due("far(0, 1)", 1);
        told(TWO + "d0 1 9;").due("far(0, 1)", 9);
        fault(TWO + "d0 1 0;", 19);
        fault(TWO + "d0 1 10;", 19);
    }

    private static void sixthOath() {
        items(ONE + "o0 0 0;".repeat(6), 7);
        told(ONE + "o0 0 0;".repeat(6)).due("count(2)", 6).due("oath(5, 0)", 0).due("oath(6, 0)", BAD);
        fault(ONE + "o0 0 0;".repeat(7), 49);
        fault(ONE + "o0 0 0;".repeat(6) + ONE + "o", 56);
        told(ONE + "o0 0 0;".repeat(6)).letters(ONE + "o0 0 1;".repeat(6)).due("plain()", 7);
    }

    private static void oathNumbers() {
        told(SIX + "o0 5 0;").due("oath(0, 0)", 0).due("oath(0, 1)", 5).due("oath(0, 2)", 0);
        told(SIX + "o5 0 60;").due("oath(0, 0)", 5).due("oath(0, 1)", 0).due("oath(0, 2)", 60);
        fault(SIX + "o6 0 0;", 43);
        fault(SIX + "o0 6 0;", 45);
        fault(SIX + "o0 0 61;", 47);
        fault(SIX + "o0 0 99;", 47);
    }

    private static void blanks() {
        items("  t   1    1  0   ;  ", 1);
        items("t1 1 0;t1 1 0;d0 1 1;", 3);
        // no blank makes one NUMBER of two, and the next one a WEIGHT of 0; one too many makes two of one
        fault("t11 0;", 4);
        fault("t1 1 1 0;", 7);
        for (int other : new int[] {0, 9, 10, 13, 31, 33, 160, 255}) {
            fault((char) other + "t1 1 0;", 0);
            fault("t1" + (char) other + "1 0;", 2);
            fault("t1 1 0;" + (char) other, 7);
        }
    }

    private static void itemEnds() {
        items(ONE + ONE, 2);
        fault("t1 1 0t1 1 0;", 6);
        fault("t1 1 0 t1 1 0;", 7);
        fault("t1 1 0;;", 7);
        fault("t1 1;", 4);
        fault("t1;", 2);
        fault("t;", 1);
        fault("t1 1 0 1;", 7);
        fault(TWO + "d0 1;", 18);
        fault(TWO + "o0 1 0d", 20);
    }

    private static void roads() {
        told(SIX + "d0 5 1;").due("far(0, 5)", 1).due("far(5, 0)", 1).due("count(1)", 1);
        told(SIX + "d5 0 1;").due("far(0, 5)", 1);
        fault(SIX + "d6 0 1;", 43);
        fault(SIX + "d0 6 1;", 45);
        fault(SIX + "d5 5 1;", 45);
        told(TWO + "d0 1 1;d0 1 9;").due("far(0, 1)", 9).due("count(1)", 1);
        told(TWO + "d0 1 9;d0 1 1;").due("far(0, 1)", 1).due("count(1)", 1);
        told(TWO + "d0 1 1;d1 0 9;").due("far(0, 1)", 9).due("far(1, 0)", 9).due("count(1)", 1);
        told(TWO + "d0 1 5;d0 1 5;").due("far(0, 1)", 5).due("count(1)", 1);
    }

    private static void tokens() {
        items("t1 1 0;t1 1 0;d0 1 1;o0 0 0;", 4);
        for (int letter = 33; letter <= 255; letter++) {
            boolean begins = letter == 't' || letter == 'd' || letter == 'o';
            fault("" + (char) letter, begins ? 1 : 0);
        }
        fault("T1 1 0;", 0);
        fault(TWO + "D0 1 1;", 14);
        fault(TWO + "O0 1 1;", 14);
        fault("t+1 1 0;", 1);
        fault("t-1 1 0;", 1);
        fault("t1,1 0;", 2);
        fault("t1 1 0:", 6);
        fault("td", 1);
        fault("1", 0);
    }

    private static void wrongPlaces() {
        fault(SIX + "  t1 1 0;", 44);
        fault(ONE + "o0 0 0;".repeat(6) + " o0 0 0;", 50);
        fault("d0 1 1;" + TWO, 1);
        fault("o0 0 0;" + ONE, 1);
        fault(ONE + "d0 1 1;" + ONE, 10);
        fault(ONE + "o0 1 1;" + ONE, 10);
        fault(TWO + "d2 0 1;", 15);
        fault(TWO + "d0 2 1;", 17);
        fault(TWO + "d1 1 1;", 17);
        fault(TWO + "d0 0 1;", 17);
        fault("t0 0 7;", 1);
        fault("t1 0 7;", 3);
        fault("t1 1 7;x", 5);
        items(TWO + "o1 1 0;", 3);
    }

    private static void wrongTokens() {
        told("t99 99 0;").due("town(0, 0)", 99);
        fault("t100 1 0;", 1);
        fault("t1 100 0;", 3);
        fault("t 999 1 0;", 2);
        fault("t4294967297 1 0;", 1);
        fault("t18446744073709551617 1 0;", 1);
        fault("t" + "9".repeat(199), 1);
        items("t1 1 0;", 1);
        items("t10 10 0;", 1);
        fault("t01 1 0;", 1);
        fault("t1 01 0;", 3);
        fault("t1 1 00;", 5);
        fault("t1 1 06;", 5);
        fault(ONE + "o00 0 0;", 8);
        fault(ONE + "o0 0 060;", 12);
        fault("t" + "0".repeat(199), 1);
        fault("100", 0);
        fault("t1 1 0;x", 7);
        fault("t1 1 0;" + (char) 255, 7);
    }

    private static void endsTooEarly() {
        String text = "t1 1 0; t99 99 6; d 0 1 9; o 1 0 60;";
        for (int length = 0; length <= text.length(); length++) {
            String part = text.substring(0, length);
            int ended = part.length() - part.replace(";", "").length();
            if (part.isBlank() || part.trim().endsWith(";")) {
                items(part, ended);
            } else {
                fault(part, length);
                fault(part + "   ", length + 3);
            }
        }
        fault(SIX + " ".repeat(151) + "o0 0 60", 200);
        items(SIX + " ".repeat(151) + "o0 0 6;", 7);
    }

    /** Letters of a longer text before, taken away by clear() or read by plain(), are no letters of this one. */
    private static void shorterText() {
        empty().letters("t1 1 0    ").due("clear()", 10).letters("t1 1 0").due("plain()", -16);
        empty().letters("t1 1 0; ;").due("clear()", 9).letters("t1 1 0").due("plain()", -16).due("clear()", 6)
            .letters("t1 1").due("plain()", -14);
        empty().letters("t123").due("clear()", 4).letters("t1").due("plain()", -12).due("clear()", 2);
        empty().letters("      ").due("clear()", 6).letters("t").due("plain()", -11);
        told("t11 11 0;").letters("t1").due("plain()", -12).due("clear()", 2).letters("t1 1 0;").due("plain()", 1);
        told(SIX).due("plain()", 0).due("count(0)", 0);
        empty().letters(SIX).due("clear()", 42).due("plain()", 0).due("count(0)", 0);
        empty().letters("x".repeat(200)).due("clear()", 200).letters(ONE).due("plain()", 1).due("count(4)", 0);
    }

    private static void readAnew() {
        // BELLS 1 2 0: TOWERS 0 and 1 are CUT
        Run x = told("t1 1 0;t2 2 0;t3 3 0;d0 1 1;o0 0 0;").done("keep(0)", "lots(11)", "keep(1)", "widens(2, 50)");
        x.due("now(1)", 2).times(5, "found(0, 0)").done("rate(0, 0)").letters("t9 20 1;t9 8 1;o1 1 0;");
        x.due("plain()", 3);
        x.due("now(0)", 0).due("now(1)", 0).due("now(2)", 3).due("now(4)", 0).due("undo()", STATE);
        x.due("town(0, 0)", 20).due("town(1, 0)", 9).due("count(0)", 2).due("count(1)", 0).due("count(2)", 1);
        x.due("count(3)", 0).due("forget()", 0).due("back(0)", STATE).due("back(1)", STATE).due("far(0, 1)", NONE);
        x.due("oath(0, 0)", 1).due("oath(0, 3)", 0).due("oath(1, 0)", BAD).due("strokes(0, 0)", 0).due("trace()", 1);
        x.due("town(2, 0)", BAD).done("lots(0)").due("oaths(1)", 1).due("strokes(0, 0)", 1).due("now(4)", 1);
    }

    /** Nothing of the texts before is left, be they good or with a FAULT: neither TOWNS nor ROADS nor OATHS. */
    private static void readThrice() {
        String rich = TWO + "d0 1 3;o0 0 0;o1 1 0;";
        Run x = told(rich).letters(TWO).due("plain()", 2).due("count(1)", 0).due("count(2)", 0).due("far(0, 1)", NONE);
        x.letters(TWO).due("plain()", 2).due("count(1)", 0).due("count(2)", 0).due("far(0, 1)", NONE);
        x.letters(rich).due("plain()", 5).due("count(1)", 1).due("count(2)", 2).due("oath(0, 3)", 0);
        Run y = told(TWO).letters(rich + "x").due("plain()", -10 - 35).due("count(1)", 0).due("clear()", 36);
        y.letters(SIX).due("plain()", 6).due("count(0)", 6).due("count(1)", 0).due("count(2)", 0).due("far(0, 1)", NONE);
        y.letters(rich.repeat(2) + "x").due("plain()", -10 - 70).due("clear()", 71).due("count(0)", 6);
        y.letters(ONE + "o0 0 0;".repeat(6)).due("plain()", 7).due("count(0)", 1).due("count(2)", 6);
    }

    /** The TOWNS that were told before and are not any more count nowhere. */
    private static void fewerTowns() {
        Run x = told("t99 99 6;".repeat(6) + "d0 1 1;d1 2 1;d4 5 1;").done("lots(812)");
        for (int again = 0; again < 3; again++) {
            x.letters(TWO).due("plain()", 2).due("count(0)", 2).due("town(2, 0)", BAD).due("bell(2, 0)", BAD);
            x.due("bell(0, 3)", 3).due("now(2)", 3).due("now(3)", 0).due("odds(0)", 1).due("odds(1)", 1);
            x.due("home(0)", 0).due("hang(-1)", 0).due("round(1)", 2).due("cost(1)", NONE).due("inLots(1, 1, 0)", 1);
            x.done("lots(1)").due("now(1)", 0).due("now(2)", 0).due("home(0)", 1).due("home(1)", 1);
        }
    }

    // ---- 5, 6: TOWNS and BELLS

    private static void townNumbers() {
        for (int towns = 1; towns <= 6; towns++) {
            for (int what = 0; what <= 3; what++) {
                allowed(told(ONE.repeat(towns)), "town(*, " + what + ")", 0, towns - 1, BAD);
            }
        }
        allowed(told(SIX), "town(5, *)", 0, 3, BAD);
        Run x = told("t7 1 0;t9 1 1;").done("trades(0, 1)");
        x.due("town(0, 0)", 7).due("town(0, 1)", 1).due("town(0, 2)", 1).due("town(0, 3)", 0);
    }

    private static void dumb() {
        told(ONE).due("now(3)", 0).due("town(0, 3)", 0);
        told(SIX).due("now(3)", 0);
        told(TWO + "d0 1 9;").due("now(3)", 3).due("town(0, 3)", 1).due("town(1, 3)", 1);
        told("t1 1 0;t1 1 6;d0 1 1;").due("now(3)", 0).due("town(0, 3)", 0);
        told("t1 1 6;t1 1 0;t1 1 6;d0 1 1;d1 2 1;").due("now(3)", 0);
        told(SIX + "d0 1 1;d2 3 1;d4 5 1;").due("now(3)", 63).due("town(5, 3)", 1);
        told(SIX + "d0 5 1;").due("now(3)", 33);
        told("t1 1 0;t1 1 6;t1 1 6;d0 1 1;").due("now(3)", 0).done("trades(0, 2)").due("now(3)", 3).done("undo()")
            .due("now(3)", 0);
    }

    private static void bellNumbers() {
        for (int towns = 1; towns <= 6; towns++) {
            for (int what = 0; what <= 3; what++) {
                allowed(told(ONE.repeat(towns)), "bell(*, " + what + ")", 0, towns - 1, BAD);
            }
        }
        allowed(told(SIX), "bell(5, *)", 0, 3, BAD);
        Run x = told("t7 2 3;t9 5 6;").done("trades(0, 1)");
        x.due("bell(0, 0)", 2).due("bell(0, 1)", 3).due("bell(0, 2)", 1).due("bell(0, 3)", 3);
    }

    private static void fits() {
        told("t9 9 0;t8 8 0;t10 1 0;").due("bell(0, 3)", 5).due("bell(1, 3)", 7).due("bell(2, 3)", 7);
        told("t1 99 0;t98 98 0;").due("bell(0, 3)", 1).due("bell(1, 3)", 3).done("widens(1, 99)").due("bell(0, 3)", 3);
        told(SIX).due("bell(0, 3)", 63).due("bell(5, 3)", 63);
        told("t9 9 0;t8 8 0;").done("trades(0, 1)").due("bell(0, 3)", 3).done("widens(0, 8)").due("bell(0, 3)", 2);
    }

    // ---- 7: FAR

    private static void farNumbers() {
        allowed(told(SIX + "d0 1 1;"), "far(*, 5)", 0, 5, BAD);
        allowed(told(SIX + "d0 1 1;"), "far(0, *)", 0, 5, BAD);
        told(ONE).due("far(0, 0)", 0).due("far(0, 1)", BAD).due("far(1, 1)", BAD);
    }

    private static void far() {
        told(TWO).due("far(0, 1)", NONE).due("far(1, 0)", NONE).due("far(0, 0)", 0).due("far(1, 1)", 0);
        told(THREE + "d0 1 9;").due("far(0, 2)", NONE).due("far(2, 1)", NONE).due("far(0, 1)", 9).due("far(2, 2)", 0);
        told(SIX + "d0 1 9;d1 2 9;d2 3 9;d3 4 9;d4 5 9;").due("far(0, 5)", 45).due("far(5, 0)", 45);
        told(THREE + "d0 1 1;d0 2 1;").due("far(1, 2)", 2).due("far(2, 1)", 2);
        told(THREE + "d0 1 9;d0 2 9;d1 2 9;").due("far(1, 2)", 9);
        told(SIX + "d5 0 9;d0 1 1;d1 2 1;d2 3 1;d3 4 1;d4 5 1;").due("far(0, 5)", 5);
        told(SIX + "d5 0 5;d0 1 1;d1 2 1;d2 3 1;d3 4 1;d4 5 1;").due("far(5, 0)", 5);
        told(SIX + "d5 0 4;d0 1 1;d1 2 1;d2 3 1;d3 4 1;d4 5 1;").due("far(5, 0)", 4);
    }

    // ---- 8, 20: OATHS

    private static void oathOf() {
        told(SIX).due("oath(0, 0)", BAD).due("count(2)", 0);
        for (int oaths = 1; oaths <= 6; oaths++) {
            for (int what = 0; what <= 3; what++) {
                allowed(told(ONE + "o0 0 0;".repeat(oaths)), "oath(*, " + what + ")", 0, oaths - 1, BAD);
            }
        }
        allowed(told(ONE + "o0 0 0;"), "oath(0, *)", 0, 3, BAD);
    }

    private static void oathsDue() {
        told(TWO + "o0 0 0;o0 1 0;").due("oath(0, 3)", 0).due("oath(1, 3)", 0).done("trades(0, 1)", "trades(0, 1)")
            .due("oath(0, 3)", 0).done("lots(1)").due("oath(0, 3)", 1).due("oath(1, 3)", 2).done("undo()")
            .due("oath(0, 3)", 0).due("oath(1, 3)", 0);
        told(TWO + "o0 0 1;o0 1 1;").done("lots(1)").due("oath(0, 3)", 0).due("oath(1, 3)", 0).done("lots(1)")
            .due("oath(0, 3)", 2).due("oath(1, 3)", 1).done("lots(1)").due("oath(0, 3)", 2).due("oath(1, 3)", 1);
        told(ONE + "o0 0 59;o0 0 60;").times(59, STAY).due("oath(0, 3)", 0).due("now(0)", 59).done(STAY)
            .due("oath(0, 3)", 1).due("oath(1, 3)", 0).due("lots(0)", STATE).due("oath(1, 3)", 0);
    }

    private static void oathsOf() {
        allowed(told(ONE + "o0 0 0;"), "oaths(*)", 0, 2, BAD);
        told(SIX).due("oaths(0)", 0).due("oaths(1)", 0).due("oaths(2)", 0).done(STAY).due("oaths(0)", 0);
        told(ONE + "o0 0 0;".repeat(6)).due("oaths(0)", 6).done(STAY).due("oaths(1)", 6).due("oaths(0)", 0);
        told(TWO + "o0 1 0;".repeat(6)).due("oaths(2)", 0).done(STAY).due("oaths(2)", 6).due("oaths(1)", 0);
    }

    // ---- 9: NOW

    private static void nowNumbers() {
        allowed(empty(), "now(*)", 0, 4, BAD);
        allowed(told(SIX), "now(*)", 0, 4, BAD);
        told(SIX).due("now(2)", 63).done("trades(0, 5)").due("now(2)", 30).due("now(4)", 1);
    }

    // ---- 10: LOTS

    private static void terms() {
        Run x = told(ONE).due("now(0)", 0);
        for (int term = 1; term <= 60; term++) {
            x.due("lots(0)", 0).due("now(0)", term);
        }
        x.due("lots(0)", STATE).due("lots(9999)", STATE).due("now(0)", 60);
        x.due("keep(0)", 60).due("undo()", 9).due("now(0)", 59).due("lots(0)", 0).due("lots(0)", STATE);
        x.done("undo()").due("back(0)", 60).due("lots(0)", STATE);
        empty().times(60, "lots(9999)").due("lots(9999)", STATE).due("now(0)", 60);
    }

    private static void lotNumbers() {
        allowed(told(SIX), "lots(*)", 0, 9999, BAD);
        allowed(empty(), "lots(*)", 0, 9999, BAD);
        told(SIX).due("lots(-1)", BAD).due("lots(10000)", BAD).due("now(0)", 0).due("now(4)", 0);
    }

    private static void draws() {
        int[][] sixes = {{0, 0, 3, 5, 4, 1, 2}, {1, 3, 1, 5, 0, 2, 4}, {513, 0, 1, 2, 3, 4, 5}, {812, 1, 2, 3, 4, 5, 0},
            {9998, 2, 4, 5, 0, 1, 3}, {9999, 2, 4, 5, 1, 3, 0}};
        for (int[] row : sixes) {
            Run x = told(SIX).done("lots(" + row[0] + ")");
            bells(x, java.util.Arrays.copyOfRange(row, 1, 7));
        }
        bells(told(ONE).done("lots(0)"), 0);
        bells(told(ONE).done("lots(9999)"), 0);
        bells(told(TWO).done("lots(0)"), 0, 1);
        bells(told(TWO).done("lots(1)"), 1, 0);
        bells(told(TWO).done("lots(9999)"), 0, 1);
        bells(told(THREE).done("lots(5)"), 2, 0, 1);
        bells(told(THREE).done("lots(11)"), 1, 2, 0);
        bells(told(THREE).done("lots(9999)"), 2, 0, 1);
    }

    private static void allAtOnce() {
        bells(told(THREE).done("lots(5)", "lots(5)"), 1, 2, 0);
        bells(told(THREE).done("trades(0, 1)", "lots(5)"), 2, 1, 0);
        bells(told(SIX).done("lots(812)", "lots(812)"), 2, 3, 4, 5, 0, 1);
    }

    private static void cutByLots() {
        told("t9 8 0;t9 9 0;").due("lots(1)", 0).due("now(1)", 0).due("town(0, 0)", 9);
        told("t8 8 0;t9 9 0;").due("lots(1)", 1).due("now(1)", 1).due("town(0, 0)", 9).due("town(1, 0)", 9)
            .due("lots(1)", 0).due("lots(1)", 0).due("now(1)", 1).due("town(0, 0)", 9);
        told("t1 1 0;t99 99 0;").due("lots(1)", 1).due("town(0, 0)", 99).due("now(1)", 1);
        // BELLS 1 2 0: TOWERS 0 and 2 are CUT; then BELLS 2 0 1: TOWER 2 once more
        told("t98 98 0;t99 99 0;t97 97 0;").due("lots(0)", 0).due("lots(11)", 2).due("now(1)", 2)
            .due("town(0, 0)", 99).due("town(2, 0)", 98).due("lots(11)", 1).due("now(1)", 3).due("town(2, 0)", 99)
            .due("town(1, 0)", 99).due("lots(11)", 0).due("now(1)", 3);
        told("t1 1 0;t2 2 0;t3 3 0;t4 4 0;t5 5 0;t6 6 0;").due("lots(812)", 5).due("now(1)", 5).due("town(5, 0)", 6);
    }

    // ---- 11: TRADES

    private static void tradeNumbers() {
        allowed(told(SIX), "trades(*, 1)", 0, 5, BAD);
        allowed(told(SIX), "trades(1, *)", 0, 5, BAD);
        Run x = told(SIX);
        for (int t = 0; t < 6; t++) {
            x.due("trades(" + t + ", " + t + ")", BAD);
        }
        x.due("trades(6, 6)", BAD).due("trades(-1, -1)", BAD).due("now(4)", 0).due("trades(5, 0)", 0).due("now(4)", 1);
        told(ONE).due("trades(0, 0)", BAD).due("trades(0, 1)", BAD).due("trades(1, 0)", BAD);
    }

    private static void traded() {
        told("t9 8 0;t9 9 0;").due("trades(0, 1)", 0).due("now(1)", 0).due("now(0)", 0);
        told("t8 8 0;t9 9 0;").due("trades(0, 1)", 1).due("now(1)", 1).due("town(0, 0)", 9).due("trades(0, 1)", 0);
        told("t1 1 0;t99 99 0;").due("trades(1, 0)", 1).due("town(0, 0)", 99).due("town(1, 0)", 99);
        Run last = told("t8 8 0;t9 9 0;").times(60, STAY).due("trades(0, 1)", 1).due("now(0)", 60).due("now(1)", 1);
        bells(last, 1, 0);
    }

    // ---- 12: WIDENED

    private static void widenNumbers() {
        allowed(told(SIX), "widens(*, 50)", 0, 5, BAD);
        allowed(told(SIX), "widens(5, *)", 1, 99, BAD);
        told(ONE).due("widens(0, 1)", 1).due("widens(0, 99)", 1).due("widens(0, 1)", 99).due("town(0, 0)", 1);
    }

    private static void widened() {
        told("t50 20 0;").due("widens(0, 20)", 50).due("widens(0, 19)", STATE).due("town(0, 0)", 20)
            .due("widens(0, 1)", STATE).due("widens(0, 21)", 20).due("now(4)", 2).due("now(1)", 0);
        told("t99 99 0;").due("widens(0, 98)", STATE).due("widens(0, 99)", 99).due("widens(0, 100)", BAD);
        told("t9 9 0;t8 8 0;").done("trades(0, 1)").due("widens(0, 8)", 9).due("widens(1, 8)", STATE)
            .due("widens(1, 9)", 9).due("widens(0, 7)", STATE);
        told(ONE).times(60, STAY).due("widens(0, 99)", 1);
    }

    // ---- 13: UNDONE

    private static void noUndo() {
        empty().due("undo()", STATE).due("now(4)", 0);
        told(SIX).due("undo()", STATE).done("lots(0)").due("undo()", 0).due("undo()", STATE).due("undo()", STATE);
        told(ONE).done("found(0, 0)", "keep(0)", "rate(0, 0)", "type(32)", "which(0)", "forget()").due("undo()", STATE);
        told("t9 9 0;").due("lots(-1)", BAD).due("widens(0, 8)", STATE).due("trades(0, 0)", BAD).due("undo()", STATE);
    }

    private static void eleventhUndo() {
        Run ten = told(ONE);
        for (int n = 1; n <= 10; n++) {
            ten.due("widens(0, " + (10 + n) + ")", n == 1 ? 1 : 9 + n).due("now(4)", n);
        }
        for (int n = 9; n >= 0; n--) {
            ten.due("undo()", n).due("town(0, 0)", n == 0 ? 1 : 10 + n);
        }
        ten.due("undo()", STATE).due("town(0, 0)", 1);
        Run eleven = told(ONE);
        for (int n = 1; n <= 11; n++) {
            eleven.done("widens(0, " + (10 + n) + ")");
        }
        eleven.due("now(4)", 10);
        for (int n = 9; n >= 0; n--) {
            eleven.due("undo()", n).due("town(0, 0)", 11 + n);
        }
        eleven.due("undo()", STATE).due("town(0, 0)", 11).due("now(4)", 0);
        told(ONE).times(60, STAY).due("now(4)", 10).times(10, "undo()").due("undo()", STATE).due("now(0)", 50);
    }

    private static void latestUndone() {
        Run x = told("t8 8 0;t9 9 0;o0 0 0;").done("lots(1)", "trades(0, 1)", "widens(0, 50)");
        x.due("undo()", 2).due("town(0, 0)", 9).due("undo()", 1).due("town(0, 1)", 1).due("now(0)", 1);
        x.due("undo()", 0).due("town(0, 0)", 8).due("now(0)", 0).due("now(1)", 0).due("oath(0, 3)", 0);
        x.due("strokes(0, 0)", 0).due("lots(1)", 1).due("undo()", 0).due("undo()", STATE);
        told(TWO).times(10, "lots(1)").times(3, "undo()").times(4, "trades(0, 1)").due("now(4)", 10)
            .times(10, "undo()").due("undo()", STATE).due("now(0)", 1);
    }

    // ---- 14: IN LOTS

    private static void inLotsNumbers() {
        for (int t : new int[] {-1, 0, 5}) {
            allowed(told(SIX), "inLots(*, 20, " + t + ")", 0, 9999, BAD);
            allowed(told(SIX), "inLots(9999, *, " + t + ")", 0, 20, BAD);
        }
        allowed(told(SIX), "inLots(9999, 20, *)", -1, 5, BAD);
        allowed(told(SIX), "inLots(0, 0, *)", -1, 5, BAD);
        allowed(empty(), "inLots(0, 20, *)", -1, -1, BAD);
        told(ONE).times(60, STAY).due("inLots(9999, 20, 0)", 0).due("inLots(9999, 20, -1)", 0);
    }

    private static void noLots() {
        Run x = told("t1 1 0;t2 2 0;t3 3 0;").done("trades(0, 2)").due("inLots(5, 0, -1)", 0);
        x.due("inLots(9999, 0, 0)", 2).due("inLots(0, 0, 1)", 1).due("inLots(0, 0, 2)", 0);
    }

    private static void onFromZero() {
        // one by one, the numbers told out: what lots() does is looked at above
        String towns = "t1 1 0;t2 2 0;t3 3 0;t4 4 0;t5 5 0;t6 6 0;";
        for (int z : new int[] {9979, 9980, 9981, 9990, 9998, 9999}) {
            for (int k : new int[] {1, 2, 3, 19, 20}) {
                Run done = told(towns);
                for (int i = 0; i < k; i++) {
                    int next = z + i > 9999 ? z + i - 10000 : z + i;
                    done.done("lots(" + next + ")");
                }
                Run asked = told(towns).due("inLots(" + z + ", " + k + ", -1)", done.ask("now(1)"));
                for (int t = 0; t < 6; t++) {
                    asked.due("inLots(" + z + ", " + k + ", " + t + ")", done.ask("town(" + t + ", 1)"));
                }
            }
        }
        // by 9999: 2 0 1; then by 0: all stay; then by 1: 0 2 1
        told(THREE).due("inLots(9999, 1, 0)", 2).due("inLots(9999, 2, 0)", 2).due("inLots(9999, 2, 1)", 0)
            .due("inLots(9999, 3, 1)", 1).due("inLots(9999, 3, 2)", 0);
    }

    private static void cutInLots() {
        // by 11 and 12: BELLS 1 2 0, and all stay
        told("t1 1 0;t2 2 0;t3 3 0;").due("inLots(11, 0, -1)", 0).due("inLots(11, 1, -1)", 2).due("inLots(11, 2, -1)", 2);
        told("t2 1 0;t3 2 0;t3 3 0;").due("inLots(11, 1, -1)", 0);
        // what was CUT before is not counted
        told("t1 1 0;t2 2 0;t3 3 0;").done("lots(11)").due("now(1)", 2).due("inLots(5, 0, -1)", 0);
        // by 5: BELLS 2 0 1, TOWER 0 is CUT; by 6: BELLS 1 2 0, TOWER 1 is
        told("t1 1 0;t2 2 0;t3 3 0;").due("inLots(5, 1, -1)", 1).due("inLots(5, 2, -1)", 2);
        // by 3: BELLS 1 0 2, TOWER 0 is CUT; by 4: BELLS 1 2 0, TOWER 1 is; by 5: BELLS 0 1 2, none
        told("t1 1 0;t2 2 0;t3 3 0;").due("inLots(3, 1, -1)", 1).due("inLots(3, 2, -1)", 2).due("inLots(3, 3, -1)", 2);
        // one TOWER twice counts twice: TOWN 1 gets BELL 0 by 3, which CUTS it to 2, then BELL 2 by 4, to 3
        told("t2 2 0;t1 1 0;t3 3 0;").due("inLots(3, 1, -1)", 1).due("inLots(3, 2, -1)", 2);
    }

    // ---- 15: COST

    private static void costNumbers() {
        allowed(told(ONE), "cost(*)", 0, 9999, BAD);
        allowed(empty(), "cost(*)", 0, 9999, BAD);
    }

    private static void cost() {
        told(TWO).due("cost(0)", 0).due("cost(1)", NONE);
        told("t99 99 0;t99 99 0;d0 1 9;").due("cost(0)", 0).due("cost(1)", 2 * 99 * 9);
        told("t1 1 0;t1 1 0;d0 1 1;").due("cost(1)", 2);
        // TOWN 2 has no ROAD: by 3 its BELL stays, by 1 and 5 it goes
        told(THREE + "d0 1 4;").due("cost(3)", 8).due("cost(1)", NONE).due("cost(5)", NONE).due("cost(0)", 0);
        // the ring of six: 99 times (9 for five of them, 45 for the sixth)
        told("t99 99 0;".repeat(6) + "d0 1 9;d1 2 9;d2 3 9;d3 4 9;d4 5 9;").due("cost(812)", 99 * (5 * 9 + 45));
        told("t1 1 0;t1 2 0;t1 4 0;d0 1 1;d1 2 1;").done("trades(0, 2)").due("cost(3)", 4 + 2).due("cost(7)", 8 + 2);
        told(TWO + "d0 1 1;").times(60, STAY).due("cost(1)", 2);
    }

    // ---- 16: TRADES HOME

    private static void homeNumbers() {
        allowed(told(SIX), "home(*)", 0, 1, BAD);
        allowed(empty(), "home(*)", 0, 1, BAD);
    }

    private static void home() {
        told(SIX).due("home(0)", 0).due("home(1)", NONE);
        told(ONE).due("home(0)", 0).due("home(1)", NONE);
        told(SIX).done("trades(0, 5)").due("home(0)", 1).due("home(1)", 5);
        told(SIX).done("trades(5, 4)").due("home(0)", 1).due("home(1)", 45);
        // the ring of six: BELL 0 hangs in TOWN 5
        Run ring = told(SIX).done("lots(812)").due("home(0)", 5).due("home(1)", 5);
        ring.done("trades(0, 5)").due("home(0)", 4).due("home(1)", 15);
        told(SIX).done("trades(0, 1)", "trades(2, 3)", "trades(4, 5)").due("home(0)", 3).due("home(1)", 1);
        // rings by 31: of three and of two; by 77: of five
        told(SIX).done("lots(31)").due("home(0)", 3).due("home(1)", 2);
        told(SIX).done("lots(77)").due("home(0)", 4).due("home(1)", 4);
        told(SIX).done("trades(0, 2)", "trades(1, 3)").due("home(0)", 2).due("home(1)", 2);
        told(SIX).done("trades(0, 2)", "trades(2, 4)").due("home(0)", 2).due("home(1)", 4);
        told(SIX).done("trades(1, 3)", "trades(3, 5)", "trades(0, 2)").due("home(0)", 3).due("home(1)", 2);
        told(SIX).done("trades(0, 1)", "undo()").due("home(0)", 0).due("home(1)", NONE);
    }

    // ---- 17: HANG

    private static void hangNumbers() {
        allowed(told(SIX), "hang(*)", -1, 5, BAD);
        allowed(told(ONE), "hang(*)", -1, 0, BAD);
        allowed(empty(), "hang(*)", -1, -1, BAD);
    }

    private static void hang() {
        told(SIX).due("hang(-1)", 0).due("hang(0)", 0).due("hang(5)", 5);
        told("t99 99 0;t99 99 0;d0 1 1;").due("hang(-1)", 0).due("hang(0)", 0).done("trades(0, 1)").due("hang(-1)", 0)
            .due("hang(0)", 1).due("hang(1)", 0);
        told("t8 8 0;t9 9 0;d0 1 1;").done("lots(1)").due("hang(-1)", 0).due("hang(0)", 1).due("hang(1)", 0)
            .done("widens(1, 8)").due("hang(-1)", 0).due("hang(0)", 1);
        told("t1 1 0;t9 9 0;").done("trades(0, 1)").due("hang(-1)", 0).due("hang(0)", 1).due("hang(1)", 0);
    }

    // ---- 18: ROUND

    private static void roundNumbers() {
        allowed(told(SIX), "round(*)", 0, 9999, BAD);
        allowed(empty(), "round(*)", 0, 9999, BAD);
    }

    private static void round() {
        told(ONE).due("round(0)", 1).due("round(9999)", 1);
        told(TWO).due("round(0)", 1).due("round(1)", 2);
        told(THREE).due("round(0)", 1).due("round(3)", 2).due("round(5)", 3).due("round(11)", 3).due("round(7)", 2);
        // by 513 all stay, by 812 a ring of six, by 31 rings of three and two, by 77 one of five
        told(SIX).due("round(513)", 1).due("round(812)", 6).due("round(31)", 6).due("round(77)", 5);
        told(SIX).done("trades(0, 5)").times(60, "lots(3)").due("round(513)", 1).due("round(812)", 6);
    }

    // ---- 19: CROSSED

    private static void crossed() {
        told(SIX).due("crossed()", NONE);
        told(THREE + "o0 0 0;").due("crossed()", NONE);
        told(THREE + "o0 0 0;o0 0 0;").due("crossed()", NONE);
        told(THREE + "o0 0 0;o0 1 0;").due("crossed()", 1);
        told(THREE + "o0 0 60;o1 0 60;").due("crossed()", 1);
        told(THREE + "o0 0 0;o0 1 1;").due("crossed()", NONE);
        told(THREE + "o0 0 59;o1 0 60;").due("crossed()", NONE);
        told(THREE + "o0 1 0;o1 0 0;").due("crossed()", NONE);
        told(THREE + "o0 0 0;o0 0 1;o0 0 2;o0 0 3;o0 0 4;o0 1 4;").due("crossed()", 45);
        told(THREE + "o0 0 0;o0 0 1;o0 0 2;o0 0 3;o1 0 3;o0 1 0;").due("crossed()", 5);
        told(THREE + "o0 0 0;o1 1 0;o1 2 0;o2 0 0;").due("crossed()", 3);
    }

    // ---- 21: STROKES

    private static void strokeNumbers() {
        allowed(told(SIX), "strokes(*, 5)", 0, 5, BAD);
        allowed(told(SIX), "strokes(5, *)", 0, 5, BAD);
        told(ONE).due("strokes(0, 0)", 0).due("strokes(0, 1)", BAD).due("strokes(1, 0)", BAD);
    }

    private static void strokes() {
        Run x = told(TWO).due("strokes(0, 0)", 0).done("trades(0, 1)", "trades(0, 1)").due("strokes(0, 0)", 0);
        x.done("lots(1)").due("strokes(0, 0)", 1).due("strokes(0, 1)", 0).due("strokes(1, 1)", 1);
        x.done("trades(0, 1)", "lots(1)").due("strokes(0, 0)", 2).due("strokes(0, 1)", 0).due("strokes(1, 0)", 0);
        x.done("lots(0)").due("strokes(0, 1)", 1).due("strokes(1, 0)", 1);
        Run last = told(ONE).times(60, STAY).due("strokes(0, 0)", 60).due("lots(0)", STATE).due("strokes(0, 0)", 60);
        last.done("undo()").due("strokes(0, 0)", 59);
        // of each BELL in each TOWN, the last ones too, and undone with the rest; by 513 all stay
        allStrokes(told(SIX).done("lots(513)", "lots(513)"), 2);
        allStrokes(told(SIX).done("lots(513)", "lots(513)", "undo()"), 1);
        allStrokes(told(SIX).done("lots(513)", "keep(0)", "lots(513)", "lots(812)", "back(0)"), 1);
        allStrokes(told(SIX).times(60, "lots(513)"), 60);
    }

    private static void allStrokes(Run x, int atHome) {
        for (int b = 0; b < 6; b++) {
            for (int t = 0; t < 6; t++) {
                x.due("strokes(" + b + ", " + t + ")", b == t ? atHome : 0);
            }
        }
    }

    // ---- 22 .. 25: what was FOUND, odds

    private static void foundNumbers() {
        allowed(told(SIX), "found(*, 5)", 0, 5, BAD);
        allowed(told(SIX), "found(5, *)", 0, 5, BAD);
        told(SIX).due("found(6, 0)", BAD).due("found(0, 6)", BAD).due("count(3)", 0);
    }

    private static void sixthFound() {
        Run x = told(SIX).due("count(3)", 0);
        for (int n = 1; n <= 5; n++) {
            x.due("found(" + n + ", " + n + ")", n).due("count(3)", n);
        }
        x.due("found(0, 0)", FULL).due("found(1, 1)", FULL).due("count(3)", 5).due("forget()", 5).due("found(0, 0)", 1);
        // the fifth counts: by 0 BELLS 0 3 5 4 1 2 come, by 0 and 141 alone
        Run five = told(SIX).done("found(0, 0)", "found(3, 1)", "found(5, 2)", "found(4, 3)", "found(1, 4)");
        five.due("which(0)", 2).due("which(1)", 0).due("found(0, 5)", FULL).due("which(0)", 2);
        told(SIX).times(4, "found(0, 0)").done("found(1, 0)").due("which(0)", 0);
    }

    private static void forgotten() {
        empty().due("forget()", 0);
        told(TWO).due("forget()", 0).done("found(0, 0)").due("forget()", 1).due("count(3)", 0).due("forget()", 0);
        told(TWO).times(5, "found(0, 1)").due("forget()", 5).due("which(0)", 1000).due("found(0, 0)", 1);
    }

    private static void whichNumbers() {
        allowed(told(TWO), "which(*)", 0, 1, BAD);
        allowed(empty(), "which(*)", 0, 1, BAD);
    }

    private static void which() {
        told(SIX).due("which(0)", 1000).due("which(1)", 0);
        told(ONE).done("found(0, 0)").due("which(0)", 1000).due("which(1)", 0);
        // BELLS 0 3 1 2 4 5 come by 751 and by 999; BELLS 1 3 0 4 2 5 by 295, 878, 923 and then by 1000
        Run last = told(SIX).done("found(0, 0)", "found(3, 1)", "found(1, 2)", "found(2, 3)", "found(4, 4)");
        last.due("which(0)", 2).due("which(1)", 751);
        Run beyond = told(SIX).done("found(1, 0)", "found(3, 1)", "found(0, 2)", "found(4, 3)", "found(2, 4)");
        beyond.due("which(0)", 3).due("which(1)", 295);
        // BELLS 1 0 2 4 5 3 come by 964 at first
        Run late = told(SIX).done("found(1, 0)", "found(0, 1)", "found(2, 2)", "found(4, 3)", "found(5, 4)");
        late.due("which(1)", 964);
        told(TWO).done("found(0, 0)", "found(0, 1)").due("which(0)", 0).due("which(1)", NONE);
        told(TWO).done("found(0, 0)", "found(1, 0)").due("which(0)", 0).due("which(1)", NONE);
        told(TWO).done("found(0, 1)").due("which(1)", 1).times(60, STAY).due("which(1)", 1);
        told(TWO).done("found(0, 1)", "trades(0, 1)").due("which(1)", 0);
    }

    private static void oddsNumbers() {
        allowed(told(TWO), "odds(*)", 0, 1, BAD);
        allowed(empty(), "odds(*)", 0, 1, BAD);
    }

    private static void odds() {
        told(ONE).due("odds(0)", 1).due("odds(1)", 1);
        told(SIX).due("odds(0)", 1).due("odds(1)", 1);
        told("t8 8 0;t9 9 0;").due("odds(0)", 1).due("odds(1)", 2);
        told("t9 8 0;t9 9 0;").due("odds(0)", 1).due("odds(1)", 1);
        told("t1 1 0;t2 2 0;t3 3 0;t4 4 0;t5 5 0;t6 6 0;").due("odds(0)", 1).due("odds(1)", 720);
        told("t98 98 0;t99 99 0;t99 99 0;").due("odds(0)", 1).due("odds(1)", 3);
        told("t9 9 0;t9 1 0;t3 3 0;").due("odds(0)", 2).due("odds(1)", 3);
        // of 720 ways the heaviest has five TOWNS: 600, that is 5 of 6
        told("t9 9 0;".repeat(5).replace("t9 9", "t9 1").replaceFirst("t9 1", "t9 9") + "t8 8 0;")
            .due("odds(0)", 5).due("odds(1)", 6);
    }

    // ---- 26, 30: KINDS

    private static void rateNumbers() {
        allowed(told(SIX), "rate(*, 5)", 0, 5, NO);
        allowed(told(SIX), "rate(5, *)", 0, 5, NO);
        told(ONE).due("rate(6, 1)", NO).due("rate(-1, -1)", NO).due("trace()", 0);
    }

    private static void rates() {
        told("t1 1 0;").due("rate(0, 0)", 1).due("rate(1, 0)", 1).due("rate(2, 0)", 0).due("rate(3, 0)", 2)
            .due("rate(4, 0)", 0).due("rate(5, 0)", 1);
        told("t99 1 6;").due("rate(1, 0)", 7).due("rate(2, 0)", -98).due("rate(3, 0)", 14).due("rate(4, 0)", -98);
        told("t99 99 6;").due("rate(0, 0)", 99).due("rate(1, 0)", 105).due("rate(2, 0)", 0).due("rate(3, 0)", 210);
        // what is below 0 may look like BAD, STATE, FULL or NONE: it is a rate
        told("t2 1 0;t3 1 0;t4 1 0;t10 1 0;").due("rate(2, 0)", -1).due("rate(2, 1)", -2).due("rate(2, 2)", -3)
            .due("rate(2, 3)", -9);
        told("t9 1 0;".repeat(6)).due("rate(4, 5)", -3).due("rate(4, 0)", -8);
        told("t9 9 0;").times(60, STAY).due("rate(5, 0)", 69);
        told("t9 1 0;t50 2 0;").done("trades(0, 1)").due("rate(2, 0)", -49).due("rate(2, 1)", -7);
    }

    private static void traces() {
        told(ONE).due("trace()", 0).done("rate(0, 0)").due("trace()", 1).done("rate(1, 0)").due("trace()", 12)
            .done("rate(2, 0)").due("trace()", 113).done("rate(3, 0)").due("trace()", 1124)
            .done("rate(4, 0)").due("trace()", 11225).done("rate(5, 0)").due("trace()", 111226);
        told(ONE).due("rate(6, 0)", NO).due("rate(-1, 0)", NO).due("rate(0, 1)", NO).due("rate(3, -1)", NO)
            .due("trace()", 0);
        told(ONE).done("rate(3, 0)", "lots(0)", "undo()", "keep(0)", "back(0)", "plain()").due("trace()", 1011);
    }

    // ---- 27, 28: IMAGES

    private static void imageNumbers() {
        allowed(told(ONE), "keep(*)", 0, 1, BAD);
        allowed(empty(), "keep(*)", 0, 1, BAD);
        allowed(told(ONE).done("keep(0)", "keep(1)"), "back(*)", 0, 1, BAD);
    }

    private static void noImage() {
        empty().due("back(0)", STATE).due("back(1)", STATE);
        told(ONE).done("keep(0)").due("back(1)", STATE).due("back(0)", 0).due("back(0)", 0).due("back(1)", STATE);
        told(ONE).done("keep(1)").due("back(0)", STATE).due("back(1)", 0);
        told(ONE).done("keep(0)", "keep(1)", "plain()").due("back(0)", STATE).due("back(1)", STATE);
        told(ONE).done("keep(0)").letters("x").due("plain()", -10).due("back(0)", 0).due("back(1)", STATE);
    }

    private static void images() {
        told(ONE).due("keep(0)", 0).times(60, STAY).due("keep(1)", 60).due("back(0)", 0).due("back(1)", 60)
            .due("lots(0)", STATE).due("back(0)", 0).due("lots(0)", 0);
        Run x = told("t8 8 0;t9 9 0;o0 0 0;").done("keep(0)", "lots(1)").due("keep(1)", 1);
        x.due("back(0)", 0).due("now(1)", 0).due("town(0, 0)", 8).due("town(0, 1)", 0).due("oath(0, 3)", 0);
        x.due("strokes(0, 0)", 0).due("back(1)", 1).due("now(1)", 1).due("town(0, 0)", 9).due("town(0, 1)", 1);
        x.due("oath(0, 3)", 1).due("strokes(0, 0)", 1).due("keep(0)", 1).done("lots(1)").due("back(0)", 1);
    }

    private static void nothingElseKept() {
        Run x = told(TWO).done("keep(0)", "found(0, 0)", "rate(0, 0)", "lots(1)", "type(32)").due("back(0)", 0);
        x.due("count(3)", 1).due("count(4)", 1).due("trace()", 1).due("now(4)", 0).due("undo()", STATE);
        told(TWO).times(10, "lots(1)").done("keep(0)").due("now(4)", 10).due("back(0)", 10).due("undo()", STATE)
            .done("lots(1)").due("now(4)", 1).due("undo()", 0).due("now(0)", 10).due("undo()", STATE);
    }

    // ---- 29: how many

    private static void countNumbers() {
        allowed(empty(), "count(*)", 0, 4, BAD);
        allowed(told(SIX), "count(*)", 0, 4, BAD);
    }

    private static void counts() {
        StringBuilder all = new StringBuilder(SIX);
        for (int a = 0; a < 6; a++) {
            for (int b = a + 1; b < 6; b++) {
                all.append("d").append(a).append(" ").append(b).append(" 1;");
            }
        }
        all.append("o0 0 0;".repeat(6));
        Run x = told(all.toString()).times(5, "found(0, 0)").letters("x".repeat(200));
        x.due("count(0)", 6).due("count(1)", 15).due("count(2)", 6).due("count(3)", 5).due("count(4)", 200);
        told(ONE).due("count(0)", 1).due("count(1)", 0).due("count(2)", 0).due("count(3)", 0).due("count(4)", 0);
    }

    // ---- all of them

    private static void firstToSeventh() {
        Run.sentence(1, "`BellLots()`: As told; no TOWNS.", BoundariesTest::newObject);
        Run.sentence(1, "no TOWNS", BoundariesTest::noTowns);
        Run.sentence(1, "BAD = -1, STATE = -2, FULL = -3, NONE = -9;", BoundariesTest::constants);
        Run.sentence(1, "An object is used for at most 512 calls after it has been made", BoundariesTest::lastCall);
        Run.sentence(1, "BELL k hangs in TOWN k at first, its HOME.", BoundariesTest::atFirst);
        Run.sentence(2, "A letter (0 .. 255) comes to THE TEXT: how many it has.", BoundariesTest::letters);
        Run.sentence(2, "They are a text (200 letters at most), told letter by letter", BoundariesTest::fullText);
        Run.sentence(2, "the first of these: BAD (a number is not as told, or there is no such thing), STATE (as told), "
            + "FULL.", BoundariesTest::badAheadOfFull);
        Run.sentence(3, "THE TEXT is empty: how many letters it had.", BoundariesTest::clear);
        Run.sentence(4, "THE TEXT tells all anew, and is empty then: how many ITEMS.", BoundariesTest::emptyText);
        Run.sentence(4, "-10 less FAULT: nothing changes.", BoundariesTest::faultPlaces);
        Run.sentence(4, "(6 at most), each with a TOWER", BoundariesTest::sixthTown);
        Run.sentence(4, "a TOWER (it bears 1 .. 99; its own BELL at least, whatever is told)", BoundariesTest::towers);
        Run.sentence(4, "WEIGHT (1 .. 99)", BoundariesTest::weights);
        Run.sentence(4, "NOTE (0 .. 6)", BoundariesTest::notes);
        Run.sentence(4, "ROADS between two of them: TOLL (1 .. 9).", BoundariesTest::tolls);
        Run.sentence(4, "OATHS (6 at most)", BoundariesTest::sixthOath);
        Run.sentence(4, "by a BELL, for a TOWN, a TERM (0 .. 60).", BoundariesTest::oathNumbers);
        Run.sentence(4, "blanks (32) between TOKENS", BoundariesTest::blanks);
        Run.sentence(4, "ITEMS, each ended by ;", BoundariesTest::itemEnds);
        Run.sentence(4, "d A B T (a ROAD; unlike; told again: the later one)", BoundariesTest::roads);
        Run.sentence(4, "TOKENS are the letters t, d, o, NUMBERS and ; .", BoundariesTest::tokens);
        Run.sentence(4, "the place of the first letter of the first TOKEN that can't stand there (a seventh t or o, a "
            + "TOWN that was not told, a B that is A, a NUMBER beyond what it may be, too)", BoundariesTest::wrongPlaces);
        Run.sentence(4, "of any other letter, a NUMBER above 99 or with a 0 ahead of others, that TOKEN's",
            BoundariesTest::wrongTokens);
        Run.sentence(4, "the text's length, if it ends too early.", BoundariesTest::endsTooEarly);
        Run.sentence(4, "(Read anew: as told, TERM 0, nothing FOUND, IMAGES are gone.)", BoundariesTest::readAnew);
        Run.sentence(4, "THE TEXT tells all anew", BoundariesTest::readThrice);
        Run.sentence(4, "THE TEXT tells all anew, and is empty then", BoundariesTest::shorterText);
        Run.sentence(4, "(a number is not as told, or there is no such thing)", BoundariesTest::fewerTowns);
        Run.sentence(5, "Of a TOWN: 0 what its TOWER bears, 1 its BELL, 2 where its own BELL hangs, 3 whether it is "
            + "DUMB. BAD.", BoundariesTest::townNumbers);
        Run.sentence(5, "DUMB: TOWNS (bits) with a ROAD to one whose BELL has the same NOTE.", BoundariesTest::dumb);
        Run.sentence(6, "Of a BELL: 0 WEIGHT, 1 NOTE, 2 where it hangs, 3 FITS (bits). BAD.",
            BoundariesTest::bellNumbers);
        Run.sentence(6, "FITS of a BELL: TOWNS (bits) whose TOWER bears it NOW.", BoundariesTest::fits);
        Run.sentence(7, "`int far(int a, int b)`: FAR; NONE. BAD.", BoundariesTest::farNumbers);
        Run.sentence(7, "the least TOLL of all ROADS from one TOWN to another one (0 to itself; none, if none leads).",
            BoundariesTest::far);
    }

    private static void eighthToFourteenth() {
        Run.sentence(8, "Of an OATH: 0 BELL, 1 TOWN, 2 TERM, 3 how it is (0 not due yet, 1 KEPT, 2 BROKEN). BAD.",
            BoundariesTest::oathOf);
        Run.sentence(8, "An OATH is due as THE TERM of it is over (when the next LOT is drawn)",
            BoundariesTest::oathsDue);
        Run.sentence(9, "0 THE TERM, 1 how many TOWERS were CUT, 2 BELLS that are HOME (bits), 3 DUMB (bits), 4 how many "
            + "may be UNDONE. BAD.", BoundariesTest::nowNumbers);
        Run.sentence(10, "THE TERM (0 at first; 60 at most).", BoundariesTest::terms);
        Run.sentence(10, "A LOT by z (0 .. 9999)", BoundariesTest::lotNumbers);
        Run.sentence(10, "the (DRAW modulo how many these are)-th (0 the first)", BoundariesTest::draws);
        Run.sentence(10, "All go at once; then it is the next TERM.", BoundariesTest::allAtOnce);
        Run.sentence(10, "A TOWER that bears less than the BELL that hangs in it then is CUT (counted, 0 at first)",
            BoundariesTest::cutByLots);
        Run.sentence(10, "BAD; STATE: it is TERM 60.", BoundariesTest::badAheadOfState);
        Run.sentence(11, "TRADED: how many TOWERS were CUT by it. BAD (alike, too).", BoundariesTest::tradeNumbers);
        Run.sentence(11, "two TOWNS exchange their BELLS (within THE TERM; towers are CUT likewise).",
            BoundariesTest::traded);
        Run.sentence(12, "WIDENED: what it bore. BAD; STATE: the BELL in it is heavier.", BoundariesTest::widenNumbers);
        Run.sentence(12, "a TOWER bears n (1 .. 99) from then on (no less than the BELL in it).",
            BoundariesTest::widened);
        Run.sentence(13, "UNDONE: how many more may be. STATE: none.", BoundariesTest::noUndo);
        Run.sentence(13, "(10 are known, older ones are lost)", BoundariesTest::eleventhUndo);
        Run.sentence(13, "the latest lots(), trades(), widens() that was not refused", BoundariesTest::latestUndone);
        Run.sentence(14, "IN LOTS: the BELL of a TOWN; t = -1: how many TOWERS. BAD.", BoundariesTest::inLotsNumbers);
        Run.sentence(14, "behind k (0 .. 20) LOTS by z", BoundariesTest::noLots);
        Run.sentence(14, "by z, z and 1 together, .. (above 9999 on from 0)", BoundariesTest::onFromZero);
        Run.sentence(14, "how many TOWERS would be CUT in all of them.", BoundariesTest::cutInLots);
    }

    private static void fifteenthToThirtieth() {
        Run.sentence(15, "`int cost(int z)`: COST; NONE. BAD.", BoundariesTest::costNumbers);
        Run.sentence(15, "NONE (there is no way for one that goes).", BoundariesTest::cost);
        Run.sentence(16, "TRADES HOME: how many (what = 0), the first (1; NONE). BAD.", BoundariesTest::homeNumbers);
        Run.sentence(16, "the first one: 10 times the lowest TOWN whose BELL is not its own and the TOWN where its own "
            + "hangs; NONE.", BoundariesTest::home);
        Run.sentence(17, "HANG: how much (t = -1), the BELL of a TOWN; NONE. BAD.", BoundariesTest::hangNumbers);
        Run.sentence(17, "of all ways to hang all BELLS NOW by which no TOWER is CUT (each TOWER bearing what it does NOW) "
            + "that by which WEIGHT times FAR is least", BoundariesTest::hang);
        Run.sentence(18, "ROUND by z (0 .. 9999)", BoundariesTest::roundNumbers);
        Run.sentence(18, "behind how many (the fewest, 1 at least) all BELLS are where they are NOW.",
            BoundariesTest::round);
        Run.sentence(19, "by one BELL, of one TERM, for unlike TOWNS, or for one TOWN, of one TERM, by unlike BELLS; the "
            + "first such; NONE.", BoundariesTest::crossed);
        Run.sentence(20, "OF OATHS: not due yet (what = 0), KEPT (1), BROKEN (2). BAD.", BoundariesTest::oathsOf);
        Run.sentence(21, "`int strokes(int b, int t)`: STROKES. BAD.", BoundariesTest::strokeNumbers);
        Run.sentence(21, "how many TERMS a BELL was in a TOWN so far (at the end of each).", BoundariesTest::strokes);
        Run.sentence(22, "FOUND: how much there is. BAD; FULL.", BoundariesTest::foundNumbers);
        Run.sentence(22, "FOUND (5 at most): behind the next LOT a BELL hangs in a TOWN.", BoundariesTest::sixthFound);
        Run.sentence(23, "Nothing was FOUND: how much there was.", BoundariesTest::forgotten);
        Run.sentence(24, "WHICH: how many (what = 0), the least (1; NONE). BAD.", BoundariesTest::whichNumbers);
        Run.sentence(24, "of z 0 .. 999 how many there are by which all that was FOUND is so; the least; NONE.",
            BoundariesTest::which);
        Run.sentence(25, "ODDS: upper (what = 0), lower number (1), in least terms. BAD.", BoundariesTest::oddsNumbers);
        Run.sentence(25, "that no TOWER is CUT: a fraction.", BoundariesTest::odds);
        Run.sentence(26, "`int rate(int kind, int b)`: RATE. NO: BAD.", BoundariesTest::rateNumbers);
        Run.sentence(26, "`NO = -1000000`: What none is, where a number may be below 0.", BoundariesTest::rates);
        Run.sentence(27, "An IMAGE is kept: THE TERM. BAD.", BoundariesTest::imageNumbers);
        Run.sentence(27, "IMAGES 0, 1 keep NOW (THE TERM, BELLS, TOWERS, how many were CUT, OATHS, STROKES)",
            BoundariesTest::images);
        Run.sentence(28, "All of that becomes as an IMAGE has it: THE TERM. BAD; STATE: none was kept.",
            BoundariesTest::noImage);
        Run.sentence(28, "nothing else (nothing can be UNDONE behind back()).", BoundariesTest::nothingElseKept);
        Run.sentence(29, "0 TOWNS, 1 ROADS, 2 OATHS, 3 FOUND, 4 letters of THE TEXT. BAD.",
            BoundariesTest::countNumbers);
        Run.sentence(29, "ROADS, 2 OATHS, 3 FOUND, 4 letters of THE TEXT", BoundariesTest::counts);
        Run.sentence(30, "are added to THE TRACE, 0 at first, as often as rate() asks that body: each once",
            BoundariesTest::traces);
    }

    public static void main(String[] args) {
        firstToSeventh();
        eighthToFourteenth();
        fifteenthToThirtieth();
        Run.end();
    }
}
