import java.util.ArrayList;
import java.util.List;

/** One method for each promise of the document; the answers due are worked out by hand from its words. */
public final class PromisesTest {
    private static final int BAD = -1, STATE = -2, FULL = -3, NONE = -9, NO = -1000000;
    private static final int LEAST = Integer.MIN_VALUE, GREATEST = Integer.MAX_VALUE;

    /** Three TOWNS in a row, 0 -2- 1 -3- 2; BELLS of 10, 20, 30; 0 and 1 have one NOTE; two OATHS. */
    private static final String ROW = "t15 10 4; t20 20 4; t40 30 5; d 0 1 2; d 1 2 3; o 0 0 0; o 2 0 1;";

    private static int wrong = 0;
    private static String promise = "";

    private static void due(String call, long got, long want) {
        if (got != want) {
            wrong++;
            System.out.println(promise + ": " + call + " answered " + got + ", due is " + want);
        }
    }

    private static int write(BellLots x, String text) {
        int last = 0;
        for (int i = 0; i < text.length(); i++) {
            last = x.type(text.charAt(i));
        }
        return last;
    }

    private static BellLots told(String text) {
        BellLots x = new BellLots();
        write(x, text);
        int items = (int) text.chars().filter(c -> c == ';').count();
        due("plain() of " + text, x.plain(), items);
        return x;
    }

    /** From which TOWN each TOWN gets its BELL by a LOT, in the words of the document. */
    private static int[] lot(int towns, int z) {
        List<Integer> undrawn = new ArrayList<>();
        for (int t = 0; t < towns; t++) {
            undrawn.add(t);
        }
        int[] from = new int[towns];
        for (int t = 0; t < towns; t++) {
            long x = 7919L * z + 6151L * t + 1;
            long draw = Math.floorDiv(Math.floorMod(x * x, 65521L), 16L);
            from[t] = undrawn.remove((int) (draw % undrawn.size()));
        }
        return from;
    }

    /** The least z by which each TOWN t gets the BELL of from[t]. */
    private static int lotThatGives(int... from) {
        for (int z = 0; z <= 9999; z++) {
            if (java.util.Arrays.equals(lot(from.length, z), from)) {
                return z;
            }
        }
        throw new IllegalStateException("no such lot");
    }

    private static String sixTowns() {
        return "t1 1 0;".repeat(6);
    }

    // ---- the promises

    private static void aNewObject() {
        BellLots x = new BellLots();
        for (int what = 0; what <= 4; what++) {
            due("count(" + what + ")", x.count(what), 0);
            due("now(" + what + ")", x.now(what), 0);
        }
        due("trace()", x.trace(), 0);
        due("town(0, 0)", x.town(0, 0), BAD);
        due("bell(0, 0)", x.bell(0, 0), BAD);
        due("far(0, 0)", x.far(0, 0), BAD);
        due("oath(0, 0)", x.oath(0, 0), BAD);
        due("undo()", x.undo(), STATE);
        due("back(0)", x.back(0), STATE);
        due("back(1)", x.back(1), STATE);
        due("trades(0, 1)", x.trades(0, 1), BAD);
        due("widens(0, 1)", x.widens(0, 1), BAD);
        due("strokes(0, 0)", x.strokes(0, 0), BAD);
        due("found(0, 0)", x.found(0, 0), BAD);
        due("rate(0, 0)", x.rate(0, 0), NO);
        due("BAD", BellLots.BAD, BAD);
        due("STATE", BellLots.STATE, STATE);
        due("FULL", BellLots.FULL, FULL);
        due("NONE", BellLots.NONE, NONE);
        due("NO", BellLots.NO, NO);
    }

    private static void type() {
        BellLots x = new BellLots();
        due("type(0)", x.type(0), 1);
        due("type(255)", x.type(255), 2);
        for (int letter : new int[] {-1, 256, LEAST, GREATEST}) {
            due("type(" + letter + ")", x.type(letter), BAD);
        }
        due("count(4)", x.count(4), 2);
        for (int i = 3; i <= 200; i++) {
            due("letter " + i, x.type(32), i);
        }
        due("letter 201", x.type(32), FULL);
        due("a bad letter when full", x.type(256), BAD);
        due("count(4) when full", x.count(4), 200);
        x.clear();
        due("type(32) after clear()", x.type(32), 1);
    }

    private static void clear() {
        BellLots x = told(ROW);
        due("clear() of nothing", x.clear(), 0);
        write(x, "t 1");
        due("clear()", x.clear(), 3);
        due("count(4)", x.count(4), 0);
        due("clear() again", x.clear(), 0);
        due("count(0): the plain stays", x.count(0), 3);
        write(x, "t1 1 1;");
        due("plain() of what came behind clear()", x.plain(), 1);
    }

    private static void plainOfTexts() {
        String one = "t1 1 0;", two = one + one;
        Object[][] texts = {
            {"", 0}, {"   ", 0}, {one, 1}, {"  t  1 1   0  ;  ", 1}, {"t99 99 6;", 1}, {"t1 99 0;", 1},
            {sixTowns(), 6}, {two + "d0 1 1;", 3}, {two + "d1 0 9;d0 1 2;", 4}, {one + "o0 0 60;", 2},
            {one + "o0 0 0;".repeat(6), 7}, {"t 1 1 0;o 0 0 0;t 1 1 0;d 0 1 5;", 4},
            // what can't stand there
            {";", -10}, {"1", -10}, {" ;", -11}, {one + ";", -17}, {"t;", -11}, {"tt", -11}, {"t1;", -12}, {"td", -11},
            {"t1 1;", -14}, {"t1 1 1 1;", -17}, {"t1 1 1t", -16}, {one + "d d", -19}, {one + "o;", -18},
            {two + "d0 1 1 1", -31},
            // one too many
            {sixTowns() + "t", -52}, {sixTowns() + " t1 1 1;", -53}, {one + "o0 0 0;".repeat(6) + "o", -59},
            // a TOWN that was not told
            {"d0", -11}, {"o0", -11}, {one + "d1", -18}, {one + "d0 1", -20}, {two + "d2 0 1;", -25},
            {two + "d0 2 1;", -27}, {one + "o1 0 0;", -18}, {one + "o0 1 0;", -20}, {one + "d0 1 1;" + one, -20},
            // a B that is A
            {two + "d0 0 1;", -27}, {two + "d1 1 1;", -27},
            // a NUMBER beyond what it may be
            {"t0", -11}, {"t1 0", -13}, {"t1 1 7", -15}, {two + "d0 1 0;", -29}, {two + "d0 1 10;", -29},
            {one + "o0 0 61;", -22},
            // any other letter, a NUMBER above 99 or with a 0 ahead
            {"x", -10}, {"T", -10}, {" \t", -11}, {"t1 1 1\n;", -16}, {"t-1", -11}, {"t1.0", -12}, {"t\u00e4", -11},
            {"t\u0000", -11}, {"t100 1 1;", -11}, {"t1 100 1;", -13}, {"t1 1 100;", -15}, {"t01 1 1;", -11},
            {"t00", -11}, {"t1 1 00;", -15}, {one + "o00 0 0;", -18}, {"t4294967297 1 1;", -11},
            {"t" + "9".repeat(199), -11}, {"t" + "0".repeat(199), -11}, {"100", -10}, {"t1 1 0;x", -17},
            // the first of two faults
            {"t0 1 1;x", -11}, {"xt0", -10}, {"t1 0 100;", -13},
            // ended too early
            {"t", -11}, {"t  ", -13}, {"t1", -12}, {"t1 1", -14}, {"t1 1 1", -16}, {"t1 1 1  ", -18}, {one + "d", -18},
            {one + "o0 0 0", -23}, {"t1 1 1;t1 ", -20},
        };
        for (Object[] row : texts) {
            BellLots x = new BellLots();
            String text = (String) row[0];
            int want = (Integer) row[1];
            write(x, text);
            due("plain() of '" + text + "'", x.plain(), want);
            due("count(4) behind '" + text + "'", x.count(4), want < 0 ? text.length() : 0);
        }
        BellLots full = new BellLots();
        write(full, sixTowns() + " ".repeat(157) + "t");
        due("plain() of 200 letters", full.plain(), -10 - 199);
        full.clear();
        write(full, sixTowns() + " ".repeat(158));
        due("plain() of 200 good letters", full.plain(), 6);
    }

    private static void plain() {
        plainOfTexts();
        BellLots x = told(ROW);
        due("town(0, 0): as told", x.town(0, 0), 15);
        x.lots(0);
        x.trades(0, 1);
        x.found(0, 0);
        x.keep(0);
        x.rate(0, 0);
        int cut = x.now(1);
        write(x, "t5 5 5;x");
        due("plain() with a fault", x.plain(), -17);
        due("now(0) stays", x.now(0), 1);
        due("now(1) stays", x.now(1), cut);
        due("now(4) stays", x.now(4), 2);
        due("count(0) stays", x.count(0), 3);
        due("count(1) stays", x.count(1), 2);
        due("count(2) stays", x.count(2), 2);
        due("count(3) stays", x.count(3), 1);
        due("count(4) stays", x.count(4), 8);
        due("far(0, 2) stays", x.far(0, 2), 5);
        due("back(0) stays", x.back(0), 1);
        x.lots(0);
        x.clear();
        write(x, "t1 60 3;t70 2 1;");
        due("plain() anew", x.plain(), 2);
        due("town(0, 0): its own BELL at least", x.town(0, 0), 60);
        due("town(1, 0)", x.town(1, 0), 70);
        due("town(0, 1)", x.town(0, 1), 0);
        due("town(1, 1)", x.town(1, 1), 1);
        due("far(0, 1): the old roads are gone", x.far(0, 1), NONE);
        due("count(1)", x.count(1), 0);
        due("count(2)", x.count(2), 0);
        due("count(3)", x.count(3), 0);
        due("count(4)", x.count(4), 0);
        due("now(0)", x.now(0), 0);
        due("now(1)", x.now(1), 0);
        due("now(4)", x.now(4), 0);
        due("undo()", x.undo(), STATE);
        due("back(0)", x.back(0), STATE);
        for (int b = 0; b < 2; b++) {
            for (int t = 0; t < 2; t++) {
                due("strokes(" + b + ", " + t + ")", x.strokes(b, t), 0);
            }
        }
        due("trace() stays", x.trace(), 1);
        write(x, "t1 1 0;t1 1 0;t1 1 0;d0 1 1;d1 2 1;o0 0 0;o1 1 0;");
        due("plain() a third time", x.plain(), 7);
        due("oath(0, 3): not due anew", x.oath(0, 3), 0);
        x.lots(0);
        due("oaths(1)", x.oaths(1), 2);
        write(x, "t1 1 0;t1 1 0;t1 1 0;d0 1 4;d0 2 4;o2 2 2;x");
        due("plain() with a fault behind ROADS and OATHS", x.plain(), -10 - 42);
        due("far(0, 2) stays", x.far(0, 2), 2);
        x.clear();
        write(x, "t1 1 0;t1 1 0;t1 1 0;d1 2 3;o1 1 0;");
        due("plain() a fourth time", x.plain(), 5);
        due("count(1): nothing is left of the fault", x.count(1), 1);
        due("count(2)", x.count(2), 1);
        due("far(0, 1)", x.far(0, 1), NONE);
        due("far(1, 2)", x.far(1, 2), 3);
        due("oath(0, 0)", x.oath(0, 0), 1);
        due("oath(0, 3): not due anew", x.oath(0, 3), 0);
        due("plain() of nothing", x.plain(), 0);
        due("count(0) of nothing", x.count(0), 0);
    }

    private static void town() {
        BellLots x = told(ROW);
        int[][] first = {{15, 0, 0, 1}, {20, 1, 1, 1}, {40, 2, 2, 0}};
        checkTowns(x, first);
        x.trades(0, 2);
        x.trades(1, 2);
        // TOWNS 0, 1, 2 have the BELLS 2, 0, 1; TOWER 0 was cut to 30; NOTES 5, 4, 4
        checkTowns(x, new int[][] {{30, 2, 1, 0}, {20, 0, 2, 1}, {40, 1, 0, 1}});
        for (int t : new int[] {-1, 3, 6, LEAST, GREATEST}) {
            due("town(" + t + ", 0)", x.town(t, 0), BAD);
        }
        for (int what : new int[] {-1, 4, LEAST, GREATEST}) {
            due("town(0, " + what + ")", x.town(0, what), BAD);
        }
    }

    private static void checkTowns(BellLots x, int[][] want) {
        for (int t = 0; t < want.length; t++) {
            for (int what = 0; what < 4; what++) {
                due("town(" + t + ", " + what + ")", x.town(t, what), want[t][what]);
            }
        }
    }

    private static void bell() {
        BellLots x = told(ROW);
        int[][] first = {{10, 4, 0, 7}, {20, 4, 1, 6}, {30, 5, 2, 4}};
        int[][] then = {{10, 4, 1, 7}, {20, 4, 2, 7}, {30, 5, 0, 5}};
        checkBells(x, first);
        x.trades(0, 2);
        x.trades(1, 2);
        checkBells(x, then);
        for (int b : new int[] {-1, 3, 6, LEAST, GREATEST}) {
            due("bell(" + b + ", 0)", x.bell(b, 0), BAD);
        }
        for (int what : new int[] {-1, 4, LEAST, GREATEST}) {
            due("bell(0, " + what + ")", x.bell(0, what), BAD);
        }
        BellLots heavy = told("t99 99 6;t98 98 0;");
        due("bell(0, 0)", heavy.bell(0, 0), 99);
        due("bell(0, 1)", heavy.bell(0, 1), 6);
        due("bell(0, 3): one beyond", heavy.bell(0, 3), 1);
        due("bell(1, 3)", heavy.bell(1, 3), 3);
    }

    private static void checkBells(BellLots x, int[][] want) {
        for (int b = 0; b < want.length; b++) {
            for (int what = 0; what < 4; what++) {
                due("bell(" + b + ", " + what + ")", x.bell(b, what), want[b][what]);
            }
        }
    }

    private static void far() {
        BellLots x = told("t1 1 0;".repeat(5) + "d0 1 9;d1 2 1;d2 3 1;d3 0 1;d0 1 8;");
        due("far(0, 1): the longer way costs less", x.far(0, 1), 3);
        due("far(1, 0)", x.far(1, 0), 3);
        due("far(0, 2)", x.far(0, 2), 2);
        due("far(0, 4): none leads", x.far(0, 4), NONE);
        due("far(4, 0)", x.far(4, 0), NONE);
        due("far(4, 4)", x.far(4, 4), 0);
        due("far(2, 2)", x.far(2, 2), 0);
        due("far(5, 0)", x.far(5, 0), BAD);
        due("far(0, 5)", x.far(0, 5), BAD);
        due("far(-1, 0)", x.far(-1, 0), BAD);
        due("far(0, -1)", x.far(0, -1), BAD);
        due("far(0, GREATEST)", x.far(0, GREATEST), BAD);
        due("far(LEAST, 0)", x.far(LEAST, 0), BAD);
        BellLots line = told(sixTowns() + "d5 4 9;d4 3 9;d3 2 9;d2 1 9;d1 0 9;");
        due("far(0, 5): all five", line.far(0, 5), 45);
        BellLots star = told("t1 1 0;t1 1 0;t1 1 0;d0 1 2;d0 2 5;d1 2 8;");
        due("far(1, 2): by TOWN 0", star.far(1, 2), 7);
        BellLots again = told("t1 1 0;t1 1 0;d0 1 3;d1 0 7;");
        due("far(0, 1): the later one", again.far(0, 1), 7);
    }

    private static void oath() {
        BellLots x = told(ROW);
        int[][] want = {{0, 0, 0, 0}, {2, 0, 1, 0}};
        for (int i = 0; i < 2; i++) {
            for (int what = 0; what < 4; what++) {
                due("oath(" + i + ", " + what + ")", x.oath(i, what), want[i][what]);
            }
        }
        x.lots(lotThatGives(2, 1, 0));
        due("oath(0, 3): kept, though its BELL goes then", x.oath(0, 3), 1);
        due("oath(1, 3): not over yet", x.oath(1, 3), 0);
        x.trades(0, 1);
        x.lots(lotThatGives(1, 0, 2));
        due("oath(1, 3): broken, though its BELL comes then", x.oath(1, 3), 2);
        due("oath(0, 3) stays kept", x.oath(0, 3), 1);
        for (int i : new int[] {-1, 2, 6, LEAST, GREATEST}) {
            due("oath(" + i + ", 0)", x.oath(i, 0), BAD);
        }
        for (int what : new int[] {-1, 4, LEAST, GREATEST}) {
            due("oath(0, " + what + ")", x.oath(0, what), BAD);
        }
        BellLots late = told("t1 1 0;o0 0 59;o0 0 60;");
        for (int term = 0; term < 60; term++) {
            due("oath(0, 3) in TERM " + term, late.oath(0, 3), 0);
            late.lots(7);
        }
        due("oath(0, 3) in TERM 60", late.oath(0, 3), 1);
        due("oath(1, 3): TERM 60 is never over", late.oath(1, 3), 0);
    }

    private static void now() {
        BellLots x = told(ROW);
        checkNow(x, 0, 0, 7, 3, 0);
        x.trades(0, 2);
        // BELLS 2, 1, 0; TOWER 0 is cut; NOTES 5, 4, 4
        checkNow(x, 0, 1, 2, 6, 1);
        x.lots(lotThatGives(0, 2, 1));
        // BELLS 2, 0, 1
        checkNow(x, 1, 1, 0, 6, 2);
        x.lots(lotThatGives(2, 0, 1));
        // BELLS 1, 2, 0: TOWER 1 is cut; NOTES 4, 5, 4
        checkNow(x, 2, 2, 0, 0, 3);
        for (int what : new int[] {-1, 5, LEAST, GREATEST}) {
            due("now(" + what + ")", x.now(what), BAD);
        }
        BellLots apart = told("t1 1 3;t1 1 3;t1 1 3;d0 1 1;");
        due("now(3): a way is not a road", apart.now(3), 3);
        BellLots chain = told("t1 1 3;t1 1 2;t1 1 3;d0 1 1;d1 2 1;");
        due("now(3): not by two roads", chain.now(3), 0);
    }

    private static void checkNow(BellLots x, int... want) {
        for (int what = 0; what < 5; what++) {
            due("now(" + what + ")", x.now(what), want[what]);
        }
    }

    private static void lots() {
        for (int z : new int[] {0, 1, 2, 5, 17, 999, 1000, 4321, 9998, 9999}) {
            for (int towns = 1; towns <= 6; towns++) {
                BellLots x = told("t9 9 0;".repeat(towns));
                int[] from = lot(towns, z);
                due("lots(" + z + ")", x.lots(z), 0);
                for (int t = 0; t < towns; t++) {
                    due("town(" + t + ", 1) behind " + z, x.town(t, 1), from[t]);
                }
            }
        }
        BellLots x = told("t10 10 0;t20 20 0;t30 30 0;");
        due("lots() that cuts two", x.lots(lotThatGives(1, 2, 0)), 2);
        due("town(0, 0): cut", x.town(0, 0), 20);
        due("town(1, 0): cut", x.town(1, 0), 30);
        due("town(2, 0): not cut", x.town(2, 0), 30);
        due("lots() that cuts one again", x.lots(lotThatGives(1, 0, 2)), 1);
        due("town(0, 0): cut again", x.town(0, 0), 30);
        due("town(1, 0): stays cut", x.town(1, 0), 30);
        due("now(1)", x.now(1), 3);
        for (int z : new int[] {-1, 10000, LEAST, GREATEST}) {
            due("lots(" + z + ")", x.lots(z), BAD);
        }
        due("now(0)", x.now(0), 2);
        due("now(4)", x.now(4), 2);
        for (int term = 2; term < 60; term++) {
            x.lots(term);
            due("now(0) of TERM " + term, x.now(0), term + 1);
        }
        due("lots(1) of TERM 60", x.lots(1), STATE);
        due("lots(10000) of TERM 60", x.lots(10000), BAD);
        due("now(0) of TERM 60", x.now(0), 60);
        due("undo()", x.undo(), 9);
        due("lots(1) of TERM 59", x.lots(1) >= 0 ? 1 : 0, 1);
        BellLots none = new BellLots();
        due("lots(9999) with no TOWNS", none.lots(9999), 0);
        due("now(0) with no TOWNS", none.now(0), 1);
    }

    private static void trades() {
        BellLots x = told(ROW);
        due("trades(0, 2): one is cut", x.trades(0, 2), 1);
        due("town(0, 1)", x.town(0, 1), 2);
        due("town(2, 1)", x.town(2, 1), 0);
        due("town(0, 0)", x.town(0, 0), 30);
        due("town(2, 0): does not shrink", x.town(2, 0), 40);
        due("now(0): within THE TERM", x.now(0), 0);
        due("strokes(2, 0): no TERM ended", x.strokes(2, 0), 0);
        due("oath(0, 3): not due by a trade", x.oath(0, 3), 0);
        due("trades(2, 0): none is cut", x.trades(2, 0), 0);
        due("trades(2, 1)", x.trades(2, 1), 1);
        due("now(1)", x.now(1), 2);
        due("now(4)", x.now(4), 3);
        int[][] bad = {{0, 0}, {2, 2}, {0, 3}, {3, 0}, {-1, 0}, {0, -1}, {3, 3}, {LEAST, 0}, {0, GREATEST}};
        for (int[] pair : bad) {
            due("trades(" + pair[0] + ", " + pair[1] + ")", x.trades(pair[0], pair[1]), BAD);
        }
        due("now(4) behind refused ones", x.now(4), 3);
        for (int term = 0; term < 60; term++) {
            x.lots(3);
        }
        due("trades(0, 1) in TERM 60", x.trades(0, 1) >= 0 ? 1 : 0, 1);
    }

    private static void widens() {
        BellLots x = told(ROW);
        due("widens(0, 99)", x.widens(0, 99), 15);
        due("widens(0, 10): as heavy as its BELL", x.widens(0, 10), 99);
        due("widens(0, 9)", x.widens(0, 9), STATE);
        due("widens(0, 1)", x.widens(0, 1), STATE);
        due("town(0, 0)", x.town(0, 0), 10);
        due("widens(0, 0)", x.widens(0, 0), BAD);
        due("widens(0, 100)", x.widens(0, 100), BAD);
        due("widens(0, LEAST)", x.widens(0, LEAST), BAD);
        due("widens(0, GREATEST)", x.widens(0, GREATEST), BAD);
        due("widens(3, 50)", x.widens(3, 50), BAD);
        due("widens(-1, 50)", x.widens(-1, 50), BAD);
        due("now(4)", x.now(4), 2);
        x.trades(0, 2);
        due("widens(0, 29): the BELL that hangs there counts", x.widens(0, 29), STATE);
        due("widens(2, 10)", x.widens(2, 10), 40);
        due("now(1): none is cut by it", x.now(1), 1);
        due("widens(2, 10): the same again", x.widens(2, 10), 10);
        due("now(4): that is known too", x.now(4), 5);
        BellLots light = told("t1 1 0;");
        due("widens(0, 1) of a BELL of 1", light.widens(0, 1), 1);
    }

    private static void undo() {
        BellLots x = told(ROW);
        x.found(1, 1);
        x.lots(lotThatGives(2, 1, 0));
        due("strokes(0, 0)", x.strokes(0, 0), 1);
        due("undo() of lots()", x.undo(), 0);
        due("now(0)", x.now(0), 0);
        due("now(1)", x.now(1), 0);
        due("now(2)", x.now(2), 7);
        due("town(0, 0)", x.town(0, 0), 15);
        due("oath(0, 3)", x.oath(0, 3), 0);
        due("strokes(0, 0)", x.strokes(0, 0), 0);
        due("count(3): FOUND is not undone", x.count(3), 1);
        due("undo() of nothing", x.undo(), STATE);
        x.trades(0, 2);
        x.widens(1, 77);
        due("undo() of widens()", x.undo(), 1);
        due("town(1, 0)", x.town(1, 0), 20);
        due("town(0, 1)", x.town(0, 1), 2);
        due("undo() of trades()", x.undo(), 0);
        due("town(0, 1)", x.town(0, 1), 0);
        due("now(1)", x.now(1), 0);
        for (int n = 1; n <= 12; n++) {
            x.widens(2, 40 + n);
            due("now(4)", x.now(4), Math.min(n, 10));
        }
        for (int n = 9; n >= 0; n--) {
            due("undo()", x.undo(), n);
            due("town(2, 0)", x.town(2, 0), 42 + n);
        }
        due("undo(): the older ones are lost", x.undo(), STATE);
        due("town(2, 0)", x.town(2, 0), 42);
        x.widens(2, 90);
        x.widens(2, 2);
        due("undo(): a refused one is none", x.undo(), 0);
    }

    private static void inLots() {
        String text = "t10 10 0;t20 20 0;t30 30 0;o0 0 0;";
        for (int k = 0; k <= 20; k++) {
            // an object for each k: what one answers behind its 512th call is free
            BellLots each = told(text);
            for (int z : new int[] {0, 123, 9980, 9990, 9999}) {
                checkInLots(each, z, k);
            }
        }
        BellLots x = told(text);
        checkInLots(x, 9999, 20);
        due("now(0): nothing is changed", x.now(0), 0);
        due("now(1)", x.now(1), 0);
        due("now(4)", x.now(4), 0);
        due("oath(0, 3)", x.oath(0, 3), 0);
        due("strokes(0, 0)", x.strokes(0, 0), 0);
        due("town(0, 0)", x.town(0, 0), 10);
        int[][] bad = {{-1, 0, 0}, {10000, 0, 0}, {0, -1, 0}, {0, 21, 0}, {0, 0, -2}, {0, 0, 3},
            {LEAST, 0, 0}, {0, GREATEST, 0}, {0, 0, GREATEST}, {0, 0, LEAST}, {0, 21, -1}, {10000, 0, -1}};
        for (int[] a : bad) {
            due("inLots(" + a[0] + ", " + a[1] + ", " + a[2] + ")", x.inLots(a[0], a[1], a[2]), BAD);
        }
        for (int term = 0; term < 60; term++) {
            x.lots(term);
        }
        x.trades(0, 1);
        checkInLots(x, 5, 3);
        due("inLots(3, 20, -1) with no TOWNS", new BellLots().inLots(3, 20, -1), 0);
        due("inLots(3, 20, 0) with no TOWNS", new BellLots().inLots(3, 20, 0), BAD);
    }

    private static void checkInLots(BellLots x, int z, int k) {
        int towns = x.count(0);
        int[] bells = new int[towns], bears = new int[towns];
        int cut = 0;
        for (int t = 0; t < towns; t++) {
            bells[t] = x.town(t, 1);
            bears[t] = x.town(t, 0);
        }
        for (int i = 0; i < k; i++) {
            int[] from = lot(towns, (z + i) % 10000), old = bells.clone();
            for (int t = 0; t < towns; t++) {
                bells[t] = old[from[t]];
                int weight = x.bell(bells[t], 0);
                if (bears[t] < weight) {
                    bears[t] = weight;
                    cut++;
                }
            }
        }
        String call = "inLots(" + z + ", " + k + ", ";
        due(call + "-1)", x.inLots(z, k, -1), cut);
        for (int t = 0; t < towns; t++) {
            due(call + t + ")", x.inLots(z, k, t), bells[t]);
        }
    }

    private static void cost() {
        BellLots x = told(ROW);
        due("cost(): none goes", x.cost(lotThatGives(0, 1, 2)), 0);
        due("cost(): 0 and 1", x.cost(lotThatGives(1, 0, 2)), 10 * 2 + 20 * 2);
        due("cost(): all go on", x.cost(lotThatGives(1, 2, 0)), 20 * 2 + 30 * 3 + 10 * 5);
        x.trades(0, 2);
        due("cost(): the BELLS that hang there", x.cost(lotThatGives(1, 2, 0)), 20 * 2 + 10 * 3 + 30 * 5);
        due("now(0)", x.now(0), 0);
        BellLots apart = told("t1 1 0;t1 1 0;t1 7 0;d0 1 4;");
        due("cost(): one that stays needs no way", apart.cost(lotThatGives(1, 0, 2)), 8);
        due("cost(): no way", apart.cost(lotThatGives(0, 2, 1)), NONE);
        for (int z : new int[] {-1, 10000, LEAST, GREATEST}) {
            due("cost(" + z + ")", x.cost(z), BAD);
        }
        due("cost(9999)", x.cost(9999) >= 0 ? 1 : 0, 1);
        due("cost(0) with no TOWNS", new BellLots().cost(0), 0);
    }

    private static void home() {
        BellLots x = told("t9 9 0;".repeat(6));
        due("home(0): all are", x.home(0), 0);
        due("home(1)", x.home(1), NONE);
        x.trades(1, 4);
        due("home(0)", x.home(0), 1);
        due("home(1)", x.home(1), 14);
        x.trades(4, 5);
        // TOWNS 1, 4, 5 have the BELLS 4, 5, 1
        due("home(0): a ring of three", x.home(0), 2);
        due("home(1)", x.home(1), 15);
        x.trades(0, 2);
        due("home(0): two rings", x.home(0), 3);
        due("home(1)", x.home(1), 2);
        x.trades(0, 1);
        due("home(0): one ring of five", x.home(0), 4);
        int trades = 0;
        while (x.home(1) != NONE && trades < 9) {
            x.trades(x.home(1) / 10, x.home(1) % 10);
            trades++;
        }
        due("trades till all are home", trades, 4);
        due("now(2)", x.now(2), 63);
        for (int what : new int[] {-1, 2, LEAST, GREATEST}) {
            due("home(" + what + ")", x.home(what), BAD);
        }
        due("home(0) with no TOWNS", new BellLots().home(0), 0);
        due("home(1) with no TOWNS", new BellLots().home(1), NONE);
    }

    private static void hang() {
        BellLots x = told(ROW);
        due("hang(-1)", x.hang(-1), 0);
        x.trades(0, 2);
        x.widens(1, 99);
        // every TOWER bears its own BELL, so nothing is as cheap as to let all hang
        due("hang(-1) behind a trade", x.hang(-1), 0);
        due("hang(0)", x.hang(0), 2);
        due("hang(1)", x.hang(1), 1);
        due("hang(2)", x.hang(2), 0);
        for (int t : new int[] {-2, 3, 6, LEAST, GREATEST}) {
            due("hang(" + t + ")", x.hang(t), BAD);
        }
        due("now(4): nothing is changed", x.now(4), 2);
        due("hang(-1) with no TOWNS", new BellLots().hang(-1), 0);
        due("hang(0) with no TOWNS", new BellLots().hang(0), BAD);
    }

    private static void round() {
        BellLots x = told("t9 9 0;".repeat(6));
        due("round(): a ring of six", x.round(lotThatGives(1, 2, 3, 4, 5, 0)), 6);
        due("round(): of five", x.round(lotThatGives(1, 2, 3, 4, 0, 5)), 5);
        due("round(): of four and two", x.round(lotThatGives(1, 2, 3, 0, 5, 4)), 4);
        due("round(): of three and two", x.round(lotThatGives(1, 2, 0, 4, 3, 5)), 6);
        due("round(): of three twice", x.round(lotThatGives(1, 2, 0, 4, 5, 3)), 3);
        due("round(): of two thrice", x.round(lotThatGives(1, 0, 3, 2, 5, 4)), 2);
        due("round(): none goes", x.round(lotThatGives(0, 1, 2, 3, 4, 5)), 1);
        x.trades(0, 5);
        due("round(): from where they are NOW", x.round(lotThatGives(1, 2, 3, 4, 0, 5)), 5);
        for (int z : new int[] {-1, 10000, LEAST, GREATEST}) {
            due("round(" + z + ")", x.round(z), BAD);
        }
        due("round(9999) is told", x.round(9999) >= 1 ? 1 : 0, 1);
        due("round(0) is told", x.round(0) >= 1 ? 1 : 0, 1);
        due("now(0)", x.now(0), 0);
        due("round(3) with no TOWNS", new BellLots().round(3), 1);
    }

    private static void crossed() {
        String three = "t1 1 0;t1 1 0;t1 1 0;";
        Object[][] oaths = {
            {"", NONE}, {"o0 0 5;", NONE}, {"o0 0 5;o0 0 5;", NONE}, {"o0 0 5;o0 1 5;", 1}, {"o0 0 5;o1 0 5;", 1},
            {"o0 0 5;o0 1 6;", NONE}, {"o0 0 5;o1 0 6;", NONE}, {"o0 0 5;o1 1 5;", NONE}, {"o0 1 5;o1 0 5;", NONE},
            {"o2 2 60;o2 1 60;", 1}, {"o0 0 0;o1 1 0;o2 2 0;o2 1 0;", 13}, {"o0 0 0;o1 1 0;o2 2 0;o2 2 0;o0 2 0;", 4},
            {"o0 0 1;o0 0 2;o0 0 3;o0 0 4;o1 0 9;o2 0 9;", 45}, {"o0 0 1;o1 1 2;o1 2 2;o2 0 1;", 3},
        };
        for (Object[] row : oaths) {
            BellLots x = told(three + row[0]);
            due("crossed() of " + row[0], x.crossed(), (Integer) row[1]);
            x.lots(0);
            due("crossed() later", x.crossed(), (Integer) row[1]);
        }
        due("crossed() with no TOWNS", new BellLots().crossed(), NONE);
    }

    private static void oaths() {
        BellLots x = told("t1 1 0;t1 1 0;o0 0 0;o1 1 0;o0 1 0;o0 0 1;o1 1 60;");
        checkOaths(x, 5, 0, 0);
        x.lots(lotThatGives(1, 0));
        checkOaths(x, 2, 2, 1);
        x.lots(lotThatGives(1, 0));
        checkOaths(x, 1, 2, 2);
        x.undo();
        checkOaths(x, 2, 2, 1);
        for (int what : new int[] {-1, 3, LEAST, GREATEST}) {
            due("oaths(" + what + ")", x.oaths(what), BAD);
        }
        checkOaths(new BellLots(), 0, 0, 0);
    }

    private static void checkOaths(BellLots x, int... want) {
        for (int what = 0; what < 3; what++) {
            due("oaths(" + what + ")", x.oaths(what), want[what]);
        }
    }

    private static void strokes() {
        BellLots x = told("t1 1 0;t1 1 0;t1 1 0;");
        due("strokes(0, 0)", x.strokes(0, 0), 0);
        x.lots(lotThatGives(2, 1, 0));
        due("strokes(0, 0)", x.strokes(0, 0), 1);
        due("strokes(1, 1)", x.strokes(1, 1), 1);
        due("strokes(2, 0): its first TERM there is not over", x.strokes(2, 0), 0);
        x.trades(0, 1);
        x.lots(lotThatGives(0, 1, 2));
        due("strokes(2, 1): where it is at the end", x.strokes(2, 1), 1);
        due("strokes(2, 0)", x.strokes(2, 0), 0);
        due("strokes(1, 0)", x.strokes(1, 0), 1);
        due("strokes(0, 2)", x.strokes(0, 2), 1);
        x.lots(lotThatGives(0, 1, 2));
        due("strokes(2, 1)", x.strokes(2, 1), 2);
        due("strokes(1, 2): BELL first, TOWN second", x.strokes(1, 2), 0);
        int[][] bad = {{-1, 0}, {0, -1}, {3, 0}, {0, 3}, {LEAST, 0}, {0, GREATEST}};
        for (int[] a : bad) {
            due("strokes(" + a[0] + ", " + a[1] + ")", x.strokes(a[0], a[1]), BAD);
        }
        while (x.now(0) < 60) {
            x.lots(lotThatGives(0, 1, 2));
        }
        x.lots(0);
        due("strokes(2, 1) in TERM 60", x.strokes(2, 1), 59);
    }

    private static void found() {
        BellLots x = told(ROW);
        due("found(0, 0)", x.found(0, 0), 1);
        due("found(0, 0) again", x.found(0, 0), 2);
        due("found(2, 1)", x.found(2, 1), 3);
        int[][] bad = {{-1, 0}, {0, -1}, {3, 0}, {0, 3}, {LEAST, 0}, {0, GREATEST}};
        for (int[] a : bad) {
            due("found(" + a[0] + ", " + a[1] + ")", x.found(a[0], a[1]), BAD);
        }
        due("found(1, 1)", x.found(1, 1), 4);
        due("found(1, 2)", x.found(1, 2), 5);
        due("found(1, 0): a sixth", x.found(1, 0), FULL);
        due("found(3, 0): a bad sixth", x.found(3, 0), BAD);
        due("count(3)", x.count(3), 5);
        x.lots(1);
        x.undo();
        x.keep(0);
        x.back(0);
        due("count(3) stays", x.count(3), 5);
        due("now(4): it can not be undone", x.now(4), 0);
    }

    private static void forget() {
        BellLots x = told(ROW);
        due("forget() of nothing", x.forget(), 0);
        x.found(0, 0);
        x.found(0, 1);
        due("which(0)", x.which(0), 0);
        due("forget()", x.forget(), 2);
        due("count(3)", x.count(3), 0);
        due("which(0): nothing was found", x.which(0), 1000);
        due("forget() again", x.forget(), 0);
        due("found(1, 1)", x.found(1, 1), 1);
    }

    private static void which() {
        BellLots x = told(ROW);
        due("which(0): all", x.which(0), 1000);
        due("which(1)", x.which(1), 0);
        x.trades(0, 2);
        x.found(2, 1);
        x.found(1, 2);
        int many = 0, least = NONE;
        for (int z = 999; z >= 0; z--) {
            int[] from = lot(3, z);
            // BELL 2 hangs in TOWN 0, BELL 1 in TOWN 1
            if (from[1] == 0 && from[2] == 1) {
                many++;
                least = z;
            }
        }
        due("which(0)", x.which(0), many);
        due("which(1)", x.which(1), least);
        x.found(2, 0);
        due("which(0): two places", x.which(0), 0);
        due("which(1)", x.which(1), NONE);
        for (int what : new int[] {-1, 2, LEAST, GREATEST}) {
            due("which(" + what + ")", x.which(what), BAD);
        }
        due("now(0)", x.now(0), 0);
        due("which(0) with no TOWNS", new BellLots().which(0), 1000);
        due("which(1) with no TOWNS", new BellLots().which(1), 0);
        // z 999 is looked at, 1000 is not
        BellLots six = told(sixTowns());
        int[] last = lot(6, 999);
        for (int t = 0; t < 5; t++) {
            six.found(last[t], t);
        }
        int like = 0;
        for (int z = 0; z <= 999; z++) {
            like += java.util.Arrays.equals(lot(6, z), last) ? 1 : 0;
        }
        due("which(0) of the LOT by 999", six.which(0), like);
    }

    private static void odds() {
        checkOdds(new BellLots(), 1, 1);
        checkOdds(told("t1 1 0;"), 1, 1);
        checkOdds(told("t1 1 0;t2 2 0;"), 1, 2);
        checkOdds(told("t5 5 0;t5 5 0;t5 5 0;"), 1, 1);
        checkOdds(told("t1 1 0;t2 2 0;t3 3 0;t4 4 0;t5 5 0;t6 6 0;"), 1, 720);
        checkOdds(told("t9 1 0;t9 9 0;t3 3 0;"), 2, 3);
        // the heaviest has two TOWNS, the next then three, the others two and one
        BellLots x = told("t40 40 0;t40 30 0;t30 20 0;t30 10 0;");
        checkOdds(x, 1, 2);
        x.widens(0, 99);
        checkOdds(x, 1, 2);
        x.widens(2, 20);
        // 40: two TOWNS; 30: two; 20: two; 10: one
        checkOdds(x, 1, 3);
        for (int what : new int[] {-1, 2, LEAST, GREATEST}) {
            due("odds(" + what + ")", x.odds(what), BAD);
        }
    }

    private static void checkOdds(BellLots x, int upper, int lower) {
        due("odds(0)", x.odds(0), upper);
        due("odds(1)", x.odds(1), lower);
    }

    private static void rate() {
        BellLots x = told("t50 10 4;t20 20 3;t40 30 6;");
        x.trades(0, 2);
        x.lots(lotThatGives(0, 1, 2));
        x.lots(lotThatGives(0, 1, 2));
        // BELLS 2, 1, 0 hang in TOWERS of 50, 20, 40; TERM 2
        int[][] want = {
            {10, 20, 30}, {14, 23, 36}, {10 - 40, 0, 30 - 50}, {28, 46, 72}, {10 - 40, 1, 30 - 50 + 2}, {12, 22, 32},
        };
        for (int kind = 0; kind <= 5; kind++) {
            for (int b = 0; b < 3; b++) {
                due("rate(" + kind + ", " + b + ")", x.rate(kind, b), want[kind][b]);
            }
        }
        int[][] bad = {{-1, 0}, {6, 0}, {0, -1}, {0, 3}, {5, 3}, {LEAST, 0}, {GREATEST, 0}, {0, LEAST}, {0, GREATEST}};
        for (int[] a : bad) {
            due("rate(" + a[0] + ", " + a[1] + ")", x.rate(a[0], a[1]), NO);
        }
    }

    private static void keep() {
        BellLots x = told(ROW);
        due("keep(0)", x.keep(0), 0);
        x.lots(3);
        due("keep(1)", x.keep(1), 1);
        for (int image : new int[] {-1, 2, LEAST, GREATEST}) {
            due("keep(" + image + ")", x.keep(image), BAD);
        }
        due("now(4): the past stays known", x.now(4), 1);
        x.lots(4);
        due("keep(0) anew", x.keep(0), 2);
        x.lots(5);
        due("back(1)", x.back(1), 1);
        due("back(0): the later one", x.back(0), 2);
        due("keep(0) with no TOWNS", new BellLots().keep(0), 0);
    }

    private static void back() {
        BellLots x = told(ROW);
        x.trades(0, 2);
        x.lots(lotThatGives(0, 1, 2));
        x.keep(1);
        x.found(0, 0);
        x.rate(0, 0);
        write(x, "abc");
        x.lots(lotThatGives(1, 2, 0));
        x.widens(2, 99);
        due("back(0): none was kept", x.back(0), STATE);
        due("now(4) behind a refused one", x.now(4), 4);
        for (int image : new int[] {-1, 2, LEAST, GREATEST}) {
            due("back(" + image + ")", x.back(image), BAD);
        }
        due("back(1)", x.back(1), 1);
        checkNow(x, 1, 1, 2, 6, 0);
        due("undo()", x.undo(), STATE);
        checkTowns(x, new int[][] {{30, 2, 2, 0}, {20, 1, 1, 1}, {40, 0, 0, 1}});
        due("oath(0, 3)", x.oath(0, 3), 2);
        due("oath(1, 3)", x.oath(1, 3), 0);
        due("strokes(2, 0)", x.strokes(2, 0), 1);
        due("strokes(0, 0)", x.strokes(0, 0), 0);
        due("count(3): nothing else", x.count(3), 1);
        due("count(4): nothing else", x.count(4), 3);
        due("trace(): nothing else", x.trace(), 1);
        x.lots(1);
        due("back(1) again", x.back(1), 1);
        x.widens(0, 77);
        due("undo() of what came behind back()", x.undo(), 0);
        due("town(0, 0)", x.town(0, 0), 30);
        x.clear();
        due("plain()", x.plain(), 0);
        due("back(1): gone with what was told", x.back(1), STATE);
    }

    private static void count() {
        BellLots x = told(sixTowns() + "d0 1 1;d1 0 2;d0 2 1;d5 4 1;o0 0 0;o1 1 1;");
        x.found(0, 0);
        write(x, "abcd");
        int[] want = {6, 3, 2, 1, 4};
        for (int what = 0; what < 5; what++) {
            due("count(" + what + ")", x.count(what), want[what]);
        }
        for (int what : new int[] {-1, 5, LEAST, GREATEST}) {
            due("count(" + what + ")", x.count(what), BAD);
        }
    }

    private static void trace() {
        BellLots x = told(ROW);
        due("trace()", x.trace(), 0);
        long[] bodies = {1, 11, 101, 1011, 10101, 100001};
        long sum = 0;
        for (int kind = 0; kind <= 5; kind++) {
            x.rate(kind, 1);
            sum += bodies[kind];
            due("trace() behind KIND " + kind, x.trace(), sum);
        }
        x.rate(6, 0);
        x.rate(0, 3);
        x.rate(-1, -1);
        due("trace() behind refused ones", x.trace(), sum);
        x.lots(1);
        x.undo();
        due("trace() is not undone", x.trace(), sum);
        x.plain();
        due("trace() is not told anew", x.trace(), sum);
    }

    private static void run(int number, String name, Runnable cases) {
        promise = "promise " + number + ", " + name;
        cases.run();
    }

    public static void main(String[] args) {
        run(1, "a new object", PromisesTest::aNewObject);
        run(2, "type", PromisesTest::type);
        run(3, "clear", PromisesTest::clear);
        run(4, "plain", PromisesTest::plain);
        run(5, "town", PromisesTest::town);
        run(6, "bell", PromisesTest::bell);
        run(7, "far", PromisesTest::far);
        run(8, "oath", PromisesTest::oath);
        run(9, "now", PromisesTest::now);
        run(10, "lots", PromisesTest::lots);
        run(11, "trades", PromisesTest::trades);
        run(12, "widens", PromisesTest::widens);
        run(13, "undo", PromisesTest::undo);
        run(14, "inLots", PromisesTest::inLots);
        run(15, "cost", PromisesTest::cost);
        run(16, "home", PromisesTest::home);
        run(17, "hang", PromisesTest::hang);
        run(18, "round", PromisesTest::round);
        run(19, "crossed", PromisesTest::crossed);
        run(20, "oaths", PromisesTest::oaths);
        run(21, "strokes", PromisesTest::strokes);
        run(22, "found", PromisesTest::found);
        run(23, "forget", PromisesTest::forget);
        run(24, "which", PromisesTest::which);
        run(25, "odds", PromisesTest::odds);
        run(26, "rate", PromisesTest::rate);
        run(27, "keep", PromisesTest::keep);
        run(28, "back", PromisesTest::back);
        run(29, "count", PromisesTest::count);
        run(30, "trace", PromisesTest::trace);
        System.out.println(wrong == 0 ? "all answers are as due" : wrong + " answers are not as due");
        if (wrong != 0) {
            System.exit(1);
        }
    }
}
