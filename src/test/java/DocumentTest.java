import java.lang.reflect.Method;
import java.lang.reflect.Modifier;
import java.util.Arrays;
import java.util.Set;
import java.util.TreeSet;
import java.util.regex.Matcher;
import java.util.regex.Pattern;

/**
 * The document from its first line to its last, word by word: each piece with calls that it answers, mostly ordinary
 * ones (what is least, greatest and one beyond is looked at by BoundariesTest). A piece must follow upon the one
 * before, so none can be passed over.
 */
public final class DocumentTest {
    private static final int BAD = Run.BAD, STATE = Run.STATE, FULL = Run.FULL, NONE = Run.NONE, NO = Run.NO;

    private static final String ONE = "t1 1 0;", TWO = ONE + ONE, THREE = TWO + ONE, SIX = THREE + THREE;

    /** Three TOWNS in a row, 0 -2- 1 -3- 2; BELLS of 10, 20, 30 fit by a hair; 0 and 1 have one NOTE; two OATHS. */
    private static final String ROW = "t15 10 4; t20 20 4; t40 30 5; d 0 1 2; d 1 2 3; o 0 0 0; o 2 0 1;";

    /*
     * LOTS worked out apart from the class. Of three TOWNS, TOWN 0, 1, 2 gets the BELL that hangs in TOWN:
     * by 0: 0 1 2; by 1: 0 2 1; by 3: 1 0 2; by 5, 6, 9999: 2 0 1; by 7: 2 1 0; by 11: 1 2 0.
     * Of two TOWNS: by 0: 0 1; by 1: 1 0.
     */

    private static Run told(String text) {
        return Run.told(text);
    }

    private static void fault(String text, int place) {
        new Run().letters(text).due("plain()", -10 - place).due("count(4)", text.length()).due("count(0)", 0);
    }

    /** What a call answers for 0, 1, 2, .. in the place of its *. */
    private static Run each(Run x, String call, int... want) {
        for (int n = 0; n < want.length; n++) {
            x.due(call.replace("*", "" + n), want[n]);
        }
        return x;
    }

    private static Run bells(Run x, int... want) {
        return each(x, "town(*, 1)", want);
    }

    private static Run refused(Run x, int answer, String... calls) {
        for (String call : calls) {
            x.due(call, answer);
        }
        return x;
    }

    // ---- What it is, The public face

    private static void whatItIs() {
        Run.next(1, "# BellLots ## What it is Bells by lot: towns that exchange their bells each term, by lots that "
            + "are drawn, bells too heavy for a tower that is cut then, notes, roads with tolls, oaths sworn by a bell "
            + "for a town and a term, told by a text; lots drawn, bells traded, towers cut, all of it undone; which "
            + "bell is where, behind which lots, what it costs to bring them; the fewest trades by which all are home, "
            + "the cheapest way to hang all without a tower cut; which oaths were kept, which can not be both, which "
            + "bells fit where; which lots explain what was found; how long a lot repeated takes till all is as it "
            + "was; the odds of a lot that cuts none; towns that are dumb; bells by kinds; images. ======== 1 TOWNS 0 "
            + "..", () -> {
                Run x = told(ROW).due("lots(5)", 1).due("trades(0, 2)", 0).due("widens(1, 99)", 20);
                bells(x, 1, 0, 2).due("now(1)", 1).due("undo()", 2).due("undo()", 1).due("undo()", 0);
                bells(x, 0, 1, 2).due("now(1)", 0).due("inLots(5, 1, 0)", 2).due("cost(5)", 230);
                x.due("home(0)", 0).due("hang(-1)", 0).due("oaths(1)", 0).due("crossed()", NONE).due("bell(1, 3)", 6);
                x.due("found(2, 0)", 1).due("which(1)", 5).due("round(5)", 3).due("odds(1)", 6).due("now(3)", 3);
                x.due("rate(1, 0)", 14).due("keep(1)", 0);
            });
        Run.next(1, "An object is used for at most 512 calls after it has been made; what later calls answer is free.",
            () -> {
                // 15 calls tell the text, 494 go forth and back: the last three are the 510th to the 512th.
                Run x = told(TWO);
                for (int i = 0; i < 247; i++) {
                    x.due("lots(1)", 0).due("undo()", 0);
                }
                x.due("lots(1)", 0).due("town(0, 1)", 1).due("strokes(0, 0)", 1);
            });
    }

    private static void face() {
        String face = Run.readUpTo("## Terms");
        Run.sentence(1, "## The public face", () -> {
            Set<String> methods = new TreeSet<>();
            Matcher told = Pattern.compile("public (int|long) (\\w+)\\(([^)]*)\\);").matcher(face);
            while (told.find()) {
                methods.add(told.group(1) + " " + told.group(2) + told.group(3).replaceAll(" \\w+(,|$)", ""));
            }
            Set<String> there = new TreeSet<>();
            for (Method m : BellLots.class.getDeclaredMethods()) {
                if (!Modifier.isPrivate(m.getModifiers())) {
                    String types = String.join(" ", Arrays.stream(m.getParameterTypes()).map(Class::getName).toList());
                    there.add(m.getReturnType() + " " + m.getName() + types);
                }
            }
            if (methods.size() != 29 || !methods.equals(there)) {
                Run.complain("the document's methods are " + methods + ", the class has " + there);
            }
            Matcher constants = Pattern.compile("([A-Z]+) = (-?[0-9]+)").matcher(face);
            while (constants.find()) {
                constant(constants.group(1), Integer.parseInt(constants.group(2)));
            }
        });
    }

    private static void constant(String name, int want) {
        try {
            int got = BellLots.class.getField(name).getInt(null);
            if (got != want) {
                Run.complain(name + " is " + got + ", due is " + want);
            }
        } catch (ReflectiveOperationException missing) {
            Run.complain("there is no constant " + name);
        }
    }

    // ---- Terms, 1: TOWNS and the text

    private static void towns() {
        Run.next(4, "## Terms (6 at most),", () -> {
            told(SIX).due("count(0)", 6).due("town(5, 0)", 1).due("town(6, 0)", BAD);
            fault(SIX + ONE, 42);
        });
        Run.next(5, "each with a TOWER (it bears 1 .. 99; its own BELL at least, whatever is told)", () ->
            each(told("t15 10 0; t7 20 0; t99 1 0; t30 30 0;"), "town(*, 0)", 15, 20, 99, 30).due("now(1)", 0));
        Run.next(6, "and a BELL of the same number: WEIGHT (1 .. 99), NOTE (0 .. 6);", () -> {
            Run x = told("t15 10 0; t7 20 3; t99 99 6;");
            each(each(x, "bell(*, 0)", 10, 20, 99, BAD), "bell(*, 1)", 0, 3, 6, BAD);
        });
        Run.next(5, "BELL k hangs in TOWN k at first, its HOME.", () -> {
            Run x = bells(told(ROW), 0, 1, 2).due("now(2)", 7);
            each(each(x, "bell(*, 2)", 0, 1, 2), "town(*, 2)", 0, 1, 2).done("trades(0, 1)");
            each(each(x, "bell(*, 2)", 1, 0, 2), "town(*, 2)", 1, 0, 2).due("now(2)", 4);
        });
        Run.next(7, "ROADS between two of them: TOLL (1 .. 9).", () ->
            told(THREE + "d0 1 1;d2 1 9;").due("count(1)", 2).due("far(1, 0)", 1).due("far(1, 2)", 9));
        Run.next(8, "OATHS (6 at most): by a BELL, for a TOWN, a TERM (0 .. 60).", () -> {
            Run x = told(TWO + "o0 1 60;o1 0 0;o1 1 7;o0 0 8;o0 1 9;o1 0 10;").due("count(2)", 6);
            each(each(each(x, "oath(*, 0)", 0, 1, 1, 0, 0, 1), "oath(*, 1)", 1, 0, 1, 0, 1, 0), "oath(*, 2)",
                60, 0, 7, 8, 9, 10);
        });
    }

    private static void texts() {
        Run.next(2, "They are a text (200 letters at most), told letter by letter, blanks (32) between TOKENS;", () -> {
            told("t15 10 4;").due("town(0, 0)", 15);
            told("  t 15  10   4 ;  ").due("town(0, 0)", 15).due("bell(0, 0)", 10).due("bell(0, 1)", 4);
            new Run().letters(ONE + " ".repeat(193)).due("type(32)", FULL).due("plain()", 1);
            fault("t15\t10 4;", 3);
        });
        Run.next(4, "ITEMS, each ended by ; : t T W N (a TOWN: TOWER, WEIGHT, NOTE) ;", () -> {
            told("t 60 50 2 ; t 40 30 1 ;").due("town(1, 0)", 40).due("bell(1, 0)", 30).due("bell(1, 1)", 1);
            fault("t 60 50 2 t 40 30 1 ;", 10);
            fault("t 60 50 ;", 8);
            fault("t 60 50 2 3 ;", 10);
        });
        Run.next(4, "d A B T (a ROAD; unlike; told again: the later one) ;", () -> {
            told(TWO + "d 0 1 4 ;").due("far(0, 1)", 4).due("far(1, 0)", 4).due("count(1)", 1);
            told(TWO + "d 0 1 4 ; d 0 1 7 ;").due("far(0, 1)", 7).due("count(1)", 1);
            told(TWO + "d 0 1 4 ; d 1 0 2 ;").due("far(0, 1)", 2).due("far(1, 0)", 2).due("count(1)", 1);
            fault(TWO + "d 1 1 4 ;", 18);
        });
        Run.next(4, "o B A K (an OATH).", () -> each(told(THREE + "o 2 1 33 ;"), "oath(0, *)", 2, 1, 33, 0));
        Run.next(4, "TOKENS are the letters t, d, o, NUMBERS and ; .", () -> {
            new Run().letters("t9 8 7;").due("plain()", -15);
            told("t9 8 6;t9 8 6;d0 1 9;o0 1 9;t9 8 6;").due("count(0)", 3).due("count(1)", 1).due("count(2)", 1);
            fault("T9 8 6;", 0);
        });
    }

    private static void faults() {
        Run.next(4, "FAULT: the place of the first letter of the first TOKEN that can't stand there", () -> {
            fault("  15 10 4;", 2);
            fault("t ; 10 4;", 2);
            fault("t 15 d 4;", 5);
            fault(ONE + " ;", 8);
            fault("t0 0 9;", 1);
        });
        Run.next(4, "(a seventh t or o, a TOWN that was not told, a B that is A, a NUMBER beyond what it may be, too);",
            () -> {
                fault(SIX + "d0 1 1; t", 50);
                fault(ONE + "o0 0 1;".repeat(6) + " o", 50);
                fault(TWO + "d0 2 1;", 17);
                fault(TWO + "o2 0 1;", 15);
                fault("d0 1 1;" + TWO, 1);
                fault(TWO + "d1 1 1;", 17);
                fault("t15 10 7;", 7);
                fault(TWO + "d1 0 10;", 19);
                fault(TWO + "o1 0 61;", 19);
            });
        Run.next(4, "of any other letter, a NUMBER above 99 or with a 0 ahead of others, that TOKEN's;", () -> {
            fault("t15 10 4, ", 8);
            fault("t115 10 4;", 1);
            fault("t15 010 4;", 4);
            fault("t15 10 00;", 7);
        });
        Run.next(4, "the text's length, if it ends too early.", () -> {
            fault("t15 10 4", 8);
            fault("t15 10  ", 8);
            fault(ONE + "o", 8);
        });
    }

    // ---- Terms, 2: THE TERM

    private static void lots() {
        Run.next(9, "======== 2 THE TERM (0 at first; 60 at most).", () ->
            told(ONE).due("now(0)", 0).times(60, "lots(9)").due("now(0)", 60).due("lots(9)", STATE).due("now(0)", 60));
        Run.next(10, "A LOT by z (0 .. 9999): the TOWNS draw by numbers: of the TOWNS whose BELLS are not drawn yet, by "
            + "numbers, the (DRAW modulo how many these are)-th (0 the first): its BELL goes to the one that draws;", () -> {
                bells(bells(told(THREE).done("lots(11)"), 1, 2, 0).done("lots(11)"), 2, 0, 1);
                bells(bells(told(THREE).done("lots(7)"), 2, 1, 0).done("lots(5)"), 0, 2, 1);
                bells(told(THREE).done("lots(0)"), 0, 1, 2);
                bells(told(TWO).done("lots(1)"), 1, 0);
            });
        Run.next(10, "DRAW is ((x times x) modulo 65521) by 16, cut, x 7919 z, 6151 (the drawing TOWN) and 1 together.",
            () -> {
                // By 5 the four TOWNS DRAW 3545, 2954, 1916: the 1st of 0 1 2 3, the 2nd of 0 2 3, the 0th of 0 2.
                bells(told(THREE + ONE).done("lots(5)"), 1, 3, 0, 2);
                // By 9999 three TOWNS DRAW 3206 and 2038: the 2nd of 0 1 2, the 0th of 0 1.
                bells(told(THREE).done("lots(9999)"), 2, 0, 1);
                bells(told(SIX).done("lots(9998)"), 2, 4, 5, 0, 1, 3);
            });
        Run.next(10, "All go at once; then it is the next TERM.", () ->
            bells(told(THREE).done("lots(6)").due("now(0)", 1), 2, 0, 1).done("lots(0)").due("now(0)", 2));
        Run.next(10, "A TOWER that bears less than the BELL that hangs in it then is CUT (counted, 0 at first): it bears "
            + "as much as that BELL weighs from then on.", () -> {
                Run x = told(ROW).due("now(1)", 0).due("lots(5)", 1).due("now(1)", 1);
                each(x, "town(*, 0)", 30, 20, 40).due("lots(3)", 1).due("now(1)", 2);
                each(x, "town(*, 0)", 30, 30, 40).due("lots(3)", 0).due("now(1)", 2);
                told("t1 1 0;t9 9 0;t5 5 0;").due("lots(11)", 1).due("town(0, 0)", 9).due("town(2, 0)", 5);
            });
    }

    private static void otherDeeds() {
        Run.next(7, "FAR: the least TOLL of all ROADS from one TOWN to another one (0 to itself; none, if none leads).",
            () -> {
                each(told(ROW), "far(0, *)", 0, 2, 5).due("far(2, 0)", 5).due("far(2, 1)", 3);
                each(told(SIX + "d0 1 9;d1 2 1;d2 0 3;d4 5 6;"), "far(0, *)", 0, 4, 3, NONE, NONE, NONE);
            });
        Run.next(11, "TRADED: two TOWNS exchange their BELLS (within THE TERM; towers are CUT likewise).", () -> {
            Run x = told(ROW).due("trades(0, 2)", 1).due("now(0)", 0).due("now(1)", 1).due("town(0, 0)", 30);
            bells(x, 2, 1, 0).due("oaths(0)", 2).due("strokes(0, 0)", 0).due("trades(2, 1)", 0);
            bells(x, 2, 0, 1).due("now(1)", 1);
        });
        Run.next(12, "WIDENED: a TOWER bears n (1 .. 99) from then on (no less than the BELL in it).", () -> {
            Run x = told(ROW).due("widens(2, 30)", 40).due("town(2, 0)", 30).due("widens(2, 29)", STATE);
            x.due("widens(0, 99)", 15).due("bell(2, 3)", 5).due("trades(0, 2)", 0).due("widens(2, 10)", 30);
            x.due("widens(2, 9)", STATE).due("town(2, 0)", 10).due("now(1)", 0);
        });
        Run.next(8, "An OATH is due as THE TERM of it is over (when the next LOT is drawn): KEPT, if its BELL hangs in "
            + "its TOWN then, else BROKEN.", () -> {
                Run x = told(ROW).due("oath(0, 3)", 0).done("lots(7)").due("oath(0, 3)", 1).due("oath(1, 3)", 0);
                x.done("lots(0)").due("oath(1, 3)", 1).done("lots(0)").due("oath(0, 3)", 1).due("oath(1, 3)", 1);
                told(ROW).done("trades(0, 1)").due("oath(0, 3)", 0).done("lots(3)").due("oath(0, 3)", 2);
            });
        Run.next(13, "UNDONE: the latest lots(), trades(), widens() that was not refused (10 are known, older ones are "
            + "lost).", () -> {
                Run x = told(ROW).done("lots(5)", "trades(0, 1)", "widens(2, 50)").due("trades(1, 1)", BAD);
                x.due("now(4)", 3).due("undo()", 2).due("town(2, 0)", 40).due("undo()", 1);
                bells(x, 2, 0, 1).due("undo()", 0).due("town(0, 0)", 15).due("oath(0, 3)", 0).due("strokes(0, 0)", 0);
                bells(x, 0, 1, 2).due("undo()", STATE);
                Run y = told(ONE).times(12, "lots(0)").due("now(4)", 10).times(10, "undo()").due("undo()", STATE);
                y.due("now(0)", 2);
            });
    }

    // ---- Terms, 3: what is asked

    private static void asked() {
        Run.next(14, "======== 3 (Nothing is changed.) IN LOTS: behind k (0 .. 20) LOTS by z, z and 1 together, .. (above "
            + "9999 on from 0): the BELL of a TOWN; how many TOWERS would be CUT in all of them.", () -> {
                Run x = each(told(ROW), "inLots(5, 1, *)", 2, 0, 1, BAD);
                each(each(x, "inLots(5, 2, *)", 1, 2, 0), "inLots(5, 0, *)", 0, 1, 2);
                each(x, "inLots(9999, 2, *)", 2, 0, 1);
                x.due("inLots(5, 0, -1)", 0).due("inLots(5, 1, -1)", 1).due("inLots(5, 2, -1)", 2);
                bells(x, 0, 1, 2).due("now(0)", 0).due("now(1)", 0).due("now(4)", 0).due("oaths(0)", 2);
            });
        Run.next(15, "COST of a LOT by z: WEIGHT times FAR of all BELLS, together, from where they hang to where they "
            + "would; NONE (there is no way for one that goes).", () -> {
                // 10 times 2, 20 times 3, 30 times 5; then 30 times 2, 10 times 3, 20 times 5
                told(ROW).due("cost(0)", 0).due("cost(5)", 230).done("lots(5)").due("cost(5)", 190);
                told(TWO).due("cost(1)", NONE).due("cost(0)", 0);
            });
        Run.next(16, "TRADES HOME: the fewest TRADES by which all BELLS are HOME; the first one: 10 times the lowest TOWN "
            + "whose BELL is not its own and the TOWN where its own hangs; NONE.", () -> {
                told(ROW).due("home(0)", 0).due("home(1)", NONE).done("lots(1)").due("home(0)", 1).due("home(1)", 12);
                Run x = told(SIX).done("lots(812)").due("home(0)", 5).due("home(1)", 5);
                for (int left = 5; left > 0; left--) {
                    long first = x.due("home(0)", left).ask("home(1)");
                    x.done("trades(" + first / 10 + ", " + first % 10 + ")");
                }
                x.due("home(0)", 0).due("now(2)", 63);
            });
        Run.next(17, "HANG: of all ways to hang all BELLS NOW by which no TOWER is CUT (each TOWER bearing what it does "
            + "NOW) that by which WEIGHT times FAR is least, together (ways that can not be gone are none), of several "
            + "the first (BELL of TOWN 0, then 1, ..): how much; the BELL of a TOWN; NONE.", () -> {
                each(told(ROW).due("hang(-1)", 0), "hang(*)", 0, 1, 2, BAD);
                each(told(ROW).done("lots(5)").due("hang(-1)", 0), "hang(*)", 2, 0, 1, BAD);
                each(told(TWO).done("lots(1)").due("hang(-1)", 0), "hang(*)", 1, 0, BAD);
            });
        Run.next(6, "FITS of a BELL: TOWNS (bits) whose TOWER bears it NOW.", () -> {
            Run x = each(told(ROW), "bell(*, 3)", 7, 6, 4).done("trades(0, 2)");
            each(x, "bell(*, 3)", 7, 7, 5).done("widens(2, 10)");
            each(x, "bell(*, 3)", 7, 3, 1);
        });
    }

    private static void askedOfOaths() {
        Run.next(19, "CROSSED: two OATHS (10 times the first and the second) that can not both be KEPT, whichever LOTS "
            + "come: by one BELL, of one TERM, for unlike TOWNS, or for one TOWN, of one TERM, by unlike BELLS; the first "
            + "such; NONE.", () -> {
                told(ROW).due("crossed()", NONE);
                told(TWO + "o0 0 1;o0 1 2;o0 1 1;").due("crossed()", 2);
                told(TWO + "o0 0 9;o1 1 3;o0 1 3;").due("crossed()", 12);
                told(TWO + "o0 0 3;o1 1 3;o0 0 3;o0 1 4;").due("crossed()", NONE);
                told(TWO + "o0 0 3;o1 1 3;o0 1 3;o1 0 3;").due("crossed()", 2);
            });
        Run.next(20, "OF OATHS: how many are not due yet, KEPT, BROKEN.", () -> {
            Run x = told(THREE + "o0 0 0;o1 0 0;o2 2 0;o2 2 1;");
            each(x, "oaths(*)", 4, 0, 0).done("lots(0)");
            each(x, "oaths(*)", 1, 2, 1).done("trades(1, 2)", "lots(0)");
            each(x, "oaths(*)", 0, 2, 2).done("undo()");
            each(x, "oaths(*)", 1, 2, 1);
        });
    }

    private static void askedOfLots() {
        Run.next(22, "FOUND (5 at most): behind the next LOT a BELL hangs in a TOWN.", () -> {
            Run x = told(THREE).due("found(2, 0)", 1).due("which(1)", 5).due("found(0, 1)", 2).due("found(1, 2)", 3);
            x.due("which(1)", 5).due("found(1, 2)", 4).due("found(1, 2)", 5).due("found(1, 2)", FULL);
            x.due("lots(5)", 0).due("count(3)", 5).due("which(1)", 0).due("undo()", 0).due("count(3)", 5);
        });
        Run.next(24, "WHICH: of z 0 .. 999 how many there are by which all that was FOUND is so; the least; NONE.", () -> {
            Run x = each(told(THREE), "which(*)", 1000, 0).done("found(2, 0)");
            each(x, "which(*)", 341, 5).done("found(0, 1)");
            each(x, "which(*)", 172, 5).done("found(2, 1)");
            each(x, "which(*)", 0, NONE);
            each(told(THREE).done("trades(0, 1)", "found(0, 0)"), "which(*)", 345, 3);
        });
        Run.next(18, "ROUND by z (0 .. 9999): the LOT by z drawn again and again: behind how many (the fewest, 1 at least) "
            + "all BELLS are where they are NOW.", () -> {
                told(THREE).due("round(0)", 1).due("round(7)", 2).due("round(11)", 3).done("lots(7)").due("round(11)", 3);
                told(SIX).due("round(31)", 6).due("round(77)", 5).due("round(812)", 6).due("round(513)", 1);
                Run x = told(SIX).times(5, "lots(77)");
                bells(x, 0, 1, 2, 3, 4, 5);
            });
        Run.next(25, "ODDS: if all LOTS are as likely (each BELL in each TOWN): that no TOWER is CUT: a fraction.", () -> {
            Run x = each(told(ROW), "odds(*)", 1, 6).done("widens(0, 99)");
            each(x, "odds(*)", 2, 3).done("widens(1, 99)");
            each(x, "odds(*)", 1, 1).done("widens(2, 30)", "trades(0, 2)");
            each(x, "odds(*)", 1, 1).done("widens(2, 10)");
            each(x, "odds(*)", 1, 3);
        });
        Run.next(9, "DUMB: TOWNS (bits) with a ROAD to one whose BELL has the same NOTE.", () -> {
            Run x = each(told(ROW).due("now(3)", 3), "town(*, 3)", 1, 1, 0).done("trades(0, 2)");
            each(x.due("now(3)", 6), "town(*, 3)", 0, 1, 1).done("undo()", "trades(1, 2)");
            each(x.due("now(3)", 0), "town(*, 3)", 0, 0, 0);
        });
        Run.next(21, "STROKES: how many TERMS a BELL was in a TOWN so far (at the end of each).", () -> {
            Run x = told(THREE).done("lots(7)", "lots(7)", "lots(0)", "trades(0, 1)", "lots(0)");
            each(each(x, "strokes(0, *)", 2, 1, 1), "strokes(1, *)", 1, 3, 0);
            each(x, "strokes(2, *)", 1, 0, 3).done("undo()").due("strokes(0, 1)", 0);
        });
    }

    // ---- Terms, 4: KINDS, IMAGES; what is refused

    private static void kinds() {
        Run.next(26, "======== 4 KINDS of BELLS are over one another: 0 BELL; 1 GREAT, 2 CRACKED, 5 COW (each under BELL); 3 "
            + "STORM (under GREAT); 4 RIVER (under CRACKED).", () ->
            // of BELL 1: 20, NOTE 4, in a TOWER that bears 20
            each(told(ROW), "rate(*, 1)", 20, 24, 0, 48, 1, 20, NO));
        Run.next(30, "RATE of a BELL as if of a KIND (numbers in brackets are added to THE TRACE, 0 at first, as often as "
            + "rate() asks that body: each once; \"up\" is what the KIND above does):", () -> {
                Run x = told(ROW).due("trace()", 0);
                int[] adds = {1, 11, 101, 1011, 10101, 100001};
                long sum = 0;
                for (int kind = 0; kind <= 5; kind++) {
                    sum += adds[kind];
                    x.ask("rate(" + kind + ", 1)");
                    x.due("trace()", sum);
                }
            });
        Run.next(26, "BELL its WEIGHT (1).", () -> each(told(ROW), "rate(0, *)", 10, 20, 30, NO).due("trace()", 3));
        Run.next(26, "GREAT up, and its NOTE (10).", () ->
            each(told(ROW), "rate(1, *)", 14, 24, 35, NO).due("trace()", 33));
        Run.next(26, "CRACKED up less what the TOWER where it hangs bears (100).", () -> {
            Run x = each(told(ROW), "rate(2, *)", -5, 0, -10, NO).due("trace()", 303).done("trades(0, 1)");
            each(x, "rate(2, *)", -10, 0, -10);
        });
        Run.next(26, "STORM twice up (1000).", () -> each(told(ROW), "rate(3, *)", 28, 48, 70, NO).due("trace()", 3033));
        Run.next(26, "RIVER up, and its number (10000).", () ->
            each(told(ROW), "rate(4, *)", -5, 1, -8, NO).due("trace()", 30303));
        Run.next(26, "COW up, and THE TERM (100000).", () -> {
            Run x = each(told(ROW), "rate(5, *)", 10, 20, 30, NO).due("trace()", 300003).times(3, "lots(0)");
            each(x, "rate(5, *)", 13, 23, 33, NO);
        });
    }

    private static void images() {
        Run.next(27, "IMAGES 0, 1 keep NOW (THE TERM, BELLS, TOWERS, how many were CUT, OATHS, STROKES); nothing else "
            + "(nothing can be UNDONE behind back()).", () -> {
                Run x = told(ROW).done("lots(5)").due("keep(0)", 1).done("found(1, 1)", "rate(0, 0)");
                x.done("lots(3)", "trades(0, 2)", "widens(2, 60)").due("keep(1)", 2).due("now(4)", 4).due("back(0)", 1);
                bells(each(x, "town(*, 0)", 30, 20, 40), 2, 0, 1).due("now(0)", 1).due("now(1)", 1).due("now(4)", 0);
                each(x.due("undo()", STATE), "oaths(*)", 1, 1, 0).due("strokes(2, 0)", 0).due("strokes(0, 0)", 1);
                x.due("count(3)", 1).due("trace()", 1).due("back(1)", 2).due("town(2, 0)", 60).due("strokes(2, 0)", 1);
                bells(x, 1, 2, 0).due("oath(1, 3)", 1).due("now(1)", 2).due("count(3)", 1);
            });
        Run.next(4, "(Read anew: as told, TERM 0, nothing FOUND, IMAGES are gone.)", () -> {
            Run x = told(ROW).done("lots(5)", "keep(0)", "keep(1)", "found(0, 0)", "widens(2, 99)").letters(TWO);
            x.due("plain()", 2).due("count(0)", 2).due("count(1)", 0).due("count(2)", 0).due("count(3)", 0);
            each(bells(x, 0, 1), "now(*)", 0, 0, 3, 0, 0).due("back(0)", STATE).due("back(1)", STATE);
            x.due("town(0, 0)", 1).due("strokes(0, 0)", 0).due("which(0)", 1000).due("undo()", STATE);
        });
    }

    private static void whatIsRefused() {
        Run.next(12, "Refused, and nothing changes, the first of these: BAD (a number is not as told, or there is no such "
            + "thing), STATE (as told), FULL.", () -> {
                Run x = told(ROW).due("widens(3, 1)", BAD).due("widens(0, 100)", BAD).due("widens(0, 9)", STATE);
                x.due("back(2)", BAD).due("back(1)", STATE).times(5, "found(0, 0)").due("found(0, 3)", BAD);
                x.due("found(0, 1)", FULL).due("count(3)", 5);
                each(bells(x, 0, 1, 2), "now(*)", 0, 0, 7, 3, 0);
                new Run().letters(" ".repeat(200)).due("type(300)", BAD).due("type(33)", FULL).due("clear()", 200);
                told(ONE).times(60, "lots(0)").due("lots(10000)", BAD).due("lots(0)", STATE).due("now(4)", 10);
            });
        Run.next(26, "The constants: `NO = -1000000`: What none is, where a number may be below 0.", () ->
            told("t99 1 0;").due("rate(2, 0)", -98).due("rate(2, 1)", -1000000).due("rate(6, 0)", NO));
        String[] ahead = {
            "`type`, `clear`, `plain`, `town`, `bell`, `far`, `oath`, `now` the interface says: ---- the plain.",
            "`lots`, `trades`, `widens`, `undo` the interface says: ---- what is done.",
            "`inLots`, `cost`, `home`, `hang`, `round` the interface says: ---- where they hang.",
            "`crossed`, `oaths`, `strokes` the interface says: ---- oaths.",
            "`found`, `forget`, `which`, `odds` the interface says: ---- what was found, odds.",
            "`rate`, `keep`, `back`, `count`, `trace` the interface says: ---- kinds, images.",
        };
        for (String words : ahead) {
            Run.next(1, "Ahead of the calls " + words, () -> { });
        }
    }

    // ---- the promises

    private static void promise(int number, String name, String words, Runnable cases) {
        Run.next(number, "## Promise " + number + ": " + name + " " + words, cases);
    }

    private static void promisesOfThePlain() {
        promise(1, "A new object", "`BellLots()`: As told; no TOWNS.", () -> {
            Run x = each(each(new Run(), "count(*)", 0, 0, 0, 0, 0), "now(*)", 0, 0, 0, 0, 0).due("trace()", 0);
            refused(x, BAD, "town(0, 0)", "bell(0, 0)", "far(0, 0)", "oath(0, 0)", "hang(0)", "strokes(0, 0)");
            refused(x, STATE, "undo()", "back(0)", "back(1)");
        });
        promise(2, "type", "`int type(int letter)`: A letter (0 .. 255) comes to THE TEXT: how many it has. BAD; FULL.",
            () -> {
                Run x = refused(new Run().due("type(116)", 1).due("type(255)", 2).due("type(0)", 3), BAD, "type(-1)",
                    "type(256)");
                x.letters(" ".repeat(197)).due("type(32)", FULL).due("count(4)", 200);
            });
        promise(3, "clear", "`int clear()`: THE TEXT is empty: how many letters it had.", () ->
            told(ROW).due("clear()", 0).letters("t1x").due("clear()", 3).due("count(4)", 0).letters(ONE).due("plain()", 1));
        promise(4, "plain", "`int plain()`: THE TEXT tells all anew, and is empty then: how many ITEMS. -10 less FAULT: "
            + "nothing changes.", () -> {
                Run x = new Run().letters(ROW).due("plain()", 7).due("count(4)", 0).done("lots(5)").letters("t1 1 1;d");
                x.due("plain()", -18).due("count(4)", 8).due("count(0)", 3).due("now(0)", 1).due("now(4)", 1);
                bells(x, 2, 0, 1).due("clear()", 8).due("plain()", 0).due("count(0)", 0);
            });
        promise(5, "town", "`int town(int t, int what)`: Of a TOWN: 0 what its TOWER bears, 1 its BELL, 2 where its own BELL "
            + "hangs, 3 whether it is DUMB. BAD.", () -> {
                Run x = told(ROW).done("lots(5)");
                each(each(each(x, "town(0, *)", 30, 2, 1, 0), "town(1, *)", 20, 0, 2, 1), "town(2, *)", 40, 1, 0, 1);
                refused(x, BAD, "town(3, 0)", "town(-1, 0)", "town(0, 4)", "town(0, -1)");
            });
        promise(6, "bell", "`int bell(int b, int what)`: Of a BELL: 0 WEIGHT, 1 NOTE, 2 where it hangs, 3 FITS (bits). BAD.",
            () -> {
                Run x = told(ROW).done("lots(5)");
                each(each(each(x, "bell(0, *)", 10, 4, 1, 7), "bell(1, *)", 20, 4, 2, 7), "bell(2, *)", 30, 5, 0, 5);
                refused(x, BAD, "bell(3, 0)", "bell(-1, 0)", "bell(0, 4)", "bell(0, -1)");
            });
        promise(7, "far", "`int far(int a, int b)`: FAR; NONE. BAD.", () -> {
            Run x = told(THREE + "d2 0 7;").due("far(0, 2)", 7).due("far(0, 1)", NONE).due("far(1, 1)", 0);
            refused(x, BAD, "far(3, 0)", "far(0, 3)", "far(-1, 0)", "far(0, -1)");
        });
        promise(8, "oath", "`int oath(int i, int what)`: Of an OATH: 0 BELL, 1 TOWN, 2 TERM, 3 how it is (0 not due yet, 1 "
            + "KEPT, 2 BROKEN). BAD.", () -> {
                Run x = told(THREE + "o2 2 0;o2 1 0;o0 1 1;").done("lots(0)");
                each(each(each(x, "oath(0, *)", 2, 2, 0, 1), "oath(1, *)", 2, 1, 0, 2), "oath(2, *)", 0, 1, 1, 0);
                refused(x, BAD, "oath(3, 0)", "oath(-1, 0)", "oath(0, 4)", "oath(0, -1)");
            });
        promise(9, "now", "`int now(int what)`: 0 THE TERM, 1 how many TOWERS were CUT, 2 BELLS that are HOME (bits), 3 DUMB "
            + "(bits), 4 how many may be UNDONE. BAD.", () -> {
                Run x = each(told(ROW).done("lots(0)", "trades(0, 2)"), "now(*)", 1, 1, 2, 6, 2);
                refused(x, BAD, "now(5)", "now(-1)");
            });
    }

    private static void promisesOfWhatIsDone() {
        promise(10, "lots", "`int lots(int z)`: A LOT: how many TOWERS were CUT by it. BAD; STATE: it is TERM 60.", () -> {
            Run x = refused(told(ROW), BAD, "lots(-1)", "lots(10000)").due("lots(5)", 1).due("lots(3)", 1);
            x.due("lots(3)", 0).times(57, "lots(0)").due("now(0)", 60).due("lots(0)", STATE).due("now(0)", 60);
        });
        promise(11, "trades", "`int trades(int a, int b)`: TRADED: how many TOWERS were CUT by it. BAD (alike, too).", () -> {
            told("t5 5 0;t4 4 0;t9 3 0;").due("trades(0, 1)", 1).due("trades(0, 2)", 0).due("town(1, 0)", 5);
            refused(told(ROW), BAD, "trades(0, 0)", "trades(2, 2)", "trades(0, 3)", "trades(3, 0)", "trades(-1, 0)",
                "trades(0, -1)").due("now(4)", 0);
        });
        promise(12, "widens", "`int widens(int t, int n)`: WIDENED: what it bore. BAD; STATE: the BELL in it is heavier.",
            () -> {
                Run x = told(ROW).due("widens(0, 10)", 15).due("widens(0, 99)", 10).due("widens(1, 19)", STATE);
                refused(x, BAD, "widens(3, 9)", "widens(-1, 9)", "widens(0, 0)", "widens(0, 100)").due("now(4)", 2);
            });
        promise(13, "undo", "`int undo()`: UNDONE: how many more may be. STATE: none.", () -> {
            Run x = told(ROW).done("lots(5)", "trades(0, 1)").due("undo()", 1).due("undo()", 0).due("undo()", STATE);
            x.done("lots(7)").due("undo()", 0).due("undo()", STATE);
        });
    }

    private static void promisesOfWhereTheyHang() {
        promise(14, "inLots", "`int inLots(int z, int k, int t)`: IN LOTS: the BELL of a TOWN; t = -1: how many TOWERS. BAD.",
            () -> {
                // LOTS by 5, 6, 7: TOWNS 0, 1, 2 have BELLS 2 0 1, then 1 2 0, then 0 2 1
                each(told(ROW).due("inLots(5, 3, -1)", 2), "inLots(5, 3, *)", 0, 2, 1, BAD);
                refused(told(ROW), BAD, "inLots(-1, 1, 0)", "inLots(10000, 1, 0)", "inLots(5, -1, 0)", "inLots(5, 21, 0)",
                    "inLots(5, 1, 3)", "inLots(5, 1, -2)");
            });
        promise(15, "cost", "`int cost(int z)`: COST; NONE. BAD.", () -> {
            told(TWO + "d0 1 4;").due("cost(1)", 8).due("cost(0)", 0);
            refused(told(TWO).due("cost(1)", NONE), BAD, "cost(-1)", "cost(10000)");
        });
        promise(16, "home", "`int home(int what)`: TRADES HOME: how many (what = 0), the first (1; NONE). BAD.", () ->
            refused(each(each(told(ROW), "home(*)", 0, NONE).done("lots(5)"), "home(*)", 2, 1), BAD, "home(2)", "home(-1)"));
        promise(17, "hang", "`int hang(int t)`: HANG: how much (t = -1), the BELL of a TOWN; NONE. BAD.", () ->
            refused(each(told(ROW).done("lots(11)").due("hang(-1)", 0), "hang(*)", 1, 2, 0), BAD, "hang(3)", "hang(-2)"));
        promise(18, "round", "`int round(int z)`: ROUND. BAD.", () ->
            refused(told(THREE).due("round(11)", 3).due("round(1)", 2), BAD, "round(-1)", "round(10000)"));
    }

    private static void promisesOfOathsAndFinds() {
        promise(19, "crossed", "`int crossed()`: CROSSED; NONE.", () -> {
            told(THREE + "o0 0 5;o1 1 5;o2 1 5;").due("crossed()", 12).done("lots(0)").due("crossed()", 12);
            told(THREE + "o0 0 5;o1 1 5;o2 1 6;").due("crossed()", NONE);
        });
        promise(20, "oaths", "`int oaths(int what)`: OF OATHS: not due yet (what = 0), KEPT (1), BROKEN (2). BAD.", () ->
            refused(each(told(ROW).done("lots(0)", "lots(0)"), "oaths(*)", 0, 1, 1), BAD, "oaths(3)", "oaths(-1)"));
        promise(21, "strokes", "`int strokes(int b, int t)`: STROKES. BAD.", () -> {
            Run x = each(told(ROW).done("lots(7)", "lots(0)", "lots(0)"), "strokes(2, *)", 2, 0, 1);
            refused(x, BAD, "strokes(3, 0)", "strokes(0, 3)", "strokes(-1, 0)", "strokes(0, -1)");
        });
        promise(22, "found", "`int found(int b, int t)`: FOUND: how much there is. BAD; FULL.", () -> {
            Run x = refused(told(ROW), BAD, "found(3, 0)", "found(0, 3)", "found(-1, 0)", "found(0, -1)");
            x.due("found(0, 0)", 1).due("found(1, 1)", 2).due("found(2, 2)", 3).due("found(0, 1)", 4).due("found(0, 2)", 5);
            x.due("found(0, 0)", FULL).due("count(3)", 5);
        });
        promise(23, "forget", "`int forget()`: Nothing was FOUND: how much there was.", () ->
            told(ROW).due("forget()", 0).done("found(0, 1)", "found(0, 2)").due("which(0)", 0).due("forget()", 2)
                .due("count(3)", 0).due("which(0)", 1000).due("found(0, 0)", 1));
        promise(24, "which", "`int which(int what)`: WHICH: how many (what = 0), the least (1; NONE). BAD.", () -> {
            Run x = told(THREE).done("found(1, 0)", "found(2, 1)", "found(0, 2)");
            refused(each(x, "which(*)", 168, 11), BAD, "which(2)", "which(-1)").done("found(0, 0)");
            each(x, "which(*)", 0, NONE);
        });
        promise(25, "odds", "`int odds(int what)`: ODDS: upper (what = 0), lower number (1), in least terms. BAD.", () -> {
            each(told("t9 9 0;t9 9 0;t8 8 0;"), "odds(*)", 1, 3);
            refused(each(told(SIX), "odds(*)", 1, 1), BAD, "odds(2)", "odds(-1)");
        });
    }

    private static void promisesOfKindsAndImages() {
        promise(26, "rate", "`int rate(int kind, int b)`: RATE. NO: BAD.", () ->
            refused(told(ROW).due("rate(3, 2)", 70).due("rate(4, 0)", -5), NO, "rate(6, 0)", "rate(-1, 0)", "rate(0, 3)",
                "rate(0, -1)").due("trace()", 11112));
        promise(27, "keep", "`int keep(int image)`: An IMAGE is kept: THE TERM. BAD.", () ->
            refused(told(ROW).done("lots(5)").due("keep(0)", 1).done("lots(3)").due("keep(0)", 2), BAD, "keep(2)",
                "keep(-1)").due("undo()", 1).due("back(0)", 2));
        promise(28, "back", "`int back(int image)`: All of that becomes as an IMAGE has it: THE TERM. BAD; STATE: none was "
            + "kept.", () -> {
                Run x = told(ROW).due("keep(1)", 0).done("lots(5)", "lots(5)").due("back(0)", STATE).due("now(0)", 2);
                bells(x.due("back(1)", 0), 0, 1, 2).due("now(1)", 0).done("lots(5)").due("back(1)", 0).due("now(0)", 0);
                refused(x, BAD, "back(2)", "back(-1)");
            });
        promise(29, "count", "`int count(int what)`: 0 TOWNS, 1 ROADS, 2 OATHS, 3 FOUND, 4 letters of THE TEXT. BAD.", () -> {
            Run x = told(ROW + "o 1 1 1;").done("found(0, 0)", "found(1, 1)", "found(2, 2)", "found(0, 1)").letters("t 1 x");
            refused(each(x, "count(*)", 3, 2, 3, 4, 5), BAD, "count(5)", "count(-1)");
        });
        promise(30, "trace", "`long trace()`: THE TRACE.", () -> {
            Run x = told(ROW).done("rate(3, 0)").due("trace()", 1011).done("lots(5)", "keep(0)", "back(0)").letters(ONE);
            x.due("plain()", 1).due("trace()", 1011).done("rate(5, 0)").due("trace()", 101012);
        });
        Run.next(1, "## Not promised How the state is held inside the object is free, as are the speed of each call, the "
            + "text of toString and the behaviour of equals and hashCode. Use of one object from several threads at once is "
            + "not promised to be safe. Nothing is promised beyond the answers and state changes described above, and "
            + "nothing about an object after its 512th call.", () -> { });
    }

    public static void main(String[] args) {
        whatItIs();
        face();
        towns();
        texts();
        faults();
        lots();
        otherDeeds();
        asked();
        askedOfOaths();
        askedOfLots();
        kinds();
        images();
        whatIsRefused();
        promisesOfThePlain();
        promisesOfWhatIsDone();
        promisesOfWhereTheyHang();
        promisesOfOathsAndFinds();
        promisesOfKindsAndImages();
        if (!Run.unread().isBlank()) {
            Run.complain("not read of the document: " + Run.unread());
        }
        Run.end();
    }
}
