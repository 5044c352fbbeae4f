/** Each promise of the document by ordinary inputs, by the edges that it names and by wrong inputs. */
public final class PromisesTest {
    private static final int NONE = -1, UNKNOWN = -101, OUTSIDE = -102, STATE = -103, FULL = -104;
    private static int wrong = 0;
    private static int asked = 0;

    private static void due(String call, long got, long want) {
        asked++;
        if (got != want) {
            wrong++;
            System.out.println(call + " answered " + got + ", due is " + want);
        }
    }

    private static LentChanged typed(LentChanged x, String text) {
        for (int i = 0; i < text.length(); i++) {
            x.letter(text.charAt(i));
        }
        return x;
    }

    private static LentChanged townOf(String text) {
        LentChanged x = typed(new LentChanged(), text);
        x.town();
        return x;
    }

    private static int state(int first, int second, int third) {
        return first + 8 * second + 64 * third;
    }

    private static long mixed(long... numbers) {
        long h = 797;
        for (long number : numbers) {
            h = 31 * h + number;
        }
        return h;
    }

    // Promise 1
    private static void aNewObject() {
        LentChanged x = new LentChanged();
        for (int what = 0; what <= 7; what++) {
            due("new count(" + what + ")", x.count(what), 0);
        }
        due("new day", x.day(), STATE);
        due("new thing", x.thing(0), STATE);
        due("new image", x.image(), STATE);
        due("new restore", x.restore(), STATE);
        due("new hands", x.hands(0, 0, 0, 0), STATE);
        due("new years", x.years(1, 0, 0), STATE);
        due("new about", x.about(0, 0), UNKNOWN);
        due("new fault(0)", x.fault(0), 0);
        due("new fault(1)", x.fault(1), 0);
        due("new blank", x.blank(), 0);
        due("constants", LentChanged.NONE + LentChanged.UNKNOWN + LentChanged.OUTSIDE + LentChanged.STATE + LentChanged.FULL,
                -1 - 101 - 102 - 103 - 104);
    }

    // Promise 2
    private static void letters() {
        LentChanged x = new LentChanged();
        due("letter(31)", x.letter(31), OUTSIDE);
        due("letter(127)", x.letter(127), OUTSIDE);
        due("letter(MIN)", x.letter(Integer.MIN_VALUE), OUTSIDE);
        due("letter(32)", x.letter(32), 1);
        due("letter(126)", x.letter(126), 2);
        for (int i = 3; i <= 30; i++) {
            due("letter " + i, x.letter('a'), i);
        }
        due("letter 31", x.letter('a'), FULL);
        due("letter OUTSIDE ahead of FULL", x.letter(31), OUTSIDE);
        due("count(5)", x.count(5), 30);
        due("full page mixed in order", x.digest(), digestOfFullPage());
    }

    private static long digestOfFullPage() {
        long[] numbers = new long[38];
        numbers[0] = 32;
        numbers[1] = 126;
        for (int i = 2; i < 30; i++) {
            numbers[i] = 'a';
        }
        numbers[35] = 30;
        return mixed(numbers);
    }

    // Promise 3
    private static void blanks() {
        LentChanged x = typed(new LentChanged(), "a01");
        due("blank of 3", x.blank(), 3);
        due("blank of 0", x.blank(), 0);
        due("count(5) of a blank page", x.count(5), 0);
        due("letter behind blank", x.letter('a'), 1);
    }

    // Promise 4
    private static void faults() {
        String[] texts = {"", "a", "b", "a0", "a3", "a/", "a01", "a00", "a08", "a011", "a010", "a016", "a011,", "a011;",
            "a011,a", "a011,a011", "a0110", "s275,t111,w222,d233", "A011", " a011", "a011,,", "a011,a011,a011,a011,a011,a011",
            "a011,a011,a011,a011,a011,a011,", "a011,a011,a011,a011,a011,a0111"};
        int[] places = {0, 1, 0, 2, 1, 1, 3, 2, 2, 4, 3, 3, 5, 4, 6, 9, 4, 19, 0, 0, 5, 29, 29, 29};
        for (int i = 0; i < texts.length; i++) {
            due("fault(0) of " + texts[i], typed(new LentChanged(), texts[i]).fault(0), places[i]);
        }
        due("fault(1) without a town", typed(new LentChanged(), "0").fault(1), 0);
        due("fault(-1)", new LentChanged().fault(-1), OUTSIDE);
        due("fault(2)", new LentChanged().fault(2), OUTSIDE);
        LentChanged x = townOf("a011,a011,a011");
        due("fault(1) of the empty page", x.fault(1), 0);
        typed(x, "0120");
        due("fault(1) of 0120", x.fault(1), 4);
        typed(x, "3");
        due("fault(1) of 01203", x.fault(1), 4);
        x.blank();
        typed(x, "01201201");
        due("fault(1) of eight", x.fault(1), 8);
        typed(x, "0");
        due("fault(1) of nine", x.fault(1), 8);
        x.blank();
        typed(x, "0/");
        due("fault(1) of 0/", x.fault(1), 1);
        typed(x, ":");
        due("fault(1) of 0/:", x.fault(1), 1);
    }

    // Promise 5
    private static void towns() {
        String[] none = {"", "a", "a011", "a011,", "a011,a01", "a011,a011,", "a011a011", "b011,a011", "a011,a011,a011,a011,a011,a011,"};
        for (String text : none) {
            LentChanged x = typed(new LentChanged(), text);
            due("town of " + text, x.town(), STATE);
            due("page of no town stays " + text, x.count(5), text.length());
            due("no town was read " + text, x.count(6), 0);
        }
        LentChanged x = typed(new LentChanged(), "a011,s275");
        due("town of two", x.town(), 2);
        due("page of a town", x.count(5), 0);
        due("count(0)", x.count(0), 2);
        due("count(6)", x.count(6), 1);
        x.thing(5);
        x.lend(0, 0);
        x.day();
        typed(x, "zz");
        due("no town over a town", x.town(), STATE);
        due("THINGS stay", x.count(1), 1);
        due("DAYS stay", x.count(3), 1);
        due("BORROWERS stay", x.count(0), 2);
        x.blank();
        typed(x, "a011,a011,a011,a011,a011,a011");
        due("town of six", x.town(), 6);
        due("THINGS are gone", x.count(1), 0);
        due("DAYS are gone", x.count(3), 0);
        due("towns read", x.count(6), 2);
        due("he has none", x.about(0, 4), NONE);
        x.thing(7);
        due("a new THING was never back", x.thingOf(0, 5), 0);
        due("a new THING is at home", x.thingOf(0, 4), NONE);
    }

    // Promise 6
    private static void abouts() {
        LentChanged x = townOf("a012,s123,t234,w045,d171");
        int[][] want = {{0, 0, 1, 2}, {1, 1, 2, 3}, {2, 2, 3, 4}, {3, 0, 4, 5}, {4, 1, 7, 1}};
        for (int borrower = 0; borrower < 5; borrower++) {
            for (int what = 0; what < 4; what++) {
                due("about(" + borrower + ", " + what + ")", x.about(borrower, what), want[borrower][what]);
            }
            due("about has none", x.about(borrower, 4), NONE);
            due("about no days", x.about(borrower, 5), 0);
        }
        x.thing(0);
        x.thing(1);
        x.lend(1, 3);
        due("he has THING 1", x.about(3, 4), 1);
        due("for 5 DAYS", x.about(3, 5), 5);
        x.day();
        due("for 4 DAYS", x.about(3, 5), 4);
        due("about(-1)", x.about(-1, 0), UNKNOWN);
        due("about(5)", x.about(5, 9), UNKNOWN);
        due("about(0, 6)", x.about(0, 6), OUTSIDE);
        due("about(0, -1)", x.about(0, -1), OUTSIDE);
    }

    // Promise 7
    private static void casts() {
        LentChanged x = townOf("d012,w123,t234,s045,a171");
        int[] kinds = {4, 3, 2, 1, 0};
        for (int borrower = 0; borrower < 5; borrower++) {
            for (int kind = 0; kind < 5; kind++) {
                boolean is = kind == 0 || kind == kinds[borrower] || kinds[borrower] == 4 && kind == 1;
                due("as(" + borrower + ", " + kind + ")", x.as(borrower, kind), is ? borrower : NONE);
            }
        }
        due("as(5, 9)", x.as(5, 9), UNKNOWN);
        due("as(-1, 0)", x.as(-1, 0), UNKNOWN);
        due("as(0, 5)", x.as(0, 5), OUTSIDE);
        due("as(0, -1)", x.as(0, -1), OUTSIDE);
    }

    // Promise 8
    private static void things() {
        due("thing OUTSIDE ahead of STATE", new LentChanged().thing(512), OUTSIDE);
        LentChanged x = townOf("a011,a011");
        due("thing(-1)", x.thing(-1), OUTSIDE);
        due("thing(512)", x.thing(512), OUTSIDE);
        due("thing(0)", x.thing(0), 0);
        due("thing(511)", x.thing(511), 1);
        due("thing(3)", x.thing(3), 2);
        due("thing(3) again", x.thing(3), 3);
        due("thing of five", x.thing(3), FULL);
        due("thing OUTSIDE ahead of FULL", x.thing(-1), OUTSIDE);
        due("count(1)", x.count(1), 4);
    }

    // Promise 9
    private static void thingsTold() {
        LentChanged x = townOf("a012,t131");
        x.thing(state(7, 2, 5));
        int[] home = {7, 2, 5, state(7, 2, 5), NONE, 0, state(7, 2, 5)};
        for (int what = 0; what <= 6; what++) {
            due("at home thingOf " + what, x.thingOf(0, what), home[what]);
        }
        x.lend(0, 0);
        int[] lent = {7, 2, 5, state(7, 2, 5), 0, 0, state(0, 2, 5)};
        for (int what = 0; what <= 6; what++) {
            due("lent thingOf " + what, x.thingOf(0, what), lent[what]);
        }
        x.day();
        due("still lent", x.thingOf(0, 4), 0);
        x.day();
        int[] back = {0, 2, 5, state(0, 2, 5), NONE, 1, state(0, 2, 5)};
        for (int what = 0; what <= 6; what++) {
            due("back thingOf " + what, x.thingOf(0, what), back[what]);
        }
        due("thingOf(1)", x.thingOf(1, 7), UNKNOWN);
        due("thingOf(-1)", x.thingOf(-1, 0), UNKNOWN);
        due("thingOf(0, 7)", x.thingOf(0, 7), OUTSIDE);
        due("thingOf(0, -1)", x.thingOf(0, -1), OUTSIDE);
    }

    // Promise 10
    private static void loans() {
        LentChanged x = townOf("a012,t135");
        x.thing(0);
        x.thing(1);
        due("lend(2, 0)", x.lend(2, 0), UNKNOWN);
        due("lend(-1, 0)", x.lend(-1, 0), UNKNOWN);
        due("lend(0, 2)", x.lend(0, 2), UNKNOWN);
        due("lend(0, -1)", x.lend(0, -1), UNKNOWN);
        due("lend(0, 1)", x.lend(0, 1), 5);
        due("lent already", x.lend(0, 0), STATE);
        due("he has one", x.lend(1, 1), STATE);
        due("UNKNOWN ahead of STATE", x.lend(0, 2), UNKNOWN);
        due("lend(1, 0)", x.lend(1, 0), 2);
        due("count(2)", x.count(2), 2);
    }

    // Promise 11
    private static void days() {
        LentChanged x = townOf("a011,t012,s211");
        due("day of no THINGS", x.day(), 0);
        x.thing(0);
        x.thing(0);
        x.thing(0);
        x.lend(0, 0);
        x.lend(1, 1);
        x.lend(2, 2);
        due("two come back", x.day(), 2);
        due("changed by 0", x.thingOf(0, 3), 1);
        due("not yet by 1", x.thingOf(1, 3), 0);
        due("changed by 2", x.thingOf(2, 3), 64);
        due("lent to 0 again", x.lend(0, 0), 1);
        due("two more", x.day(), 2);
        due("changed by 1", x.thingOf(1, 3), 7);
        due("changed twice by 0", x.thingOf(0, 3), 2);
        due("came back twice", x.thingOf(0, 5), 2);
        due("a day of none", x.day(), 0);
        due("DAYS", x.count(3), 4);
    }

    // Promise 12
    private static void changes() {
        LentChanged x = townOf("a031,s131,t231,w031,w231,d131");
        due("adder below 8", x.by(0, state(4, 1, 1)), state(7, 1, 1));
        due("adder above 7", x.by(0, state(5, 1, 1)), state(0, 1, 1));
        due("adder far above 7", x.by(0, state(7, 1, 1)), state(2, 1, 1));
        due("setter", x.by(1, state(4, 7, 1)), state(4, 3, 1));
        due("turner", x.by(2, state(4, 7, 1)), state(4, 7, 6));
        due("swapper", x.by(3, state(4, 7, 1)), state(7, 4, 1));
        due("swapper of the last", x.by(4, state(4, 7, 1)), state(1, 7, 4));
        due("doubler", x.by(5, state(4, 3, 1)), state(4, 6, 1));
        due("doubler above 7", x.by(5, state(4, 7, 1)), state(4, 6, 1));
        due("doubler of 4", x.by(5, state(4, 4, 1)), state(4, 0, 1));
        due("by(6)", x.by(6, -1), UNKNOWN);
        due("by(-1)", x.by(-1, 0), UNKNOWN);
        due("by(0, 512)", x.by(0, 512), OUTSIDE);
        due("by(0, -1)", x.by(0, -1), OUTSIDE);
    }

    // Promise 13
    private static void wishes() {
        LentChanged x = townOf("a015,a011,a021,a025");
        x.thing(0);
        due("so already, loans", x.wished(0, 0, 0), 0);
        due("so already, first", x.wished(0, 0, 1), NONE);
        due("so already, DAYS", x.wished(0, 0, 2), 0);
        due("so already, first by DAYS", x.wished(0, 0, 3), NONE);
        due("3 by loans", x.wished(0, 3, 0), 2);
        due("3 by loans, first", x.wished(0, 3, 1), 0);
        due("3 by DAYS", x.wished(0, 3, 2), 2);
        due("3 by DAYS, first", x.wished(0, 3, 3), 1);
        due("2 by loans", x.wished(0, 2, 0), 1);
        due("2 by loans, first", x.wished(0, 2, 1), 2);
        due("never, loans", x.wished(0, 8, 0), NONE);
        due("never, first", x.wished(0, 8, 1), NONE);
        due("never, DAYS", x.wished(0, 8, 2), NONE);
        due("never, first by DAYS", x.wished(0, 8, 3), NONE);
        x.lend(0, 2);
        due("lent: as it will come back", x.wished(0, 3, 0), 1);
        due("lent: so already", x.wished(0, 2, 0), 0);
        due("wished(1)", x.wished(1, 512, 0), UNKNOWN);
        due("wished(-1)", x.wished(-1, 0, 0), UNKNOWN);
        due("wished state 512", x.wished(0, 512, 0), OUTSIDE);
        due("wished state -1", x.wished(0, -1, 0), OUTSIDE);
        due("wished what 4", x.wished(0, 0, 4), OUTSIDE);
        due("wished what -1", x.wished(0, 0, -1), OUTSIDE);
        LentChanged y = townOf("s011,a011,s021");
        y.thing(2);
        due("more loans, fewer DAYS", townFarWay().wished(0, 3, 2), 3);
        due("more loans, first", townFarWay().wished(0, 3, 3), 0);
        due("fewest loans, more DAYS", townFarWay().wished(0, 3, 0), 1);
        due("fewest loans, first", townFarWay().wished(0, 3, 1), 1);
        due("of two rows, none by the first borrower", y.wished(0, 3, 1), 1);
        due("behind another search", x.wished(0, 3, 2), 1);
        typed(x, "a015,a014");
        x.town();
        x.thing(2);
        due("another town, the same STATE, loans", x.wished(0, 4, 0), 2);
        due("another town, the same STATE, DAYS", x.wished(0, 4, 2), 8);
        due("another town, the same STATE, first", x.wished(0, 4, 3), 1);
    }

    private static LentChanged townFarWay() {
        LentChanged x = townOf("a011,s034");
        x.thing(0);
        return x;
    }

    // Promise 14
    private static void reaches() {
        LentChanged x = townOf("a011,a111,a211");
        x.thing(0);
        due("reach of all", x.reach(0), 512);
        LentChanged y = townOf("s021,s041");
        y.thing(2);
        y.thing(3);
        due("that which it has, too", y.reach(0), 2);
        due("and two more", y.reach(1), 3);
        y.lend(1, 0);
        due("lent: as it will come back", y.reach(1), 2);
        due("reach(2)", y.reach(2), UNKNOWN);
        due("reach(-1)", y.reach(-1), UNKNOWN);
        typed(y, "a011,a011");
        y.town();
        y.thing(2);
        due("another town, the same STATE", y.reach(0), 8);
    }

    // Promise 15
    private static void spoiled() {
        LentChanged x = townOf("a011,s011,t011,s121");
        x.thing(state(5, 5, 5));
        due("two spoil", x.spoilers(0, 0, 2), 3);
        due("none spoils that TRAIT", x.spoilers(0, 2, 5), 0);
        due("it is so now", x.spoilers(0, 2, 6), NONE);
        due("one spoils", x.spoilers(0, 1, 3), 8);
        due("not below so much", x.spoilers(0, 1, 2), 0);
        x.lend(0, 1);
        due("lent: it will be so", x.spoilers(0, 0, 2), NONE);
        due("lent: it will not be so", x.spoilers(0, 0, 1), 1);
        LentChanged y = townOf("s061,w031,s111");
        y.thing(state(7, 7, 7));
        due("of like ones the least bits", y.spoilers(0, 0, 5), 2);
        LentChanged z = townOf("s211,w211,t121");
        z.thing(state(7, 7, 7));
        due("either of two: the least", z.spoilers(0, 0, 5), 1);
        LentChanged fewer = townOf("s111,s121,w031");
        fewer.thing(state(7, 7, 7));
        due("one of more bits ahead of two of less", fewer.spoilers(0, 0, 5), 4);
        LentChanged now = townOf("s071,s061");
        now.thing(0);
        due("so now, though not behind any loan", now.spoilers(0, 0, 1), NONE);
        due("spoilers(1)", x.spoilers(1, 3, 0), UNKNOWN);
        due("spoilers(-1)", x.spoilers(-1, 0, 1), UNKNOWN);
        due("spoilers trait 3", x.spoilers(0, 3, 1), OUTSIDE);
        due("spoilers trait -1", x.spoilers(0, -1, 1), OUTSIDE);
        due("spoilers least 0", x.spoilers(0, 0, 0), OUTSIDE);
        due("spoilers least 8", x.spoilers(0, 0, 8), OUTSIDE);
        due("spoilers least 7", x.spoilers(0, 0, 7), NONE);
    }

    // Promise 16
    private static void rounds() {
        LentChanged x = townOf("a011,t011,s111,w011,w111,a171");
        due("the empty page is none", x.round(0, 0), STATE);
        due("round state 512", x.round(512, 0), OUTSIDE);
        due("round state -1", x.round(-1, 1), OUTSIDE);
        due("round what 2", x.round(0, 2), OUTSIDE);
        due("round what -1", x.round(0, -1), OUTSIDE);
        String[] texts = {"0", "00", "11", "1", "2", "34", "05", "01", "0345", "03"};
        int[] backs = {8, 4, 1, 2, NONE, 3, 8, 2, 3, 16};
        for (int i = 0; i < texts.length; i++) {
            typed(x, texts[i]);
            due("BACK of " + texts[i], x.round(511, 0), backs[i]);
            due("the page stays", x.blank(), texts[i].length());
        }
        typed(x, "034");
        due("BACK of 034", x.round(0, 0), 24);
        due("ENDS of 034", x.round(state(1, 2, 3), 1), state(2, 3, 2));
        typed(x, "6");
        due("none such in town", x.round(0, 1), STATE);
        due("no round without a town", typed(new LentChanged(), "0").round(0, 0), STATE);
        LentChanged y = townOf("a011,w011,w111,t111");
        typed(y, "01200101");
        due("eight digits", y.round(0, 1), endOf(y, "01200101", 0));
        typed(y, "0");
        due("nine digits", y.round(0, 1), STATE);
    }

    private static int endOf(LentChanged x, String round, int state) {
        int end = state;
        for (int i = 0; i < round.length(); i++) {
            end = x.by(round.charAt(i) - '0', end);
        }
        return end;
    }

    // Promise 17
    private static void handsTold() {
        LentChanged x = townOf("a011,a021,a131");
        due("hands(-1)", x.hands(-1, 0, 0, 0), OUTSIDE);
        due("hands to 512", x.hands(0, 512, 0, 0), OUTSIDE);
        due("hands loans 7", x.hands(0, 0, 7, 0), OUTSIDE);
        due("hands loans -1", x.hands(0, 0, -1, 0), OUTSIDE);
        due("hands what 2", x.hands(0, 0, 0, 2), OUTSIDE);
        due("refused ones are not counted", x.count(7), 0);
        due("no loans, the same", x.hands(9, 9, 0, 0), 1);
        due("no loans, in each none", x.hands(9, 9, 0, 1), 0);
        due("no loans, another", x.hands(9, 8, 0, 0), 0);
        due("3 by two", x.hands(0, 3, 2, 0), 2);
        due("both in each", x.hands(0, 3, 2, 1), 3);
        due("4 by three", x.hands(0, 4, 3, 0), 3);
        due("4 by three, in each", x.hands(0, 4, 3, 1), 3);
        due("no row", x.hands(0, 4, 1, 0), 0);
        due("no row, none in each", x.hands(0, 4, 1, 1), 0);
        due("the third alone", x.hands(0, 24, 1, 1), 4);
        due("rows of six", x.hands(0, state(7, 3, 0), 6, 0), 60);
        due("done", x.count(7), 11);
        typed(x, "a011,a011");
        x.town();
        x.image();
        for (int i = 12; i <= 60; i++) {
            due("either of two", x.hands(0, 1, 1, 1), 0);
        }
        due("count(7) at the most", x.count(7), 60);
        due("done 60 times", x.hands(0, 1, 1, 1), STATE);
        x.restore();
        due("counts on behind restore()", x.hands(0, 1, 1, 1), STATE);
        typed(x, "a011,a011");
        x.town();
        due("counts on behind town()", x.hands(0, 1, 1, 1), STATE);
        due("OUTSIDE ahead of STATE", x.hands(0, 1, 1, 2), OUTSIDE);
        due("count(7) stays", x.count(7), 60);
    }

    // Promise 18
    private static void yearsToCome() {
        LentChanged x = townOf("a011,a111,t231");
        due("no THINGS", x.years(1, 0, 0), STATE);
        due("OUTSIDE ahead of STATE", x.years(0, 0, 0), OUTSIDE);
        x.thing(state(1, 2, 3));
        due("years(0)", x.years(0, 0, 0), OUTSIDE);
        due("years(91)", x.years(91, 0, 0), OUTSIDE);
        due("years seed -1", x.years(1, -1, 0), OUTSIDE);
        due("years what 3", x.years(1, 0, 3), OUTSIDE);
        due("years what -1", x.years(1, 0, -1), OUTSIDE);
        // SEED 0 goes on as 12345, then as 1406932606: the borrower is 21468 % 3 = 0.
        due("the SEED behind two DRAWS", x.years(1, 0, 2), 1406932606L);
        due("lent to 0", x.years(1, 0, 0), state(2, 2, 3));
        due("TRAITS of all", x.years(1, 0, 1), 7);
        due("nothing is changed", x.thingOf(0, 3), state(1, 2, 3));
        due("no DAY went by", x.count(3), 0);
        x.thing(state(1, 1, 1));
        x.thing(state(7, 0, 0));
        x.lend(0, 2);
        x.lend(2, 0);
        // 12345 / 65536 % 3 = 0: THING 0, as it will come back (TRAIT 2 is 4 then), goes to 0; THING 2 is 0 then.
        due("lent ones are as they will come back", x.years(1, 0, 0), state(2, 2, 4));
        due("TRAITS of all, lent ones come back", x.years(1, 0, 1), 8 + 3);
        // Behind 1406932606 come 654583775 (9988 % 3 = 1) and 1449466924 (22117 % 3 = 1): THING 1 goes to 1.
        due("the second time", x.years(2, 0, 1), 8 + 4);
        due("the second time, the first THING", x.years(2, 0, 0), state(2, 2, 4));
        // From 12345 on: 21468 % 3 = 0 is the THING, 9988 % 3 = 1 the BORROWER.
        due("a DRAW of the THING, then one of the BORROWER", x.years(1, 12345, 0), state(1, 3, 4));
        due("the highest seed", x.years(1, Integer.MAX_VALUE, 2), 288979989L);
        due("90 times", x.years(90, 0, 2), seedBehind(180));
    }

    private static long seedBehind(int draws) {
        long seed = 0;
        for (int i = 0; i < draws; i++) {
            seed = (1103515245L * seed + 12345L) % 2147483648L;
        }
        return seed;
    }

    // Promises 19 and 20
    private static void images() {
        LentChanged x = townOf("a012,a111");
        due("restore without an image", x.restore(), STATE);
        x.thing(3);
        x.lend(0, 0);
        x.day();
        due("image behind a DAY", x.image(), 1);
        x.day();
        x.thing(4);
        x.lend(1, 1);
        x.day();
        typed(x, "01");
        due("DAYS before restore", x.count(3), 3);
        due("restore", x.restore(), 1);
        due("the later THING is gone", x.count(1), 1);
        due("lent as it was", x.thingOf(0, 4), 0);
        due("its STATE as it was", x.thingOf(0, 3), 3);
        due("it never came back", x.thingOf(0, 5), 0);
        due("how long still", x.about(0, 5), 1);
        due("he has none", x.about(1, 4), NONE);
        due("DAYS behind restore", x.count(3), 1);
        due("THE PAGE is not of the image", x.count(5), 2);
        due("it comes back again", x.day(), 1);
        due("the next THING's number", x.thing(5), 1);
        due("a new THING is at home", x.thingOf(1, 4), NONE);
        due("restore again", x.restore(), 1);
        due("a later image", x.image(), 1);
        x.day();
        due("the latest image", x.image(), 2);
        x.day();
        due("restore the latest", x.restore(), 2);
        x.blank();
        typed(x, "zz");
        x.town();
        due("no town was read", x.restore(), 2);
        x.blank();
        typed(x, "a012,a111");
        x.town();
        due("the same town was read", x.restore(), STATE);
        due("image of a new town", x.image(), 0);
        x.thing(0);
        due("restore to no THINGS", x.restore(), 0);
        due("no THINGS", x.count(1), 0);
        due("towns read", x.count(6), 2);
    }

    // Promise 21
    private static void counts() {
        LentChanged x = townOf("a012,a111,s211");
        x.thing(state(1, 2, 3));
        x.thing(state(7, 7, 7));
        x.lend(0, 0);
        x.day();
        x.hands(0, 0, 0, 0);
        x.hands(0, 0, 0, 0);
        typed(x, "0123");
        int[] want = {3, 2, 1, 1, 27, 4, 1, 2};
        for (int what = 0; what <= 7; what++) {
            due("count(" + what + ")", x.count(what), want[what]);
        }
        x.day();
        due("TRAITS as they are now", x.count(4), 28);
        due("none is lent", x.count(2), 0);
        due("count(-1)", x.count(-1), OUTSIDE);
        due("count(8)", x.count(8), OUTSIDE);
    }

    // Promise 22
    private static void digests() {
        due("digest of a new object", new LentChanged().digest(), mixed(0, 0, 0, 0, 0, 0, 0, 0));
        due("digest of a page", typed(new LentChanged(), "ab").digest(), mixed(97, 98, 0, 0, 0, 0, 0, 2, 0, 0));
        LentChanged x = townOf("a012,s131");
        x.thing(state(6, 3, 0));
        x.lend(0, 0);
        typed(x, "0");
        // Behind the loan it is 7, 3, 0; it can be 0 to 7, 3, 0; never 0, 0, 0.
        due("digest of a town", x.digest(), mixed(
                0, 0, 1, 2, 0, 2,
                1, 1, 3, 1, NONE, 0,
                6, 3, 0, 30, 0, 0, 31,
                8, NONE, NONE, NONE, NONE,
                48,
                2, 1, 1, 0, 9, 1, 1, 0));
    }

    public static void main(String[] args) {
        aNewObject();
        letters();
        blanks();
        faults();
        towns();
        abouts();
        casts();
        things();
        thingsTold();
        loans();
        days();
        changes();
        wishes();
        reaches();
        spoiled();
        rounds();
        handsTold();
        yearsToCome();
        images();
        counts();
        digests();
        System.out.println("PromisesTest: " + asked + " answers, " + wrong + " wrong");
        if (wrong != 0) {
            System.exit(1);
        }
    }
}
