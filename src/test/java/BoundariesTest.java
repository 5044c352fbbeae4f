import java.math.BigInteger;
import java.util.ArrayList;
import java.util.Arrays;
import java.util.List;
import java.util.function.Supplier;
import java.util.function.ToLongFunction;

/**
 * Each sentence of the document that names a boundary case has a test of its own here: the value just inside,
 * the value just outside and, where a call is refused, that nothing has changed by it.
 */
public final class BoundariesTest {
    private static final int NONE = -1, UNKNOWN = -101, OUTSIDE = -102, STATE = -103, FULL = -104;
    private static final int LEAST = Integer.MIN_VALUE, MOST = Integer.MAX_VALUE;
    /** One of each KIND and one more; DAYS from 5 down to 1, each TRAIT, the least MUCH and the most. */
    private static final String SIX = "a015,s124,t233,w042,d151,a271";
    private static int wrong = 0;
    private static int asked = 0;
    private static String testing = "";

    // ---- what the tests are made of

    private interface Test {
        void run();
    }

    private static void test(String sentence, Test test) {
        testing = sentence;
        try {
            test.run();
        } catch (RuntimeException | Error e) {
            wrong++;
            System.out.println(testing + ": " + e);
        }
    }

    private static void due(String call, long got, long want) {
        due(call, Long.toString(got), Long.toString(want));
    }

    private static void due(String call, String got, String want) {
        asked++;
        if (!got.equals(want)) {
            wrong++;
            System.out.println(testing + ": " + call + " answered " + got + ", due is " + want);
        }
    }

    /** The call is refused so, and neither what is told nor what comes then is another than without it. */
    private static void refused(String call, Supplier<LentChanged> made, ToLongFunction<LentChanged> asks, int want) {
        LentChanged x = made.get();
        String before = told(x);
        due(call, asks.applyAsLong(x), want);
        due("what is told behind " + call, told(x), before);
        due("what comes behind " + call, toCome(x), toCome(made.get()));
    }

    /** The call is refused so in each of three states of an object: new, with a TOWN alone, with all that there can be. */
    private static void refusedEverywhere(String call, ToLongFunction<LentChanged> asks, int want) {
        refused(call + " of a new object", LentChanged::new, asks, want);
        refused(call + " in a TOWN", () -> townOf(SIX), asks, want);
        refused(call + " in a busy TOWN", BoundariesTest::busy, asks, want);
    }

    private static String told(LentChanged x) {
        StringBuilder all = new StringBuilder();
        for (int what = 0; what <= 7; what++) {
            all.append(x.count(what)).append(' ');
        }
        all.append(x.digest()).append(' ').append(x.fault(0)).append(' ').append(x.fault(1));
        all.append(' ').append(x.round(77, 0)).append(' ').append(x.round(77, 1));
        for (int what = 0; what <= 2; what++) {
            all.append(' ').append(x.years(3, 7, what)).append(' ').append(x.spoilers(what, what, 1));
        }
        for (int borrower = 0; borrower < 6; borrower++) {
            all.append(' ').append(x.by(borrower, 99));
        }
        return all.toString();
    }

    /** Goes on with the object through calls of each sort, and tells what they answered. */
    private static String toCome(LentChanged x) {
        StringBuilder all = new StringBuilder();
        for (int day = 0; day < 3; day++) {
            all.append(' ').append(x.lend(day, 0)).append(' ').append(x.day()).append(' ').append(x.digest());
        }
        all.append(' ').append(x.restore()).append('\n').append(told(x));
        for (int day = 0; day < 5; day++) {
            all.append(' ').append(x.day()).append(' ').append(x.digest());
        }
        all.append(' ').append(x.thing(9)).append(' ').append(x.letter('0')).append(' ').append(x.image());
        all.append(' ').append(x.hands(1, 2, 3, 0)).append('\n').append(told(x));
        all.append(' ').append(x.town()).append(' ').append(x.blank());
        typed(x, "a011,w121");
        all.append(' ').append(x.fault(0)).append(' ').append(x.town()).append(' ').append(x.restore());
        all.append(' ').append(x.thing(10)).append(' ').append(x.lend(0, 1)).append('\n').append(told(x));
        return all.toString();
    }

    private static LentChanged typed(LentChanged x, String text) {
        for (char letter : text.toCharArray()) {
            x.letter(letter);
        }
        return x;
    }

    private static LentChanged page(String text) {
        return typed(new LentChanged(), text);
    }

    private static LentChanged townOf(String text) {
        LentChanged x = page(text);
        x.town();
        return x;
    }

    private static LentChanged townWith(String text, int... states) {
        LentChanged x = townOf(text);
        for (int state : states) {
            x.thing(state);
        }
        return x;
    }

    private static LentChanged roundIn(String town, String round) {
        return typed(townOf(town), round);
    }

    /** All that there can be: THINGS at home and lent, DAYS, an IMAGE of other ones, a ROUND, hands() done. */
    private static LentChanged busy() {
        LentChanged x = townWith(SIX, 140, 511, 0);
        x.lend(0, 0);
        x.lend(1, 3);
        x.day();
        x.image();
        x.thing(73);
        x.lend(2, 5);
        x.hands(0, 0, 0, 0);
        return typed(x, "0123");
    }

    private static LentChanged handsDone(int times) {
        LentChanged x = townWith("a011,a021", 3);
        for (int i = 0; i < times; i++) {
            x.hands(0, 1, 1, 0);
        }
        return x;
    }

    private static LentChanged imageOfAnotherTown(String text) {
        LentChanged x = townWith("a012,w121", 5);
        x.image();
        typed(x, text);
        x.town();
        x.thing(6);
        return x;
    }

    private static int state(int first, int second, int third) {
        return first + 8 * second + 64 * third;
    }

    /** How the document changes a STATE, in its words. */
    private static int changed(char letter, int trait, int much, int state) {
        int[] traits = {state % 8, state / 8 % 8, state / 64};
        int was = traits[trait];
        if (letter == 'a') {
            traits[trait] = was + much > 7 ? was + much - 8 : was + much;
        } else if (letter == 's') {
            traits[trait] = much;
        } else if (letter == 't') {
            traits[trait] = 7 - was;
        } else if (letter == 'w') {
            int next = trait == 2 ? 0 : trait + 1;
            traits[trait] = traits[next];
            traits[next] = was;
        } else {
            traits[trait] = 2 * was % 8;
        }
        return state(traits[0], traits[1], traits[2]);
    }

    private static int changed(String borrower, int state) {
        return changed(borrower.charAt(0), borrower.charAt(1) - '0', borrower.charAt(2) - '0', state);
    }

    private static boolean isOfTown(int place, int code) {
        String[] signs = {"astwd", "012", "1234567", "12345", ","};
        return place < 29 && signs[place % 5].indexOf(code) >= 0;
    }

    private static String filled(int letters) {
        return "?".repeat(letters);
    }

    // ---- "What it is", "The public face"

    private static void howManyBorrowers() {
        for (int many = 0; many <= 6; many++) {
            String text = SIX.substring(0, Math.max(0, 5 * many - 1));
            if (many < 2) {
                refused("town() of " + many, () -> page(text), LentChanged::town, STATE);
            } else {
                LentChanged x = page(text);
                due("fault(0) of " + many, x.fault(0), text.length());
                due("town() of " + many, x.town(), many);
                due("count(0)", x.count(0), many);
                due("the last one", x.about(many - 1, 3), Math.max(1, 6 - many));
                due("one behind the last", x.about(many, 3), UNKNOWN);
            }
        }
        String seven = SIX + ",a011";
        due("fault(0) of seven", page(seven).fault(0), 29);
        refused("town() of seven", () -> page(seven), LentChanged::town, STATE);
    }

    private static void numberedFromZero() {
        LentChanged x = townOf("t234,d112");
        due("KIND of 0", x.about(0, 0), 2);
        due("KIND of 1", x.about(1, 0), 4);
        due("KIND of 2", x.about(2, 0), UNKNOWN);
    }

    private static void townsBySigns() {
        for (int place = 0; place < 29; place++) {
            for (int code = 32; code <= 126; code++) {
                String text = SIX.substring(0, place) + (char) code + SIX.substring(place + 1);
                if (isOfTown(place, code)) {
                    due("town() of " + text, page(text).town(), 6);
                } else {
                    refused("town() of " + text, () -> page(text), LentChanged::town, STATE);
                }
            }
        }
    }

    private static void townsByLength() {
        for (int length = 0; length <= 29; length++) {
            String text = SIX.substring(0, length);
            if (length >= 9 && length % 5 == 4) {
                due("town() of " + text, page(text).town(), (length + 1) / 5);
            } else {
                refused("town() of " + text, () -> page(text), LentChanged::town, STATE);
            }
        }
        for (String text : new String[] {SIX + ",", SIX + "1", "," + SIX, " " + SIX, "a011,,a011", ",a011,a011", "a011a011", "a011, a011"}) {
            refused("town() of " + text, () -> page(text), LentChanged::town, STATE);
        }
    }

    private static void borrowersBySigns() {
        String letters = "astwd";
        for (int kind = 0; kind < 5; kind++) {
            for (int trait = 0; trait <= 2; trait++) {
                for (int much = 1; much <= 7; much++) {
                    int days = 1 + (much + trait) % 5;
                    LentChanged x = townOf("t171," + letters.charAt(kind) + trait + much + days);
                    due("KIND", x.about(1, 0), kind);
                    due("TRAIT", x.about(1, 1), trait);
                    due("MUCH", x.about(1, 2), much);
                    due("DAYS", x.about(1, 3), days);
                }
            }
        }
    }

    private static void allCallsAnswer() {
        LentChanged x = townWith("a012,a121", 140);
        for (int call = 12; call < 512; call++) {
            if (call % 3 == 0) {
                due("call " + call, x.day(), 0);
            } else if (call % 3 == 1) {
                due("call " + call, x.wished(0, 141 + call % 3, 0), 2);
            } else {
                due("call " + call, x.reach(0), 8 * 4);
            }
        }
        due("call 512", x.count(3), 167);
        LentChanged y = new LentChanged();
        for (int call = 1; call < 512; call += 2) {
            due("call " + call, y.letter('a'), 1);
            due("call " + (call + 1), y.blank(), 1);
        }
    }

    private static void constants() {
        due("NONE", LentChanged.NONE, -1);
        due("UNKNOWN", LentChanged.UNKNOWN, -101);
        due("OUTSIDE", LentChanged.OUTSIDE, -102);
        due("STATE", LentChanged.STATE, -103);
        due("FULL", LentChanged.FULL, -104);
    }

    // ---- "Terms"

    private static void allAreAdders() {
        String[] kindsOf = {"0", "01", "02", "03", "014"};
        for (int letter = 0; letter < 5; letter++) {
            LentChanged x = townOf("w011," + "astwd".charAt(letter) + "011,t011");
            for (int kind = 0; kind <= 4; kind++) {
                boolean is = kindsOf[letter].indexOf('0' + kind) >= 0;
                due("as " + kind + " the " + "astwd".charAt(letter), x.as(1, kind), is ? 1 : NONE);
            }
        }
    }

    private static void noTownAtFirst() {
        LentChanged x = new LentChanged();
        due("count(0)", x.count(0), 0);
        due("count(6)", x.count(6), 0);
        due("about(0, 0)", x.about(0, 0), UNKNOWN);
        due("by(0, 0)", x.by(0, 0), UNKNOWN);
        due("as(0, 0)", x.as(0, 0), UNKNOWN);
    }

    private static void fourThingsAtMost() {
        LentChanged x = townOf("a011,a021");
        for (int number = 0; number < 4; number++) {
            due("thing " + number, x.thing(100 + number), number);
        }
        due("count(1)", x.count(1), 4);
        due("the last one", x.thingOf(3, 3), 103);
        due("one behind the last", x.thingOf(4, 3), UNKNOWN);
        refused("thing() of a fifth", () -> townWith("a011,a021", 1, 2, 3, 4), y -> y.thing(0), FULL);
        refused("thing() of a fifth, others lent", BoundariesTest::busy, y -> y.thing(0), FULL);
    }

    private static void statesAsNumbers() {
        for (int number = 0; number < 512; number++) {
            LentChanged x = townWith("a011,a021", number);
            due("TRAIT 0 of " + number, x.thingOf(0, 0), number % 8);
            due("TRAIT 1 of " + number, x.thingOf(0, 1), number / 8 % 8);
            due("TRAIT 2 of " + number, x.thingOf(0, 2), number / 64);
            due("STATE of " + number, x.thingOf(0, 3), number);
        }
    }

    private static void changesOf(char letter) {
        for (int trait = 0; trait <= 2; trait++) {
            for (int much = 1; much <= 7; much++) {
                String text = "d131," + letter + trait + much + "1";
                LentChanged x = townOf(text);
                for (int state = 0; state < 512; state++) {
                    if (state == 256) {
                        x = townOf(text);
                    }
                    due("by " + text + " of " + state, x.by(1, state), changed(letter, trait, much, state));
                }
            }
        }
    }

    private static void adders() {
        changesOf('a');
        LentChanged x = townOf("a031,a271");
        due("7 is not above 7", x.by(0, state(4, 7, 7)), state(7, 7, 7));
        due("8 is above 7", x.by(0, state(5, 7, 7)), state(0, 7, 7));
        due("14 is above 7", x.by(1, state(7, 7, 7)), state(7, 7, 6));
        due("7 of 0", x.by(1, 0), state(0, 0, 7));
    }

    private static void setters() {
        changesOf('s');
        LentChanged x = townOf("s011,s271");
        due("1 of 7", x.by(0, 511), state(1, 7, 7));
        due("1 of 1", x.by(0, 1), 1);
        due("7 of 0", x.by(1, 0), state(0, 0, 7));
    }

    private static void turners() {
        changesOf('t');
        LentChanged x = townOf("t071,t211");
        due("0 of 7", x.by(0, 511), state(0, 7, 7));
        due("7 of 0", x.by(1, 0), state(0, 0, 7));
        due("4 of 3", x.by(1, state(3, 3, 3)), state(3, 3, 4));
    }

    private static void swappers() {
        changesOf('w');
        LentChanged x = townOf("w071,w171,w271");
        due("0 and 1", x.by(0, state(1, 2, 3)), state(2, 1, 3));
        due("1 and 2", x.by(1, state(1, 2, 3)), state(1, 3, 2));
        due("behind 2: 0", x.by(2, state(1, 2, 3)), state(3, 2, 1));
        due("like ones", x.by(2, state(5, 2, 5)), state(5, 2, 5));
    }

    private static void doublers() {
        changesOf('d');
        LentChanged x = townOf("d071,d271");
        due("6 of 3", x.by(0, 3), 6);
        due("0 of 4", x.by(0, 4), 0);
        due("6 of 7", x.by(1, 511), state(7, 7, 6));
        due("0 of 0", x.by(1, 63), 63);
    }

    private static void lendingLasts() {
        for (int days = 1; days <= 5; days++) {
            LentChanged x = townWith("t171,a01" + days, 7, 9);
            x.day();
            due("lend for " + days, x.lend(0, 1), days);
            for (int day = 1; day < days; day++) {
                due("day " + day + " of " + days, x.day(), 0);
                due("who has it", x.thingOf(0, 4), 1);
                due("DAYS still", x.about(1, 5), days - day);
                due("as it was", x.thingOf(0, 3), 7);
            }
            due("day " + days, x.day(), 1);
            due("at home", x.thingOf(0, 4), NONE);
            due("changed", x.thingOf(0, 3), 0);
            due("he has none", x.about(1, 4), NONE);
            due("no DAYS still", x.about(1, 5), 0);
            due("the DAY behind", x.day(), 0);
            due("changed once", x.thingOf(0, 3), 0);
        }
    }

    private static void lentAgainAtOnce() {
        LentChanged x = townWith("a011,t012", 0);
        for (int time = 1; time <= 9; time++) {
            due("lend " + time, x.lend(0, 0), 1);
            due("day " + time, x.day(), 1);
            due("it is " + time, x.thingOf(0, 3), time % 8);
            due("came back", x.thingOf(0, 5), time);
        }
    }

    private static void refusalsInTheirOrder() {
        LentChanged none = new LentChanged();
        due("OUTSIDE ahead of STATE", none.thing(512), OUTSIDE);
        due("OUTSIDE ahead of STATE", none.round(512, 0), OUTSIDE);
        due("OUTSIDE ahead of STATE", none.round(0, 2), OUTSIDE);
        due("OUTSIDE ahead of STATE", none.hands(0, 0, 7, 0), OUTSIDE);
        due("OUTSIDE ahead of STATE", none.years(91, 0, 0), OUTSIDE);
        due("UNKNOWN ahead of OUTSIDE", none.about(0, 6), UNKNOWN);
        due("UNKNOWN ahead of OUTSIDE", none.as(0, 5), UNKNOWN);
        due("UNKNOWN ahead of OUTSIDE", none.thingOf(0, 7), UNKNOWN);
        due("UNKNOWN ahead of OUTSIDE", none.by(0, 512), UNKNOWN);
        due("UNKNOWN ahead of OUTSIDE", none.wished(0, 512, 4), UNKNOWN);
        due("UNKNOWN ahead of OUTSIDE", none.spoilers(0, 3, 8), UNKNOWN);
        due("STATE ahead of FULL", none.thing(0), STATE);
        LentChanged x = busy();
        due("OUTSIDE ahead of FULL", x.thing(512), OUTSIDE);
        due("UNKNOWN ahead of STATE, he has one", x.lend(4, 0), UNKNOWN);
        due("UNKNOWN ahead of STATE, it is lent", x.lend(0, 6), UNKNOWN);
        typed(x, filled(26));
        due("OUTSIDE ahead of FULL", x.letter(127), OUTSIDE);
        due("OUTSIDE ahead of STATE", x.round(-1, 1), OUTSIDE);
        due("OUTSIDE ahead of STATE, 60 times", handsDone(60).hands(0, 512, 0, 0), OUTSIDE);
    }

    // ---- Promises 1 to 7: texts

    private static void newObject() {
        LentChanged x = new LentChanged();
        for (int what = 0; what <= 7; what++) {
            due("count(" + what + ")", x.count(what), 0);
        }
        due("blank()", x.blank(), 0);
        due("fault(0)", x.fault(0), 0);
        due("fault(1)", x.fault(1), 0);
        due("restore()", x.restore(), STATE);
        due("another object's TOWN is not its own", townOf(SIX).count(0) + x.count(0), 6);
    }

    private static void codesOfLetters() {
        for (int code = 32; code <= 126; code++) {
            LentChanged x = new LentChanged();
            due("letter(" + code + ")", x.letter(code), 1);
            due("digest()", x.digest(), mixed(List.of(code, 0, 0, 0, 0, 0, 1, 0, 0)));
        }
        for (int code : new int[] {LEAST, -1000, -1, 0, 1, 10, 30, 31, 127, 128, 160, 255, 256, 288, 65568, MOST}) {
            refusedEverywhere("letter(" + code + ")", x -> x.letter(code), OUTSIDE);
            refused("letter(" + code + ") behind 30", () -> page(filled(30)), x -> x.letter(code), OUTSIDE);
        }
    }

    private static void thirtyLetters() {
        LentChanged x = new LentChanged();
        for (int many = 1; many <= 30; many++) {
            due("letter " + many, x.letter(many + 40), many);
        }
        refused("letter 31", () -> page(filled(30)), y -> y.letter('a'), FULL);
        refused("letter 31 of a TOWN", () -> page(SIX + ","), y -> y.letter('a'), FULL);
        due("blank()", x.blank(), 30);
        due("the first letter behind blank()", x.letter('a'), 1);
    }

    private static void blankPages() {
        due("blank() of none", new LentChanged().blank(), 0);
        due("blank() of one", page("x").blank(), 1);
        due("blank() of thirty", page(filled(30)).blank(), 30);
        LentChanged x = page(filled(30));
        x.blank();
        due("blank() again", x.blank(), 0);
        due("digest()", x.digest(), new LentChanged().digest());
        LentChanged busy = busy();
        due("blank() of a ROUND", busy.blank(), 4);
        typed(busy, "0123");
        due("it leaves all but THE PAGE", told(busy), told(busy()));
        due("it leaves what comes", toCome(busy), toCome(busy()));
    }

    private static void sortsOfFault() {
        due("fault(0)", page("a0?").fault(0), 2);
        due("fault(1)", roundIn(SIX, "05?").fault(1), 2);
        for (int sort : new int[] {LEAST, -1, 2, 3, MOST}) {
            refusedEverywhere("fault(" + sort + ")", x -> x.fault(sort), OUTSIDE);
        }
    }

    private static void faultsOfTowns() {
        for (int place = 0; place <= 29; place++) {
            String ahead = (SIX + ",").substring(0, place);
            due("fault(0) of " + ahead, page(ahead).fault(0), place);
            for (int code = 32; code <= 126; code++) {
                String text = ahead + (char) code;
                due("fault(0) of " + text, page(text).fault(0), place + (isOfTown(place, code) ? 1 : 0));
                if (!isOfTown(place, code)) {
                    due("of two the first: " + text, page(text + "?").fault(0), place);
                    due("behind it all is well: " + text, page(text + SIX.substring(Math.min(29, place + 1))).fault(0), place);
                }
            }
        }
        LentChanged x = page("a0");
        due("fault(0)", x.fault(0), 2);
        due("it changes nothing", x.digest(), page("a0").digest());
    }

    private static void faultsOfRounds() {
        for (int many = 2; many <= 6; many++) {
            String town = SIX.substring(0, 5 * many - 1);
            for (int place = 0; place <= 9; place++) {
                String ahead = "0101010101".substring(0, place);
                due("fault(1) of " + ahead, roundIn(town, ahead).fault(1), Math.min(8, place));
                for (int code = 32; code <= 126; code++) {
                    boolean is = place < 8 && code >= '0' && code < '0' + many;
                    int want = Math.min(8, place + (is ? 1 : 0));
                    due("fault(1) of " + ahead + (char) code, roundIn(town, ahead + (char) code).fault(1), want);
                }
            }
            due("of two the first", roundIn(town, "01?1?").fault(1), 2);
        }
        due("30 digits", roundIn(SIX, "5".repeat(30)).fault(1), 8);
    }

    private static void faultsWithoutTown() {
        due("THE PAGE is empty", new LentChanged().fault(1), 0);
        for (int code = 32; code <= 126; code++) {
            due("of those that there are: none", page("" + (char) code).fault(1), 0);
        }
        LentChanged x = townOf(SIX);
        typed(x, "a011,a011");
        x.town();
        typed(x, "0125");
        due("those of the TOWN that is gone", x.fault(1), 2);
    }

    private static void townEmptiesThePage() {
        LentChanged x = page(SIX);
        due("count(5) ahead of it", x.count(5), 29);
        due("town()", x.town(), 6);
        due("count(5)", x.count(5), 0);
        due("blank()", x.blank(), 0);
        due("town() of the empty page", x.town(), STATE);
        due("count(6)", x.count(6), 1);
    }

    private static void anotherTown() {
        LentChanged x = busy();
        for (int day = 0; day < 5; day++) {
            x.day();
        }
        due("how often back", x.thingOf(0, 5) + x.thingOf(1, 5) + x.thingOf(2, 5), 3);
        x.blank();
        typed(x, "s171,t011");
        due("town()", x.town(), 2);
        int[] want = {2, 0, 0, 0, 0, 0, 2, 1};
        for (int what = 0; what <= 7; what++) {
            due("count(" + what + ")", x.count(what), want[what]);
        }
        due("KIND of 0", x.about(0, 0), 1);
        due("he has none", x.about(0, 4), NONE);
        due("no DAYS still", x.about(0, 5), 0);
        due("the third is gone", x.about(2, 0), UNKNOWN);
        due("THING 0 is gone", x.thingOf(0, 3), UNKNOWN);
        for (int number = 0; number < 4; number++) {
            due("thing()", x.thing(511), number);
            due("at home", x.thingOf(number, 4), NONE);
            due("never back", x.thingOf(number, 5), 0);
        }
        due("a fifth", x.thing(511), FULL);
    }

    private static void anotherTownOfTheSameThings() {
        LentChanged x = townWith("a011,a021", 0);
        wished(x, 0, 4, 2, 1, 2, 1);
        due("reach(0)", x.reach(0), 8);
        typed(x, "t155,a114");
        x.town();
        x.thing(0);
        wished(x, 0, 4, NONE, NONE, NONE, NONE);
        wished(x, 0, state(0, 7, 0), 1, 0, 5, 0);
        due("reach(0)", x.reach(0), 8);
        due("spoilers(0, 1, 1)", x.spoilers(0, 1, 1), NONE);
        typed(x, "s011,s022");
        x.town();
        x.thing(0);
        due("reach(0)", x.reach(0), 3);
        wished(x, 0, 2, 1, 1, 2, 1);
    }

    private static void noTownChangesNothing() {
        for (String text : new String[] {"", "a", "a011", "a011,", "a011,a01", "a011,a311", "a011,a081", "a011,a016", "b011,a011"}) {
            refused("town() of " + text, () -> page(text), LentChanged::town, STATE);
            refused("town() of " + text + " in a busy TOWN", () -> {
                LentChanged x = busy();
                x.blank();
                return typed(x, text);
            }, LentChanged::town, STATE);
        }
    }

    private static void aboutBorrowers() {
        for (int many = 2; many <= 6; many++) {
            String text = SIX.substring(0, 5 * many - 1);
            due("the first", townOf(text).about(0, 3), 5);
            due("the last", townOf(text).about(many - 1, 2), text.charAt(5 * many - 3) - '0');
            for (int borrower : new int[] {LEAST, -1, many, many + 1, MOST}) {
                refused("about(" + borrower + ", 0)", () -> townOf(text), x -> x.about(borrower, 0), UNKNOWN);
                refused("about(" + borrower + ", 6)", () -> townOf(text), x -> x.about(borrower, 6), UNKNOWN);
            }
        }
        refused("about(0, 0) without a TOWN", LentChanged::new, x -> x.about(0, 0), UNKNOWN);
    }

    private static void aboutWhat() {
        LentChanged x = busy();
        int[][] want = {{0, 0, 1, 5, 0, 4}, {1, 1, 2, 4, NONE, 0}, {2, 2, 3, 3, NONE, 0},
            {3, 0, 4, 2, 1, 1}, {4, 1, 5, 1, NONE, 0}, {0, 2, 7, 1, 2, 1}};
        for (int borrower = 0; borrower < 6; borrower++) {
            for (int what = 0; what <= 5; what++) {
                due("about(" + borrower + ", " + what + ")", x.about(borrower, what), want[borrower][what]);
            }
        }
        for (int what : new int[] {LEAST, -1, 6, 7, MOST}) {
            refused("about(5, " + what + ")", BoundariesTest::busy, y -> y.about(5, what), OUTSIDE);
        }
    }

    private static void whichThingHeHas() {
        LentChanged x = townWith("a015,a021", 1, 2, 3, 4);
        due("none", x.about(0, 4), NONE);
        due("no DAYS", x.about(0, 5), 0);
        x.lend(0, 1);
        x.lend(3, 0);
        due("the first THING", x.about(1, 4), 0);
        due("the last THING", x.about(0, 4), 3);
        for (int still = 5; still >= 1; still--) {
            due("DAYS still", x.about(0, 5), still);
            x.day();
        }
        due("no DAYS still", x.about(0, 5), 0);
        due("none then", x.about(0, 4), NONE);
    }

    private static void asKinds() {
        LentChanged x = townOf(SIX);
        due("as(0, 0)", x.as(0, 0), 0);
        due("as(4, 4)", x.as(4, 4), 4);
        due("as(4, 1)", x.as(4, 1), 4);
        due("as(5, 0)", x.as(5, 0), 5);
        due("as(1, 4): no SETTER is a DOUBLER", x.as(1, 4), NONE);
        due("as(0, 1): no ADDER is a SETTER", x.as(0, 1), NONE);
        for (int kind : new int[] {LEAST, -1, 5, 6, MOST}) {
            refused("as(4, " + kind + ")", BoundariesTest::busy, y -> y.as(4, kind), OUTSIDE);
        }
        for (int borrower : new int[] {LEAST, -1, 6, 7, MOST}) {
            refused("as(" + borrower + ", 0)", BoundariesTest::busy, y -> y.as(borrower, 0), UNKNOWN);
            refused("as(" + borrower + ", 5)", BoundariesTest::busy, y -> y.as(borrower, 5), UNKNOWN);
        }
        due("as(2, 0) in a TOWN of two", townOf("a011,a011").as(2, 0), UNKNOWN);
        refused("as(0, 0) without a TOWN", LentChanged::new, y -> y.as(0, 0), UNKNOWN);
    }

    // ---- Promises 8 to 11: things

    private static void statesOfThings() {
        due("thing(0)", townOf(SIX).thing(0), 0);
        due("thing(511)", townOf(SIX).thing(511), 0);
        for (int number : new int[] {LEAST, -512, -1, 512, 513, 1024, MOST}) {
            refusedEverywhere("thing(" + number + ")", x -> x.thing(number), OUTSIDE);
        }
        refused("thing(0) without a TOWN", LentChanged::new, x -> x.thing(0), STATE);
        refused("thing(511) without a TOWN", () -> page(SIX), x -> x.thing(511), STATE);
        LentChanged x = townOf(SIX);
        x.thing(300);
        due("at home", x.thingOf(0, 4), NONE);
        due("never back", x.thingOf(0, 5), 0);
    }

    private static void thingsBehindRestore() {
        LentChanged x = townWith(SIX, 1, 2, 3);
        x.image();
        due("the fourth", x.thing(4), 3);
        due("the fifth", x.thing(5), FULL);
        x.restore();
        due("the fourth again", x.thing(6), 3);
        due("its STATE", x.thingOf(3, 3), 6);
        due("the fifth again", x.thing(7), FULL);
        x.image();
        x.restore();
        due("the fifth behind an IMAGE of four", x.thing(7), FULL);
        LentChanged y = townWith("a011,t011", 1);
        y.image();
        y.thing(2);
        y.lend(1, 0);
        y.day();
        due("it came back", y.thingOf(1, 5), 1);
        y.restore();
        y.thing(2);
        due("another one of its number never did", y.thingOf(1, 5), 0);
        y.lend(1, 1);
        y.restore();
        y.thing(2);
        due("it is at home", y.thingOf(1, 4), NONE);
    }

    private static void thingsTold() {
        LentChanged x = townWith("a011,t071", 511, 0, 7, 448);
        int[][] want = {{7, 7, 7, 511}, {0, 0, 0, 0}, {7, 0, 0, 7}, {0, 0, 7, 448}};
        for (int thing = 0; thing < 4; thing++) {
            for (int what = 0; what <= 3; what++) {
                due("thingOf(" + thing + ", " + what + ")", x.thingOf(thing, what), want[thing][what]);
            }
            due("who has it", x.thingOf(thing, 4), NONE);
            due("how often back", x.thingOf(thing, 5), 0);
            due("at home it is as it is", x.thingOf(thing, 6), want[thing][3]);
        }
        for (int what : new int[] {LEAST, -1, 7, 8, MOST}) {
            refused("thingOf(0, " + what + ")", BoundariesTest::busy, y -> y.thingOf(0, what), OUTSIDE);
        }
        for (int thing : new int[] {LEAST, -1, 4, 5, MOST}) {
            refused("thingOf(" + thing + ", 0)", BoundariesTest::busy, y -> y.thingOf(thing, 0), UNKNOWN);
            refused("thingOf(" + thing + ", 7)", BoundariesTest::busy, y -> y.thingOf(thing, 7), UNKNOWN);
        }
        due("thingOf(1, 0) of one", townWith(SIX, 5).thingOf(1, 0), UNKNOWN);
        due("thingOf(0, 0) of none", townOf(SIX).thingOf(0, 0), UNKNOWN);
        refused("thingOf(0, 0) without a TOWN", LentChanged::new, y -> y.thingOf(0, 0), UNKNOWN);
    }

    private static void lentThingsTold() {
        LentChanged x = townWith("t013,a172", 0, 511);
        x.lend(0, 1);
        x.lend(1, 0);
        int[][] lent = {{0, 0, 0, 0, 1, 0, state(0, 7, 0)}, {7, 7, 7, 511, 0, 0, state(0, 7, 7)}};
        int[][] back = {{0, 7, 0, 56, NONE, 1, 56}, {0, 7, 7, 504, NONE, 1, 504}};
        for (int day = 0; day <= 3; day++) {
            for (int what = 0; what <= 6; what++) {
                due("THING 0, day " + day, x.thingOf(0, what), (day < 2 ? lent : back)[0][what]);
                due("THING 1, day " + day, x.thingOf(1, what), (day < 3 ? lent : back)[1][what]);
            }
            x.day();
        }
    }

    private static void lendUnknown() {
        due("the first ones", townWith(SIX, 1, 2, 3, 4).lend(0, 0), 5);
        due("the last ones", townWith(SIX, 1, 2, 3, 4).lend(3, 5), 1);
        for (int thing : new int[] {LEAST, -1, 4, 5, MOST}) {
            refused("lend(" + thing + ", 1)", BoundariesTest::busy, x -> x.lend(thing, 1), UNKNOWN);
            refused("lend(" + thing + ", 0)", BoundariesTest::busy, x -> x.lend(thing, 0), UNKNOWN);
        }
        for (int borrower : new int[] {LEAST, -1, 6, 7, MOST}) {
            refused("lend(3, " + borrower + ")", BoundariesTest::busy, x -> x.lend(3, borrower), UNKNOWN);
            refused("lend(0, " + borrower + ")", BoundariesTest::busy, x -> x.lend(0, borrower), UNKNOWN);
        }
        refused("lend(2, 0) of two", () -> townWith("a011,a011", 1, 2), x -> x.lend(2, 0), UNKNOWN);
        refused("lend(0, 2) to two", () -> townWith("a011,a011", 1, 2), x -> x.lend(0, 2), UNKNOWN);
        refused("lend(0, 0) of none", () -> townOf(SIX), x -> x.lend(0, 0), UNKNOWN);
        refused("lend(0, 0) without a TOWN", LentChanged::new, x -> x.lend(0, 0), UNKNOWN);
    }

    private static void lendState() {
        refused("it is lent", BoundariesTest::busy, x -> x.lend(0, 1), STATE);
        refused("it is lent to him", BoundariesTest::busy, x -> x.lend(0, 0), STATE);
        refused("he has one", BoundariesTest::busy, x -> x.lend(3, 0), STATE);
        refused("the last has one", BoundariesTest::busy, x -> x.lend(3, 5), STATE);
        refused("it is lent and he has one", BoundariesTest::busy, x -> x.lend(0, 3), STATE);
        LentChanged x = busy();
        due("at home, to one who has none", x.lend(3, 1), 4);
        due("count(2)", x.count(2), 4);
        due("by the day that is the last", x.day(), 2);
        due("he has none any more", x.lend(2, 3), 2);
    }

    private static void daysGoBy() {
        LentChanged x = townOf("a011,a111,a211,t012");
        due("a day of no THINGS", x.day(), 0);
        due("count(3)", x.count(3), 1);
        for (int thing = 0; thing < 4; thing++) {
            x.thing(0);
        }
        due("a day of none lent", x.day(), 0);
        due("count(3)", x.count(3), 2);
        for (int many = 1; many <= 3; many++) {
            for (int thing = 0; thing < many; thing++) {
                x.lend(thing, thing);
            }
            due("how many come back", x.day(), many);
        }
        x.lend(3, 3);
        due("none yet", x.day(), 0);
        x.lend(0, 0);
        x.lend(1, 1);
        x.lend(2, 2);
        due("all four come back", x.day(), 4);
        due("count(3)", x.count(3), 7);
        due("count(2)", x.count(2), 0);
    }

    private static void noDayWithoutTown() {
        refused("day()", LentChanged::new, LentChanged::day, STATE);
        refused("day() with a TOWN on THE PAGE", () -> page(SIX), LentChanged::day, STATE);
        due("day()", townOf(SIX).day(), 0);
    }

    // ---- Promises 12 to 16: what would be

    private static void byBorrower() {
        due("the first, the least STATE", townOf(SIX).by(0, 0), 1);
        due("the last, the highest STATE", townOf(SIX).by(5, 511), state(7, 7, 6));
        for (int number : new int[] {LEAST, -1, 512, 513, MOST}) {
            refused("by(5, " + number + ")", BoundariesTest::busy, x -> x.by(5, number), OUTSIDE);
            refused("by(6, " + number + ")", BoundariesTest::busy, x -> x.by(6, number), UNKNOWN);
        }
        for (int borrower : new int[] {LEAST, -1, 6, 7, MOST}) {
            refused("by(" + borrower + ", 0)", BoundariesTest::busy, x -> x.by(borrower, 0), UNKNOWN);
        }
        due("by(2, 0) in a TOWN of two", townOf("a011,a011").by(2, 0), UNKNOWN);
        refused("by(0, 0) without a TOWN", LentChanged::new, x -> x.by(0, 0), UNKNOWN);
        LentChanged x = busy();
        due("by() of one who has a THING", x.by(0, 140), 141);
        due("by() changes nothing", told(x), told(busy()));
    }

    private static void wished(LentChanged x, int thing, int state, int loans, int first, int days, int firstByDays) {
        String what = "wished(" + thing + ", " + state + ", ";
        due(what + "0)", x.wished(thing, state, 0), loans);
        due(what + "1)", x.wished(thing, state, 1), first);
        due(what + "2)", x.wished(thing, state, 2), days);
        due(what + "3)", x.wished(thing, state, 3), firstByDays);
    }

    private static void wishedIsSo() {
        wished(townWith("a011,t012", 0), 0, 0, 0, NONE, 0, NONE);
        wished(townWith("s011,s012", 1), 0, 1, 0, NONE, 0, NONE);
        wished(townWith("s271,w231", 511), 0, 511, 0, NONE, 0, NONE);
        LentChanged x = townWith("a015,t013", 6, 7);
        x.lend(1, 0);
        wished(x, 1, 0, 0, NONE, 0, NONE);
        wished(x, 1, 7, 1, 1, 3, 1);
    }

    private static void wishedNever() {
        wished(townWith("a011,t012", 0), 0, 8, NONE, NONE, NONE, NONE);
        wished(townWith("s011,s022", 3), 0, 4, NONE, NONE, NONE, NONE);
        wished(townWith("a021,d111", 0), 0, 511, NONE, NONE, NONE, NONE);
        wished(townWith("a021,d111", 0), 0, 1, NONE, NONE, NONE, NONE);
        wished(townWith("a021,d111", 0), 0, 6, 3, 0, 3, 0);
    }

    private static void wishedFewest() {
        wished(townWith("a015,a011", 0), 0, 1, 1, 0, 1, 1);
        wished(townWith("a035,a011", 0), 0, 3, 1, 0, 3, 1);
        wished(townWith("a034,a011", 0), 0, 4, 2, 0, 4, 1);
        wished(townWith("a044,a011", 0), 0, 4, 1, 0, 4, 0);
        wished(townWith("a043,a011", 0), 0, 4, 1, 0, 3, 0);
        wished(townWith("a011,a045", 0), 0, 4, 1, 1, 4, 0);
        wished(townWith("s015,s025,s035,s045,s055,a215", 0), 0, 64, 1, 5, 5, 5);
        wished(townWith("a015,a115,a215", 0), 0, 511, 21, 0, 105, 0);
        wished(townWith("a215,a115,a015", 511), 0, 510, 7, 2, 35, 2);
        // No town of two or three is known in which a STATE is farther than by so many loans.
        wished(townWith("a011,w015", 0), 0, 63, 15, 0, 19, 0);
        wished(townWith("a015,w015,w115", 0), 0, 511, 24, 0, 120, 0);
    }

    private static void wishedFirstIsLeast() {
        wished(townWith("a011,a021", 0), 0, 3, 2, 0, 2, 0);
        wished(townWith("a021,a011", 0), 0, 3, 2, 0, 2, 0);
        wished(townWith("a111,a011,a012", 0), 0, 1, 1, 1, 1, 1);
        wished(townWith("a112,a012,a011", 0), 0, 1, 1, 1, 1, 2);
        wished(townWith("a111,a011,a211", 0), 0, state(1, 1, 1), 3, 0, 3, 0);
        // 2 and 0 are needed; the row that begins with 2 is as short as the one that begins with 0.
        wished(townWith("a212,t172,a012", 0), 0, state(1, 0, 1), 2, 0, 4, 0);
        // Fewest DAYS by 1, 1, 1 or by 0, 2: the first of the longer row is not the least.
        wished(townWith("a022,a011,a011", 0), 0, 3, 2, 0, 3, 0);
        wished(townWith("a012,a021,a011", 0), 0, 2, 1, 1, 1, 1);
        wished(townWith("a011,a023,a032", 0), 0, 5, 2, 1, 4, 0);
    }

    /** Each answer by going through all rows of at most five loans, where no longer row can be better. */
    private static void wishedByAllRows() {
        String[] texts = {"a012,s131,w023", "t014,w011", "d011,a033,s041", "a011,a022,a033,a045", "s012,a112,w012,a012"};
        int[] fewestDays = {1, 1, 1, 1, 2};
        for (int i = 0; i < texts.length; i++) {
            LentChanged x = townWith(texts[i], 139);
            for (int wish = 0; wish < 512; wish += 5) {
                int[] best = {NONE, NONE, NONE, NONE};
                tryRows(texts[i].split(","), 139, wish, 0, 0, NONE, best);
                String what = texts[i] + ": wished(0, " + wish + ", ";
                if (best[0] == NONE) {
                    due(what + "0) is not by five", x.wished(0, wish, 0) > 5 || x.wished(0, wish, 0) == NONE ? 1 : 0, 1);
                } else {
                    due(what + "0)", x.wished(0, wish, 0), best[0]);
                    due(what + "1)", x.wished(0, wish, 1), best[1]);
                }
                if (best[2] != NONE && best[2] < 6 * fewestDays[i]) {
                    due(what + "2)", x.wished(0, wish, 2), best[2]);
                    due(what + "3)", x.wished(0, wish, 3), best[3]);
                }
            }
        }
    }

    private static void tryRows(String[] town, int state, int wish, int loans, int days, int first, int[] best) {
        if (state == wish && (best[0] == NONE || loans < best[0] || loans == best[0] && first < best[1])) {
            best[0] = loans;
            best[1] = first;
        }
        if (state == wish && (best[2] == NONE || days < best[2] || days == best[2] && first < best[3])) {
            best[2] = days;
            best[3] = first;
        }
        for (int borrower = 0; loans < 5 && borrower < town.length; borrower++) {
            tryRows(town, changed(town[borrower], state), wish, loans + 1, days + town[borrower].charAt(3) - '0',
                    loans == 0 ? borrower : first, best);
        }
    }

    private static void wishedRefused() {
        LentChanged x = busy();
        due("the first THING, the least STATE", x.wished(0, 0, 0), 8);
        due("the last THING, the highest STATE", x.wished(3, 511, 0) >= 1 ? 1 : 0, 1);
        for (int what = 0; what <= 3; what++) {
            int asks = what;
            for (int thing : new int[] {LEAST, -1, 4, MOST}) {
                refused("wished(" + thing + ")", BoundariesTest::busy, y -> y.wished(thing, 0, asks), UNKNOWN);
            }
            for (int number : new int[] {LEAST, -1, 512, MOST}) {
                refused("wished(0, " + number + ")", BoundariesTest::busy, y -> y.wished(0, number, asks), OUTSIDE);
            }
            due("of none", townOf(SIX).wished(0, 0, what), UNKNOWN);
            refused("wished() without a TOWN", LentChanged::new, y -> y.wished(0, 0, asks), UNKNOWN);
        }
        for (int what : new int[] {LEAST, -1, 4, 5, MOST}) {
            refused("wished what " + what, BoundariesTest::busy, y -> y.wished(0, 0, what), OUTSIDE);
            refused("wished(4) what " + what, BoundariesTest::busy, y -> y.wished(4, 0, what), UNKNOWN);
        }
    }

    private static void reaches() {
        due("that which it has alone", townWith("s071,w121", state(7, 3, 3)).reach(0), 1);
        due("one more", townWith("s071,w121", state(6, 3, 3)).reach(0), 2);
        due("all", townWith("a011,w011,w111", 0).reach(0), 512);
        due("all of one TRAIT", townWith("a211,t211", 5).reach(0), 8);
        due("the last THING", townWith("s021,s041", 2, 4, 6, 2).reach(3), 2);
        due("the one before it", townWith("s021,s041", 2, 4, 6, 2).reach(2), 3);
        LentChanged x = townWith("s022,a142", 3, 3);
        due("it is still so", x.reach(0), 4);
        x.lend(0, 0);
        due("lent: as it will come back", x.reach(0), 2);
        due("the other one", x.reach(1), 4);
        x.day();
        x.day();
        due("back", x.reach(0), 2);
        for (int thing : new int[] {LEAST, -1, 4, 5, MOST}) {
            refused("reach(" + thing + ")", BoundariesTest::busy, y -> y.reach(thing), UNKNOWN);
        }
        due("reach(0) of none", townOf(SIX).reach(0), UNKNOWN);
        refused("reach(0) without a TOWN", LentChanged::new, y -> y.reach(0), UNKNOWN);
    }

    private static void spoilersSoNow() {
        for (int trait = 0; trait <= 2; trait++) {
            int unit = 1 << 3 * trait;
            for (int least = 1; least <= 7; least++) {
                LentChanged x = townWith("s" + (trait + 1) % 3 + "11,w" + trait + "11", 511 - 7 * unit + least * unit,
                        511 - 7 * unit + (least - 1) * unit);
                due("just so much", x.spoilers(0, trait, least) >= 0 ? 1 : 0, 1);
                due("one below", x.spoilers(1, trait, least), NONE);
            }
        }
        LentChanged x = townWith("s061,s031", state(5, 0, 0), state(2, 0, 0));
        due("at home it is not so", x.spoilers(0, 0, 5), 2);
        x.lend(0, 1);
        due("lent: it will be so", x.spoilers(0, 0, 5), NONE);
        due("at home it is so", x.spoilers(1, 0, 5), NONE);
        x.lend(1, 0);
        due("lent: it will not be so", x.spoilers(1, 0, 5), 2);
    }

    private static void spoilersAreSets() {
        due("none spoils", townWith("s071,t111", 7).spoilers(0, 0, 7), 0);
        due("one of two spoils", townWith("s061,t111", 7).spoilers(0, 0, 7), 1);
        due("the other one spoils", townWith("t111,s061", 7).spoilers(0, 0, 7), 2);
        due("just so much is not below", townWith("t111,s061", 7).spoilers(0, 0, 6), 0);
        due("both spoil", townWith("a011,s061", 7).spoilers(0, 0, 7), 3);
        due("all six spoil", townWith("s011,a011,t011,w011,d011,a021", 4).spoilers(0, 0, 4), 63);
        due("all but the first", townWith("s071,a011,t011,w011,d011,a021", 4).spoilers(0, 0, 4), 62);
        due("all but the last", townWith("s011,a011,t011,w011,d011,s041", 4).spoilers(0, 0, 4), 31);
        due("two alone spoil by each other", townWith("w011,s131", 511).spoilers(0, 0, 4), 1);
        due("of like ones the least bits", townWith("s131,w011", 511).spoilers(0, 0, 4), 1);
        due("fewer ahead of less bits", townWith("s111,s121,w031", 511).spoilers(0, 0, 5), 4);
        due("TRAIT 2", townWith("s271,s261", 511).spoilers(0, 2, 7), 2);
        due("the last spoils, by seven loans", townWith("a111,a211,t111,t211,w111,a011", 1).spoilers(0, 0, 1), 32);
        due("one of those on the way is spared", townWith("a111,a231,d111,t211,w111,w011", 9).spoilers(0, 0, 1), 32);
        due("least 1", townWith("t011,a061", 7).spoilers(0, 0, 1), 1);
    }

    private static void spoilersRefused() {
        LentChanged x = townWith(SIX, 511, 511, 511, 511);
        due("the first", x.spoilers(0, 0, 1) >= 0 ? 1 : 0, 1);
        due("the last", x.spoilers(3, 2, 7) >= 0 ? 1 : 0, 1);
        for (int thing : new int[] {LEAST, -1, 4, 5, MOST}) {
            refused("spoilers(" + thing + ", 0, 1)", BoundariesTest::busy, y -> y.spoilers(thing, 0, 1), UNKNOWN);
            refused("spoilers(" + thing + ", 3, 8)", BoundariesTest::busy, y -> y.spoilers(thing, 3, 8), UNKNOWN);
        }
        for (int trait : new int[] {LEAST, -1, 3, 4, MOST}) {
            refused("spoilers(1, " + trait + ", 1)", BoundariesTest::busy, y -> y.spoilers(1, trait, 1), OUTSIDE);
        }
        for (int least : new int[] {LEAST, -1, 0, 8, 9, MOST}) {
            refused("spoilers(1, 0, " + least + ")", BoundariesTest::busy, y -> y.spoilers(1, 0, least), OUTSIDE);
            refused("of one that is so now", () -> townWith(SIX, 0), y -> y.spoilers(0, 0, least), OUTSIDE);
        }
        due("spoilers(0) of none", townOf(SIX).spoilers(0, 0, 1), UNKNOWN);
        refused("spoilers(0) without a TOWN", LentChanged::new, y -> y.spoilers(0, 0, 1), UNKNOWN);
    }

    private static void roundsByLength() {
        String digits = "012345012";
        String[] town = SIX.split(",");
        int end = 140;
        for (int length = 1; length <= 8; length++) {
            end = changed(town[digits.charAt(length - 1) - '0'], end);
            String text = digits.substring(0, length);
            LentChanged x = roundIn(SIX, text);
            due("ENDS of " + text, x.round(140, 1), end);
            due("THE PAGE stays", x.blank(), length);
        }
        for (String text : new String[] {"", digits, "0".repeat(30), "6", "06", "0/", "0:", " 0", "0 ", "a", "0,1"}) {
            for (int what = 0; what <= 1; what++) {
                int asks = what;
                refused("round of '" + text + "'", () -> roundIn(SIX, text), x -> x.round(140, asks), STATE);
            }
        }
        due("5 is none of two", roundIn("a011,a021", "2").round(0, 1), STATE);
        due("1 is one of two", roundIn("a011,a021", "1").round(0, 1), 2);
        due("in their order, from the left", roundIn("s011,a031", "01").round(0, 1), 4);
        due("in their order, from the left", roundIn("s011,a031", "10").round(0, 1), 1);
        refused("a ROUND without a TOWN", () -> page("0"), x -> x.round(0, 0), STATE);
    }

    private static void roundBack() {
        // No ROUND needs more than 24: loans that can be turned back send TRAITS in a ring of one, two or three,
        // and what is added on the way is gone behind eight times. So the 60 is never come to: else it is none.
        String[] towns = {"t151,w161", "w261,t171", "w061,w211", "a161,a031", "a241,w031,w121", "a211,a171",
            "a221,w171,w031", "a251,w121", "w051,a151,w131"};
        String[] texts = {"00", "0", "01", "0", "201", "0", "201", "10", "012"};
        int[] backs = {1, 2, 3, 4, 6, 8, 12, 16, 24};
        for (int i = 0; i < towns.length; i++) {
            LentChanged x = roundIn(towns[i], texts[i]);
            due("BACK of " + texts[i] + " in " + towns[i], x.round(0, 0), backs[i]);
            due("the STATE is not asked for", x.round(511, 0), backs[i]);
            due("THE PAGE stays", x.blank(), texts[i].length());
        }
        due("once more is not the least", roundIn("a011,a071", "01").round(3, 0), 1);
        due("a SETTER brings none back", roundIn("s011,a071", "01").round(1, 0), NONE);
        due("not even one that is so", roundIn("s011,a071", "0").round(1, 0), NONE);
        due("a DOUBLER neither", roundIn("d011,a071", "0").round(0, 0), NONE);
        due("nor eight of them", roundIn("d011,a071", "01010101").round(0, 0), NONE);
    }

    private static void roundRefused() {
        due("the least STATE", roundIn(SIX, "0").round(0, 1), 1);
        due("the highest STATE", roundIn(SIX, "0").round(511, 1), 504);
        for (int number : new int[] {LEAST, -1, 512, 513, MOST}) {
            refusedEverywhere("round(" + number + ", 0)", x -> x.round(number, 0), OUTSIDE);
            refusedEverywhere("round(" + number + ", 1)", x -> x.round(number, 1), OUTSIDE);
        }
        for (int what : new int[] {LEAST, -1, 2, 3, MOST}) {
            refusedEverywhere("round(0, " + what + ")", x -> x.round(0, what), OUTSIDE);
        }
    }

    private static void roundChangesNothing() {
        LentChanged x = busy();
        due("BACK", x.round(140, 0), NONE);
        due("ENDS", x.round(140, 1), changed("w042", changed("t233", changed("s124", changed("a015", 140)))));
        due("it changes nothing", told(x), told(busy()));
        due("nothing that comes", toCome(x), toCome(busy()));
    }

    // ---- Promises 17 and 18: told back

    private static void handsByLoans() {
        LentChanged x = townOf("w011,w021,w031,w041,w051,w061");
        int rows = 1;
        for (int loans = 0; loans <= 6; loans++) {
            due("rows of " + loans, x.hands(0, 0, loans, 0), rows);
            due("in each of " + loans, x.hands(0, 0, loans, 1), 0);
            due("rows to another STATE", x.hands(0, 511, loans, 0), 0);
            due("in each of no row", x.hands(0, 511, loans, 1), 0);
            rows *= 6;
        }
        for (int loans : new int[] {LEAST, -1, 7, 8, MOST}) {
            refusedEverywhere("hands(0, 0, " + loans + ", 0)", y -> y.hands(0, 0, loans, 0), OUTSIDE);
            refused("of 60", () -> handsDone(60), y -> y.hands(0, 0, loans, 0), OUTSIDE);
        }
    }

    private static void handsInEach() {
        LentChanged all = townOf("a011,a031,a111,a131,a211,a231");
        due("all six, in any order", all.hands(0, state(4, 4, 4), 6, 0), 720);
        due("all six in each", all.hands(0, state(4, 4, 4), 6, 1), 63);
        due("no row of five", all.hands(0, state(4, 4, 4), 5, 0), 0);
        due("in each of no row", all.hands(0, state(4, 4, 4), 5, 1), 0);
        for (int borrower = 0; borrower < 6; borrower++) {
            int end = state(borrower < 2 ? 1 + 2 * borrower : 0, borrower / 2 == 1 ? 2 * borrower - 3 : 0, borrower > 3 ? 2 * borrower - 7 : 0);
            due("one row", all.hands(0, end, 1, 0), 1);
            due("he alone", all.hands(0, end, 1, 1), 1 << borrower);
        }
        LentChanged same = townOf("s011,s012");
        due("either of two", same.hands(0, 1, 1, 0), 2);
        due("none is in each", same.hands(0, 1, 1, 1), 0);
        due("it goes on and on", same.hands(1, 1, 6, 0), 64);
        due("no loan, the same STATE", same.hands(511, 511, 0, 0), 1);
        due("no loan, none in it", same.hands(511, 511, 0, 1), 0);
        due("no loan, another STATE", same.hands(511, 0, 0, 0), 0);
        due("no loan, another STATE, none", same.hands(511, 0, 0, 1), 0);
        due("the second alone", all.hands(0, 3, 1, 1), 2);
        due("no loan behind other ones", all.hands(3, 3, 0, 1), 0);
        due("one loan behind other ones", all.hands(3, 4, 1, 1), 1);
        due("two loans behind other ones", all.hands(3, 7, 2, 1), 3);
    }

    private static void handsRefused() {
        due("the least, the highest", townOf("a021,t071").hands(0, 7, 1, 0), 1);
        due("the highest, the least", townOf("s071,t021").hands(511, 504, 1, 1), 2);
        for (int number : new int[] {LEAST, -1, 512, 513, MOST}) {
            refusedEverywhere("hands(" + number + ", 0, 0, 0)", x -> x.hands(number, 0, 0, 0), OUTSIDE);
            refusedEverywhere("hands(0, " + number + ", 0, 0)", x -> x.hands(0, number, 0, 0), OUTSIDE);
            refused("from, of 60", () -> handsDone(60), y -> y.hands(number, 0, 0, 0), OUTSIDE);
            refused("to, of 60", () -> handsDone(60), y -> y.hands(0, number, 0, 0), OUTSIDE);
        }
        for (int what : new int[] {LEAST, -1, 2, 3, MOST}) {
            refusedEverywhere("hands(0, 0, 0, " + what + ")", x -> x.hands(0, 0, 0, what), OUTSIDE);
            refused("what, of 60", () -> handsDone(60), y -> y.hands(0, 0, 0, what), OUTSIDE);
        }
        refused("hands() without a TOWN", LentChanged::new, x -> x.hands(0, 0, 0, 0), STATE);
        refused("hands() with a TOWN on THE PAGE", () -> page(SIX), x -> x.hands(0, 0, 6, 1), STATE);
    }

    private static void handsSixtyTimes() {
        LentChanged x = handsDone(59);
        due("count(7)", x.count(7), 59);
        due("the 60th", x.hands(0, 1, 1, 0), 1);
        due("count(7)", x.count(7), 60);
        refused("the 61st", () -> handsDone(60), y -> y.hands(0, 1, 1, 0), STATE);
        refused("the 61st of no row", () -> handsDone(60), y -> y.hands(0, 511, 0, 1), STATE);
        LentChanged y = handsDone(0);
        for (int i = 0; i < 70; i++) {
            due("refused ones are not counted", y.hands(0, 512, 0, 0), OUTSIDE);
        }
        due("count(7)", y.count(7), 0);
        due("the first", y.hands(0, 1, 1, 0), 1);
        LentChanged z = new LentChanged();
        for (int i = 0; i < 70; i++) {
            due("refused without a TOWN", z.hands(0, 0, 0, 0), STATE);
        }
        due("count(7)", z.count(7), 0);
    }

    private static void handsCountOn() {
        LentChanged x = handsDone(0);
        x.image();
        for (int i = 1; i <= 30; i++) {
            due("hands " + i, x.hands(0, 1, 1, 0), 1);
        }
        x.restore();
        due("count(7) behind restore()", x.count(7), 30);
        typed(x, "a011,a021");
        x.town();
        due("count(7) behind town()", x.count(7), 30);
        for (int i = 31; i <= 60; i++) {
            due("hands " + i, x.hands(0, 1, 1, i % 2), 1);
        }
        due("hands 61", x.hands(0, 1, 1, 0), STATE);
        x.image();
        x.restore();
        due("hands 61 behind restore()", x.hands(0, 1, 1, 0), STATE);
        typed(x, "a011,a021");
        x.town();
        due("hands 61 behind town()", x.hands(0, 1, 1, 0), STATE);
        due("count(7)", x.count(7), 60);
        due("another object has its own", townOf("a011,a021").hands(0, 1, 1, 0), 1);
    }

    private static int[] yearsOf(String town, int times, int seed, int... states) {
        String[] borrowers = town.split(",");
        int[] then = states.clone();
        BigInteger drawn = BigInteger.valueOf(seed);
        int[] draws = new int[2];
        for (int time = 0; time < times; time++) {
            for (int i = 0; i < 2; i++) {
                drawn = drawn.multiply(BigInteger.valueOf(1103515245L)).add(BigInteger.valueOf(12345)).mod(BigInteger.ONE.shiftLeft(31));
                draws[i] = drawn.shiftRight(16).mod(BigInteger.valueOf(i == 0 ? then.length : borrowers.length)).intValue();
            }
            then[draws[0]] = changed(borrowers[draws[1]], then[draws[0]]);
        }
        int sum = 0;
        for (int state : then) {
            sum += state % 8 + state / 8 % 8 + state / 64;
        }
        return new int[] {then[0], sum, drawn.intValue()};
    }

    private static void yearsByTimes() {
        int[][] rows = {{140}, {511, 0}, {1, 2, 3}, {73, 511, 0, 300}};
        for (String town : new String[] {"a012,w231", "t014,a173,w221", SIX}) {
            for (int[] states : rows) {
                for (int seed : new int[] {0, 1, 77, 65535, 65536, 12345678, MOST - 1, MOST}) {
                    LentChanged x = townWith(town, states);
                    for (int times : new int[] {1, 2, 3, 45, 89, 90}) {
                        int[] want = yearsOf(town, times, seed, states);
                        for (int what = 0; what <= 2; what++) {
                            due("years(" + times + ", " + seed + ", " + what + ")", x.years(times, seed, what), want[what]);
                        }
                    }
                    due("it changes nothing", told(x), told(townWith(town, states)));
                }
            }
        }
    }

    private static void yearsOfLentOnes() {
        String town = "a015,t114,s233";
        LentChanged x = townWith(town, 7, 9, 448);
        x.lend(0, 0);
        x.lend(2, 2);
        for (int times = 1; times <= 90; times += 11) {
            int[] want = yearsOf(town, times, times, 0, 9, 192);
            for (int what = 0; what <= 2; what++) {
                due("years(" + times + ")", x.years(times, times, what), want[what]);
            }
        }
        due("none came back", x.count(2), 2);
        due("no DAY went by", x.count(3), 0);
        due("as it was", x.thingOf(0, 3), 7);
    }

    private static void yearsRefused() {
        for (int times : new int[] {LEAST, -1, 0, 91, 92, MOST}) {
            refusedEverywhere("years(" + times + ", 0, 0)", x -> x.years(times, 0, 0), OUTSIDE);
        }
        for (int seed : new int[] {LEAST, -2, -1}) {
            refusedEverywhere("years(1, " + seed + ", 0)", x -> x.years(1, seed, 0), OUTSIDE);
        }
        for (int what : new int[] {LEAST, -1, 3, 4, MOST}) {
            refusedEverywhere("years(1, 0, " + what + ")", x -> x.years(1, 0, what), OUTSIDE);
        }
        refused("years() without a TOWN", LentChanged::new, x -> x.years(1, 0, 0), STATE);
        for (int what = 0; what <= 2; what++) {
            int asks = what;
            refused("years() without THINGS", () -> townOf(SIX), x -> x.years(90, MOST, asks), STATE);
        }
        LentChanged gone = townOf(SIX);
        gone.image();
        gone.thing(5);
        due("with one THING", gone.years(1, 0, 2), 1406932606);
        gone.restore();
        due("it is gone", gone.years(1, 0, 2), STATE);
    }

    // ---- Promises 19 to 22: what is told of all

    private static void imageOfDays() {
        refused("image() without a TOWN", LentChanged::new, LentChanged::image, STATE);
        refused("image() with a TOWN on THE PAGE", () -> page(SIX), LentChanged::image, STATE);
        LentChanged x = townOf("a011,a021");
        due("image() at first", x.image(), 0);
        due("restore()", x.restore(), 0);
        for (int day = 1; day <= 9; day++) {
            x.day();
            due("image() behind " + day, x.image(), day);
            x.day();
            due("restore()", x.restore(), day);
            due("count(3)", x.count(3), day);
        }
    }

    private static void imageKeeps() {
        LentChanged x = townWith(SIX, 140, 511, 0);
        x.lend(2, 5);
        x.day();
        x.lend(0, 0);
        x.lend(1, 3);
        x.day();
        String before = told(x);
        due("image()", x.image(), 2);
        due("an IMAGE changes nothing", told(x), before);
        x.thing(300);
        x.lend(3, 1);
        x.lend(2, 4);
        for (int day = 0; day < 6; day++) {
            x.day();
        }
        due("all are back", x.count(2), 0);
        due("restore()", x.restore(), 2);
        due("all is told as it was", told(x), before);
        due("the later THING is gone", x.thingOf(3, 3), UNKNOWN);
        due("who has it", x.thingOf(0, 4), 0);
        due("how long still", x.about(0, 5), 4);
        due("how often back", x.thingOf(2, 5), 1);
        due("its STATE", x.thingOf(2, 3), 448);
        due("one comes back", x.day(), 1);
        due("what was done behind restore() is not of the IMAGE", x.restore(), 2);
        due("all is told as it was", told(x), before);
    }

    private static void imageIsTheLatest() {
        LentChanged x = townWith(SIX, 140);
        x.image();
        x.lend(0, 4);
        x.day();
        x.thing(7);
        due("a later one", x.image(), 1);
        x.day();
        due("restore()", x.restore(), 1);
        due("THINGS of the later one", x.count(1), 2);
        due("STATE of the later one", x.thingOf(0, 3), changed("d151", 140));
        due("restore() again", x.restore(), 1);
    }

    private static void imageDoesNotKeep() {
        LentChanged x = townWith(SIX, 140);
        typed(x, "01");
        x.image();
        x.hands(0, 0, 0, 0);
        typed(x, "2");
        x.restore();
        due("letters of THE PAGE", x.count(5), 3);
        due("TOWNS", x.count(6), 1);
        due("hands() done", x.count(7), 1);
        due("BORROWERS", x.count(0), 6);
        due("the ROUND of THE PAGE", x.round(140, 1), changed("t233", changed("s124", changed("a015", 140))));
    }

    private static void restoreRefused() {
        refused("of a new object", LentChanged::new, LentChanged::restore, STATE);
        refused("without a TOWN", () -> page(SIX), LentChanged::restore, STATE);
        refused("of no IMAGE", () -> townWith(SIX, 1, 2), LentChanged::restore, STATE);
        refused("behind an IMAGE that was refused", () -> {
            LentChanged x = new LentChanged();
            x.image();
            typed(x, SIX);
            x.town();
            x.thing(5);
            return x;
        }, LentChanged::restore, STATE);
        refused("another TOWN was read", () -> imageOfAnotherTown("a012,w131"), LentChanged::restore, STATE);
        refused("a TOWN of the same text was read", () -> imageOfAnotherTown("a012,w121"), LentChanged::restore, STATE);
        due("no TOWN was read", imageOfAnotherTown("a012,w12").restore(), 0);
        due("nothing was read", imageOfAnotherTown("").restore(), 0);
        LentChanged x = imageOfAnotherTown("a012,w121");
        x.day();
        due("an IMAGE since", x.image(), 1);
        due("restore() of that", x.restore(), 1);
    }

    private static void countsAtLeastAndMost() {
        LentChanged x = townWith("a015,a025,a035,a045,a055,a065", 511, 511, 511, 511);
        for (int thing = 0; thing < 4; thing++) {
            x.lend(thing, thing + 2);
        }
        x.day();
        for (int i = 0; i < 60; i++) {
            x.hands(0, 0, 0, 0);
        }
        typed(x, filled(31));
        int[] most = {6, 4, 4, 1, 84, 30, 1, 60};
        for (int what = 0; what <= 7; what++) {
            due("the most: count(" + what + ")", x.count(what), most[what]);
            due("the least: count(" + what + ")", new LentChanged().count(what), 0);
        }
        for (int day = 0; day < 4; day++) {
            x.day();
        }
        due("none is lent any more", x.count(2), 0);
        due("TRAITS as they are now", x.count(4), 56 + 2 + 3 + 4 + 5);
        due("DAYS", x.count(3), 5);
        for (int what : new int[] {LEAST, -1, 8, 9, MOST}) {
            refusedEverywhere("count(" + what + ")", y -> y.count(what), OUTSIDE);
        }
    }

    private static void countOfTowns() {
        LentChanged x = new LentChanged();
        for (int many = 1; many <= 5; many++) {
            typed(x, "a01");
            due("no TOWN", x.town(), STATE);
            due("count(6)", x.count(6), many - 1);
            typed(x, "1,a011");
            due("a TOWN", x.town(), 2);
            due("count(6)", x.count(6), many);
        }
        x.image();
        typed(x, "a011,a011");
        x.town();
        due("count(6)", x.count(6), 6);
        x.restore();
        due("count(6)", x.count(6), 6);
    }

    private static long mixed(List<Integer> numbers) {
        BigInteger h = BigInteger.valueOf(797);
        for (int number : numbers) {
            h = h.multiply(BigInteger.valueOf(31)).add(BigInteger.valueOf(number));
        }
        return h.longValue();
    }

    private static List<Integer> mixedOf(LentChanged x, String page) {
        List<Integer> all = new ArrayList<>();
        for (int borrower = 0; borrower < x.count(0); borrower++) {
            for (int what = 0; what <= 5; what++) {
                all.add(x.about(borrower, what));
            }
        }
        for (int thing = 0; thing < x.count(1); thing++) {
            for (int what = 0; what <= 6; what++) {
                all.add(x.thingOf(thing, what));
            }
            all.add(x.reach(thing));
            for (int what = 0; what <= 3; what++) {
                all.add(x.wished(thing, 0, what));
            }
        }
        page.chars().forEach(all::add);
        for (int what = 0; what <= 7; what++) {
            all.add(x.count(what));
        }
        return all;
    }

    private static void digestsAtLeastAndMost() {
        due("a new object", new LentChanged().digest(), mixed(Arrays.asList(0, 0, 0, 0, 0, 0, 0, 0)));
        due("one letter", page("~").digest(), mixed(Arrays.asList(126, 0, 0, 0, 0, 0, 1, 0, 0)));
        String page = (SIX + ",").replace('a', ' ').replace(',', '~');
        due("thirty letters", page(page).digest(), mixed(mixedOf(page(page), page)));
        due("a TOWN alone", townOf("a011,a021").digest(), mixed(mixedOf(townOf("a011,a021"), "")));
        due("all that there can be", busy().digest(), mixed(mixedOf(busy(), "0123")));
        LentChanged x = busy();
        long before = x.digest();
        due("once more", x.digest(), before);
        due("it changes nothing", toCome(x), toCome(busy()));
    }

    private static void whatItIs() {
        test("What it is: two to six BORROWERS", BoundariesTest::howManyBorrowers);
        test("What it is: numbered from 0", BoundariesTest::numberedFromZero);
        test("What it is: each a letter, a digit TRAIT (0 to 2), MUCH (1 to 7), DAYS (1 to 5)", BoundariesTest::townsBySigns);
        test("What it is: with ',' between", BoundariesTest::townsByLength);
        test("What it is: a letter, TRAIT, MUCH, DAYS", BoundariesTest::borrowersBySigns);
        test("What it is: at most 512 calls", BoundariesTest::allCallsAnswer);
        test("The public face: the constants", BoundariesTest::constants);
    }

    private static void terms() {
        test("Terms: all are ADDERS; a DOUBLER is a SETTER, too", BoundariesTest::allAreAdders);
        test("Terms: at first there is no TOWN", BoundariesTest::noTownAtFirst);
        test("Terms: THINGS (4 at most, numbered)", BoundariesTest::fourThingsAtMost);
        test("Terms: a STATE as a number (0 to 511)", BoundariesTest::statesAsNumbers);
        test("Terms: by an ADDER it is MUCH more (above 7: 8 less)", BoundariesTest::adders);
        test("Terms: by a SETTER it is MUCH", BoundariesTest::setters);
        test("Terms: by a TURNER it is 7 less what it was", BoundariesTest::turners);
        test("Terms: by a SWAPPER it and the next TRAIT (behind 2: 0)", BoundariesTest::swappers);
        test("Terms: by a DOUBLER it is twice what it was (its rest by 8)", BoundariesTest::doublers);
        test("Terms: behind as many DAYS (by the day() that is the last of them)", BoundariesTest::lendingLasts);
        test("Terms: at home, changed: it can be lent at once", BoundariesTest::lentAgainAtOnce);
        test("Terms: refusals, of several the first as told by each call", BoundariesTest::refusalsInTheirOrder);
    }

    private static void texts() {
        test("Promise 1: no TOWN", BoundariesTest::newObject);
        test("Promise 2: OUTSIDE: code (32 to 126)", BoundariesTest::codesOfLetters);
        test("Promise 2: FULL: above 30", BoundariesTest::thirtyLetters);
        test("Promise 3: THE PAGE is empty: how many letters it had", BoundariesTest::blankPages);
        test("Promise 4: OUTSIDE", BoundariesTest::sortsOfFault);
        test("Promise 4: the first letter that no TOWN has there; how many if there is none", BoundariesTest::faultsOfTowns);
        test("Promise 4: the first letter that no ROUND has there; how many if there is none", BoundariesTest::faultsOfRounds);
        test("Promise 4: no ROUND without BORROWERS", BoundariesTest::faultsWithoutTown);
        test("Promise 5: THE PAGE is empty then", BoundariesTest::townEmptiesThePage);
        test("Promise 5: another one is gone, with THINGS, DAYS", BoundariesTest::anotherTown);
        test("Promise 5: another one, with THINGS that are as those were", BoundariesTest::anotherTownOfTheSameThings);
        test("Promise 5: STATE: it is none", BoundariesTest::noTownChangesNothing);
        test("Promise 6: UNKNOWN", BoundariesTest::aboutBorrowers);
        test("Promise 6: OUTSIDE", BoundariesTest::aboutWhat);
        test("Promise 6: which THING he has (NONE), how many DAYS still (0: he has none)", BoundariesTest::whichThingHeHas);
        test("Promise 7: his own number; NONE: he is none such. UNKNOWN; OUTSIDE", BoundariesTest::asKinds);
    }

    private static void things() {
        test("Promise 8: OUTSIDE: state; STATE: no TOWN", BoundariesTest::statesOfThings);
        test("Promise 8: FULL, those that come since an IMAGE are gone", BoundariesTest::thingsBehindRestore);
        test("Promise 9: what = 0 to 6. UNKNOWN; OUTSIDE", BoundariesTest::thingsTold);
        test("Promise 9: if it is lent, as it was; as it will be at home", BoundariesTest::lentThingsTold);
        test("Promise 10: UNKNOWN: thing, borrower", BoundariesTest::lendUnknown);
        test("Promise 10: STATE: it is lent, or he has one", BoundariesTest::lendState);
        test("Promise 11: how many THINGS come back", BoundariesTest::daysGoBy);
        test("Promise 11: STATE: no TOWN", BoundariesTest::noDayWithoutTown);
    }

    private static void whatWouldBe() {
        test("Promise 12: UNKNOWN: borrower; OUTSIDE: state", BoundariesTest::byBorrower);
        test("Promise 13: NONE: it is so", BoundariesTest::wishedIsSo);
        test("Promise 13: none: NONE", BoundariesTest::wishedNever);
        test("Promise 13: how few loans, how few DAYS", BoundariesTest::wishedFewest);
        test("Promise 13: the first of all such rows: the least", BoundariesTest::wishedFirstIsLeast);
        test("Promise 13: as all rows tell", BoundariesTest::wishedByAllRows);
        test("Promise 13: UNKNOWN; OUTSIDE: state, what", BoundariesTest::wishedRefused);
        test("Promise 14: REACH (that which it has, too). UNKNOWN", BoundariesTest::reaches);
        test("Promise 15: nor is it so now", BoundariesTest::spoilersSoNow);
        test("Promise 15: the fewest BORROWERS, of like ones the least bits", BoundariesTest::spoilersAreSets);
        test("Promise 15: UNKNOWN; OUTSIDE: trait, least (1 to 7)", BoundariesTest::spoilersRefused);
        test("Promise 16: a ROUND is one to eight digits. STATE: it is none", BoundariesTest::roundsByLength);
        test("Promise 16: BACK: the least number (1 to 60); none", BoundariesTest::roundBack);
        test("Promise 16: OUTSIDE: state, what", BoundariesTest::roundRefused);
        test("Promise 16: it stays", BoundariesTest::roundChangesNothing);
    }

    private static void toldBackAndOfAll() {
        test("Promise 17: by just so many loans (0 to 6)", BoundariesTest::handsByLoans);
        test("Promise 17: those that are in each (none of them, if there is no row)", BoundariesTest::handsInEach);
        test("Promise 17: OUTSIDE: from, to (STATES), loans, what; STATE: no TOWN", BoundariesTest::handsRefused);
        test("Promise 17: STATE: hands() was done 60 times ever", BoundariesTest::handsSixtyTimes);
        test("Promise 17: it counts on, whatever is read or restored", BoundariesTest::handsCountOn);
        test("Promise 18: times (1 to 90), seed (0 at least)", BoundariesTest::yearsByTimes);
        test("Promise 18: those that are lent now are as they will come back first", BoundariesTest::yearsOfLentOnes);
        test("Promise 18: OUTSIDE; STATE: there are no THINGS", BoundariesTest::yearsRefused);
        test("Promise 19: DAYS. STATE: no TOWN", BoundariesTest::imageOfDays);
        test("Promise 19: what an IMAGE keeps", BoundariesTest::imageKeeps);
        test("Promise 19: one; the latest", BoundariesTest::imageIsTheLatest);
        test("Promise 20: what an IMAGE does not keep", BoundariesTest::imageDoesNotKeep);
        test("Promise 20: STATE: none was kept, or a TOWN was read since (of the same text, too)", BoundariesTest::restoreRefused);
        test("Promise 21: the least, the most. OUTSIDE", BoundariesTest::countsAtLeastAndMost);
        test("Promise 21: how often a TOWN was read", BoundariesTest::countOfTowns);
        test("Promise 22: h is 797, then 31 times h, and it (as longs, wrapping)", BoundariesTest::digestsAtLeastAndMost);
    }

    public static void main(String[] args) {
        whatItIs();
        terms();
        texts();
        things();
        whatWouldBe();
        toldBackAndOfAll();
        System.out.println("BoundariesTest: " + asked + " answers, " + wrong + " wrong");
        if (wrong != 0) {
            System.exit(1);
        }
    }
}
