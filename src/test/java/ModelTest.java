import java.math.BigInteger;
import java.util.ArrayList;
import java.util.HashMap;
import java.util.HashSet;
import java.util.List;
import java.util.Map;
import java.util.Random;
import java.util.Set;
import java.util.regex.Matcher;
import java.util.regex.Pattern;

/** Runs of calls by fixed seeds, each answer compared with that of a slow model which is written another way. */
public final class ModelTest {
    private static final int RUNS = 250, CALLS = 512;
    private static final int NONE = -1, UNKNOWN = -101, OUTSIDE = -102, STATE = -103, FULL = -104;

    /** The document in the plainest words: no rows that are used again, each answer from nothing. */
    private static final class Model {
        private static final Pattern TOWN = Pattern.compile("[astwd][0-2][1-7][1-5](,[astwd][0-2][1-7][1-5]){1,5}");
        String page = "";
        List<String> town = new ArrayList<>();
        List<int[]> things = new ArrayList<>(); // STATE, who has it, DAYS still, how often back
        List<int[]> kept = null;
        int keptDays;
        int days;
        int townsRead;
        int handsDone;

        int letter(int code) {
            if (code < 32 || code > 126) return OUTSIDE;
            if (page.length() == 30) return FULL;
            page += (char) code;
            return page.length();
        }

        int blank() {
            int had = page.length();
            page = "";
            return had;
        }

        int fault(int sort) {
            if (sort != 0 && sort != 1) return OUTSIDE;
            Pattern pattern = sort == 0 ? TOWN : roundPattern();
            for (int end = 1; end <= page.length(); end++) {
                Matcher matcher = pattern.matcher(page.substring(0, end));
                if (!matcher.matches() && !matcher.hitEnd()) return end - 1;
            }
            return page.length();
        }

        Pattern roundPattern() {
            return Pattern.compile(town.isEmpty() ? "(?!)" : "[0-" + (town.size() - 1) + "]{1,8}");
        }

        int town() {
            if (!TOWN.matcher(page).matches()) return STATE;
            town = new ArrayList<>(List.of(page.split(",")));
            page = "";
            things = new ArrayList<>();
            kept = null;
            days = 0;
            townsRead++;
            return town.size();
        }

        boolean noBorrower(int b) {
            return b < 0 || b >= town.size();
        }

        boolean noThing(int t) {
            return t < 0 || t >= things.size();
        }

        static boolean noState(int s) {
            return s < 0 || s > 511;
        }

        int digit(int b, int place) {
            return Character.digit(town.get(b).charAt(place), 10);
        }

        int heldBy(int b) {
            for (int t = 0; t < things.size(); t++) if (things.get(t)[1] == b) return t;
            return NONE;
        }

        int about(int b, int what) {
            if (noBorrower(b)) return UNKNOWN;
            if (what < 0 || what > 5) return OUTSIDE;
            if (what == 0) return "astwd".indexOf(town.get(b).charAt(0));
            if (what < 4) return digit(b, what);
            if (what == 4) return heldBy(b);
            return heldBy(b) == NONE ? 0 : things.get(heldBy(b))[2];
        }

        int as(int b, int kind) {
            if (noBorrower(b)) return UNKNOWN;
            if (kind < 0 || kind > 4) return OUTSIDE;
            String all = Map.of('a', "0", 's', "01", 't', "02", 'w', "03", 'd', "014").get(town.get(b).charAt(0));
            return all.contains("" + kind) ? b : NONE;
        }

        int thing(int s) {
            if (noState(s)) return OUTSIDE;
            if (town.isEmpty()) return STATE;
            if (things.size() == 4) return FULL;
            things.add(new int[] {s, NONE, 0, 0});
            return things.size() - 1;
        }

        static int[] split(int s) {
            return new int[] {s % 8, s / 8 % 8, s / 64};
        }

        static int join(int[] traits) {
            return traits[0] + 8 * traits[1] + 64 * traits[2];
        }

        int after(int b, int s) {
            int[] traits = split(s);
            int t = digit(b, 1);
            int was = traits[t];
            switch (town.get(b).charAt(0)) {
                case 'a':
                    traits[t] = was + digit(b, 2) > 7 ? was + digit(b, 2) - 8 : was + digit(b, 2);
                    break;
                case 's':
                    traits[t] = digit(b, 2);
                    break;
                case 't':
                    traits[t] = 7 - was;
                    break;
                case 'w':
                    int next = t == 2 ? 0 : t + 1;
                    traits[t] = traits[next];
                    traits[next] = was;
                    break;
                default:
                    traits[t] = 2 * was % 8;
            }
            return join(traits);
        }

        int atHome(int t) {
            int[] thing = things.get(t);
            return thing[1] == NONE ? thing[0] : after(thing[1], thing[0]);
        }

        int thingOf(int t, int what) {
            if (noThing(t)) return UNKNOWN;
            if (what < 0 || what > 6) return OUTSIDE;
            int[] thing = things.get(t);
            if (what < 3) return split(thing[0])[what];
            return what == 3 ? thing[0] : what == 4 ? thing[1] : what == 5 ? thing[3] : atHome(t);
        }

        int lend(int t, int b) {
            if (noThing(t) || noBorrower(b)) return UNKNOWN;
            if (things.get(t)[1] != NONE || heldBy(b) != NONE) return STATE;
            things.get(t)[1] = b;
            things.get(t)[2] = digit(b, 3);
            return digit(b, 3);
        }

        int day() {
            if (town.isEmpty()) return STATE;
            days++;
            int back = 0;
            for (int t = 0; t < things.size(); t++) {
                int[] thing = things.get(t);
                if (thing[1] != NONE && --thing[2] == 0) {
                    thing[0] = atHome(t);
                    thing[1] = NONE;
                    thing[3]++;
                    back++;
                }
            }
            return back;
        }

        int by(int b, int s) {
            return noBorrower(b) ? UNKNOWN : noState(s) ? OUTSIDE : after(b, s);
        }

        /** Of each STATE how much it costs to come to the wished one: told until no loan makes it less. */
        int[] costsTo(int wish, boolean byDays) {
            int[] costs = new int[512];
            java.util.Arrays.fill(costs, 1000000);
            costs[wish] = 0;
            boolean isLess = true;
            while (isLess) {
                isLess = false;
                for (int s = 0; s < 512; s++) {
                    for (int b = 0; b < town.size(); b++) {
                        int cost = costs[after(b, s)] + (byDays ? digit(b, 3) : 1);
                        if (cost < costs[s]) {
                            costs[s] = cost;
                            isLess = true;
                        }
                    }
                }
            }
            return costs;
        }

        private final Map<Integer, int[]> told = new HashMap<>();
        private int toldOf;

        int wished(int t, int s, int what) {
            if (noThing(t)) return UNKNOWN;
            if (noState(s) || what < 0 || what > 3) return OUTSIDE;
            if (toldOf != townsRead) told.clear();
            toldOf = townsRead;
            int[] costs = told.computeIfAbsent(2 * s + what / 2, key -> costsTo(s, what > 1));
            int from = atHome(t);
            if (costs[from] >= 1000000) return NONE;
            if (what % 2 == 0) return costs[from];
            for (int b = 0; b < town.size(); b++) {
                int cost = what > 1 ? digit(b, 3) : 1;
                if (costs[from] > 0 && costs[after(b, from)] + cost == costs[from]) return b;
            }
            return NONE;
        }

        Set<Integer> reachOf(int from, int without) {
            Set<Integer> all = new HashSet<>(Set.of(from));
            List<Integer> open = new ArrayList<>(all);
            while (!open.isEmpty()) {
                int s = open.remove(open.size() - 1);
                for (int b = 0; b < town.size(); b++) {
                    if ((without & 1 << b) == 0 && all.add(after(b, s))) open.add(after(b, s));
                }
            }
            return all;
        }

        int reach(int t) {
            return noThing(t) ? UNKNOWN : reachOf(atHome(t), 0).size();
        }

        int spoilers(int t, int trait, int least) {
            if (noThing(t)) return UNKNOWN;
            if (trait < 0 || trait > 2 || least < 1 || least > 7) return OUTSIDE;
            int best = NONE;
            for (int set = 0; set < 1 << town.size(); set++) {
                boolean isFewer = best == NONE || Integer.bitCount(set) < Integer.bitCount(best);
                if (isFewer && reachOf(atHome(t), set).stream().allMatch(s -> split(s)[trait] >= least)) best = set;
            }
            return best;
        }

        int sentRound(int s) {
            int end = s;
            for (char c : page.toCharArray()) end = after(c - '0', end);
            return end;
        }

        int round(int s, int what) {
            if (noState(s) || what < 0 || what > 1) return OUTSIDE;
            if (!roundPattern().matcher(page).matches()) return STATE;
            if (what == 1) return sentRound(s);
            BigInteger times = BigInteger.ONE;
            for (int first = 0; first < 512; first++) {
                int length = 1;
                int end = sentRound(first);
                while (end != first && length < 600) {
                    end = sentRound(end);
                    length++;
                }
                if (end != first) return NONE;
                BigInteger more = BigInteger.valueOf(length);
                times = times.multiply(more).divide(times.gcd(more));
            }
            return times.compareTo(BigInteger.valueOf(60)) > 0 ? NONE : times.intValue();
        }

        private int many;
        private int inEach;

        void tryRows(int s, int to, int loans, int used) {
            if (loans == 0) {
                if (s == to) {
                    inEach = many == 0 ? used : inEach & used;
                    many++;
                }
                return;
            }
            for (int b = 0; b < town.size(); b++) tryRows(after(b, s), to, loans - 1, used | 1 << b);
        }

        int hands(int from, int to, int loans, int what) {
            if (noState(from) || noState(to) || loans < 0 || loans > 6 || what < 0 || what > 1) return OUTSIDE;
            if (town.isEmpty() || handsDone == 60) return STATE;
            handsDone++;
            many = 0;
            inEach = 0;
            tryRows(from, to, loans, 0);
            return what == 0 ? many : inEach;
        }

        private BigInteger seedNow;

        int draw(int howMany) {
            seedNow = seedNow.multiply(BigInteger.valueOf(1103515245)).add(BigInteger.valueOf(12345))
                    .mod(BigInteger.ONE.shiftLeft(31));
            return seedNow.divide(BigInteger.valueOf(65536)).mod(BigInteger.valueOf(howMany)).intValue();
        }

        int years(int times, int seed, int what) {
            if (times < 1 || times > 90 || seed < 0 || what < 0 || what > 2) return OUTSIDE;
            if (things.isEmpty()) return STATE;
            List<Integer> then = new ArrayList<>();
            for (int t = 0; t < things.size(); t++) then.add(atHome(t));
            seedNow = BigInteger.valueOf(seed);
            for (int i = 0; i < times; i++) {
                int t = draw(things.size());
                int b = draw(town.size());
                then.set(t, after(b, then.get(t)));
            }
            return what == 0 ? then.get(0) : what == 1 ? sum(then) : seedNow.intValue();
        }

        static int sum(List<Integer> states) {
            int sum = 0;
            for (int s : states) for (int trait : split(s)) sum += trait;
            return sum;
        }

        static List<int[]> copyOf(List<int[]> all) {
            List<int[]> copy = new ArrayList<>();
            for (int[] one : all) copy.add(one.clone());
            return copy;
        }

        int image() {
            if (town.isEmpty()) return STATE;
            kept = copyOf(things);
            keptDays = days;
            return days;
        }

        int restore() {
            if (kept == null) return STATE;
            things = copyOf(kept);
            days = keptDays;
            return days;
        }

        int count(int what) {
            List<Integer> states = new ArrayList<>();
            int lent = 0;
            for (int[] thing : things) {
                states.add(thing[0]);
                lent += thing[1] == NONE ? 0 : 1;
            }
            int[] all = {town.size(), things.size(), lent, days, sum(states), page.length(), townsRead, handsDone};
            return what < 0 || what >= all.length ? OUTSIDE : all[what];
        }

        long digest() {
            List<Integer> all = new ArrayList<>();
            for (int b = 0; b < town.size(); b++) for (int w = 0; w < 6; w++) all.add(about(b, w));
            for (int t = 0; t < things.size(); t++) {
                for (int w = 0; w < 7; w++) all.add(thingOf(t, w));
                all.add(reach(t));
                for (int w = 0; w < 4; w++) all.add(wished(t, 0, w));
            }
            for (char c : page.toCharArray()) all.add((int) c);
            for (int w = 0; w < 8; w++) all.add(count(w));
            long h = 797;
            for (int one : all) h = 31 * h + one;
            return h;
        }
    }

    private static final int[] WILD = {Integer.MIN_VALUE, Integer.MIN_VALUE + 1, -513, -512, -101, -2, -1, 8, 60, 61, 90, 91,
        511, 512, 513, 3072, 65536, 1 << 30, Integer.MAX_VALUE - 1, Integer.MAX_VALUE};

    private final Random random;
    private final LentChanged program = new LentChanged();
    private final Model model = new Model();
    private final StringBuilder told = new StringBuilder();
    private final boolean asksHands;
    private String typing = "";

    private ModelTest(long seed) {
        random = new Random(seed);
        // In some runs hands() is done 60 times, and refused then.
        asksHands = seed % 10 == 0;
    }

    /** Mostly a number below the bound, at times one beside it, at times a wild one. */
    private int number(int bound) {
        int kind = random.nextInt(40);
        if (kind == 0) return WILD[random.nextInt(WILD.length)];
        if (kind == 1) return bound;
        if (kind == 2) return -1;
        return random.nextInt(bound);
    }

    private int thingNumber() {
        return number(Math.max(1, model.things.size()));
    }

    private int borrowerNumber() {
        return number(Math.max(1, model.town.size()));
    }

    private int stateNumber() {
        if (!model.things.isEmpty() && !model.town.isEmpty() && random.nextInt(2) == 0) {
            int s = model.atHome(random.nextInt(model.things.size()));
            for (int i = random.nextInt(6); i > 0; i--) s = model.after(random.nextInt(model.town.size()), s);
            return s;
        }
        return number(512);
    }

    private String townText() {
        StringBuilder text = new StringBuilder();
        int many = 2 + random.nextInt(5);
        // Few TRAITS and KINDS make towns in which not all can be reached.
        int traits = 1 + random.nextInt(3);
        String kinds = random.nextInt(3) == 0 ? "tw" : "astwd";
        for (int b = 0; b < many; b++) {
            text.append(b == 0 ? "" : ",").append(kinds.charAt(random.nextInt(kinds.length())));
            text.append(random.nextInt(traits)).append(1 + random.nextInt(7)).append(1 + random.nextInt(5));
        }
        int place = random.nextInt(text.length());
        switch (random.nextInt(30)) {
            case 0: text.setCharAt(place, (char) (32 + random.nextInt(95))); break;
            case 1: text.setCharAt(place, (char) (text.charAt(place) + 1)); break;
            case 2: text.setCharAt(place, (char) (text.charAt(place) - 1)); break;
            case 3: text.setCharAt(place, "01278369".charAt(random.nextInt(8))); break;
            case 4: text.setLength(place); break;
            case 5: text.append(','); break;
            default:
        }
        return text.toString();
    }

    private String roundText() {
        StringBuilder text = new StringBuilder();
        for (int i = random.nextInt(random.nextInt(6) == 0 ? 11 : 5); i >= 0; i--) {
            text.append((char) ('0' + random.nextInt(Math.max(1, model.town.size()) + (random.nextInt(9) == 0 ? 1 : 0))));
        }
        return text.toString();
    }

    private long both(String call, long got, long want) {
        told.append(call).append(" = ").append(got).append('\n');
        if (got != want) {
            System.out.println(told);
            throw new IllegalStateException(call + " answered " + got + ", due is " + want);
        }
        return want;
    }

    private void typeOne() {
        int code = typing.charAt(0);
        typing = typing.substring(1);
        both("letter(" + code + ")", program.letter(code), model.letter(code));
    }

    private void textCall() {
        switch (random.nextInt(6)) {
            case 0:
                typing = townText();
                both("blank()", program.blank(), model.blank());
                return;
            case 1:
                typing = roundText();
                if (random.nextInt(5) > 0) both("blank()", program.blank(), model.blank());
                return;
            case 2:
            case 3:
                int sort = number(2);
                both("fault(" + sort + ")", program.fault(sort), model.fault(sort));
                return;
            case 4:
                int code = random.nextInt(3) > 0 ? 28 + random.nextInt(104) : number(127);
                both("letter(" + code + ")", program.letter(code), model.letter(code));
                return;
            default:
                both("town()", program.town(), model.town());
        }
    }

    private void thingCall() {
        int t = thingNumber();
        int b = borrowerNumber();
        int what = number(7);
        int s = stateNumber();
        switch (random.nextInt(9)) {
            case 0: both("about " + b + " " + what, program.about(b, what), model.about(b, what)); return;
            case 1: both("as " + b + " " + what, program.as(b, what), model.as(b, what)); return;
            case 2: both("thing " + s, program.thing(s), model.thing(s)); return;
            case 3: both("thingOf " + t + " " + what, program.thingOf(t, what), model.thingOf(t, what)); return;
            case 4:
            case 5: both("lend " + t + " " + b, program.lend(t, b), model.lend(t, b)); return;
            case 6: both("by " + b + " " + s, program.by(b, s), model.by(b, s)); return;
            default: both("day", program.day(), model.day());
        }
    }

    private void searchCall() {
        int t = thingNumber();
        int s = stateNumber();
        switch (random.nextInt(6)) {
            case 0:
            case 1:
                int what = number(4);
                both("wished " + t + " " + s + " " + what, program.wished(t, s, what), model.wished(t, s, what));
                return;
            case 2:
                both("reach " + t, program.reach(t), model.reach(t));
                return;
            case 3:
                int trait = number(3);
                int least = number(8);
                both("spoilers " + t + " " + trait + " " + least, program.spoilers(t, trait, least),
                        model.spoilers(t, trait, least));
                return;
            case 4:
                int asked = number(2);
                both("round " + s + " " + asked, program.round(s, asked), model.round(s, asked));
                return;
            default:
                int from = stateNumber();
                int loans = number(7);
                int told = number(2);
                both("hands " + from + " " + s + " " + loans + " " + told, program.hands(from, s, loans, told),
                        model.hands(from, s, loans, told));
        }
    }

    private void otherCall() {
        switch (random.nextInt(5)) {
            case 0:
                int times = number(91);
                int seed = random.nextInt(4) == 0 ? number(100) : random.nextInt(Integer.MAX_VALUE);
                int what = number(3);
                both("years " + times + " " + seed + " " + what, program.years(times, seed, what),
                        model.years(times, seed, what));
                return;
            case 1: both("image", program.image(), model.image()); return;
            case 2: both("restore", program.restore(), model.restore()); return;
            case 3:
                int asked = number(8);
                both("count " + asked, program.count(asked), model.count(asked));
                return;
            default: both("digest", program.digest(), model.digest());
        }
    }

    private void run() {
        typing = random.nextInt(10) == 0 ? "" : townText();
        boolean isTyped = false;
        for (int i = 0; i < CALLS; i++) {
            if (!typing.isEmpty()) {
                typeOne();
                isTyped = true;
            } else if (isTyped) {
                isTyped = false;
                if (model.page.contains(",")) both("town()", program.town(), model.town());
                else if (!model.page.isEmpty()) both("round 5 0", program.round(5, 0), model.round(5, 0));
            } else {
                anyCall();
            }
        }
        both("digest", program.digest(), model.digest());
    }

    private void fewHands() {
        int s = stateNumber();
        int told = number(2);
        both("hands " + s + " " + s + " 1 " + told, program.hands(s, s, 1, told), model.hands(s, s, 1, told));
    }

    private void anyCall() {
        int kind = random.nextInt(40);
        if (asksHands && kind > 32) fewHands();
        else if (kind < 3) textCall();
        else if (kind < 20) thingCall();
        else if (kind < 33) searchCall();
        else otherCall();
    }

    public static void main(String[] args) {
        for (int seed = 1; seed <= RUNS; seed++) {
            try {
                new ModelTest(seed).run();
            } catch (RuntimeException e) {
                System.out.println("run by seed " + seed);
                e.printStackTrace(System.out);
                System.exit(1);
            }
        }
        System.out.println("ModelTest: " + RUNS + " runs of " + CALLS + " calls as due");
    }
}
