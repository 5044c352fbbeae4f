/**
 * What is lent comes back changed: a town of borrowers, things with three traits each,
 * loans that take days, and what would be if other loans were made.
 * ../shared/DOC.md tells what each call answers.
 */
public final class LentChanged {
    public static final int NONE = -1, UNKNOWN = -101, OUTSIDE = -102, STATE = -103, FULL = -104;

    private static final int LOWEST_CODE = 32, HIGHEST_CODE = 126, MOST_LETTERS = 30;
    private static final int ADDER = 0, SETTER = 1, TURNER = 2, SWAPPER = 3, DOUBLER = 4;
    private static final int TRAITS = 3, HIGHEST_TRAIT = 7, STATES = 512;
    private static final int FEWEST_BORROWERS = 2, MOST_BORROWERS = 6, MOST_DAYS = 5;
    private static final int MOST_THINGS = 4;
    private static final int LONGEST_ROUND = 8, MOST_TIMES_ROUND = 60;
    private static final int MOST_LOANS = 6, MOST_HANDS = 60, MOST_YEARS = 90;

    private final Page page;
    private final Town people;
    private final Things things;
    private final Things kept;
    private final Ways fewestLoans;
    private final Ways fewestDays;
    private final Spoiling spoiling;
    private final Rows rows;
    private boolean hasImage;
    private int townsRead;
    private int handsDone;

    public LentChanged() {
        page = new Page();
        people = new Town();
        things = new Things();
        kept = new Things();
        fewestLoans = new Ways(people, false);
        fewestDays = new Ways(people, true);
        spoiling = new Spoiling(people);
        rows = new Rows(people);
    }

    // ---- texts

    public int letter(int code) {
        if (code < LOWEST_CODE || code > HIGHEST_CODE) {
            return OUTSIDE;
        }
        if (page.length >= MOST_LETTERS) {
            return FULL;
        }
        page.add(code);
        return page.length;
    }

    public int blank() {
        int had = page.length;
        page.length = 0;
        return had;
    }

    public int fault(int sort) {
        if (sort == 0) {
            return page.faultOfTown();
        }
        if (sort == 1) {
            return page.faultOfRound(people.size);
        }
        return OUTSIDE;
    }

    public int town() {
        if (!page.isTown()) {
            return STATE;
        }
        people.read(page);
        page.length = 0;
        things.empty();
        fewestLoans.forget();
        fewestDays.forget();
        hasImage = false;
        townsRead++;
        return people.size;
    }

    public int about(int borrower, int what) {
        Adder one = people.borrowerAt(borrower);
        if (one == null) {
            return UNKNOWN;
        }
        switch (what) {
            case 0: return one.kind();
            case 1: return one.trait;
            case 2: return one.much;
            case 3: return one.days;
            case 4: return things.numberHeldBy(borrower);
            case 5: return things.daysLeftAt(borrower);
            default: return OUTSIDE;
        }
    }

    public int as(int borrower, int kind) {
        Adder one = people.borrowerAt(borrower);
        if (one == null) {
            return UNKNOWN;
        }
        if (kind < ADDER || kind > DOUBLER) {
            return OUTSIDE;
        }
        return isOfKind(one, kind) ? borrower : NONE;
    }

    // ---- things

    public int thing(int state) {
        if (!isState(state)) {
            return OUTSIDE;
        }
        if (people.size == 0) {
            return STATE;
        }
        if (things.size >= MOST_THINGS) {
            return FULL;
        }
        return things.add(state);
    }

    public int thingOf(int thing, int what) {
        if (!things.has(thing)) {
            return UNKNOWN;
        }
        switch (what) {
            case 0:
            case 1:
            case 2: return traitOf(things.stateOf(thing), what);
            case 3: return things.stateOf(thing);
            case 4: return things.holderOf(thing);
            case 5: return things.returnsOf(thing);
            case 6: return things.stateAtHome(thing, people);
            default: return OUTSIDE;
        }
    }

    public int lend(int thing, int borrower) {
        Adder to = people.borrowerAt(borrower);
        if (!things.has(thing) || to == null) {
            return UNKNOWN;
        }
        if (things.isLent(thing) || things.numberHeldBy(borrower) != NONE) {
            return STATE;
        }
        things.give(thing, borrower, to.days);
        return to.days;
    }

    public int day() {
        if (people.size == 0) {
            return STATE;
        }
        return things.passDay(people);
    }

    // ---- what would be

    public int by(int borrower, int state) {
        if (people.borrowerAt(borrower) == null) {
            return UNKNOWN;
        }
        if (!isState(state)) {
            return OUTSIDE;
        }
        return people.after(borrower, state);
    }

    public int wished(int thing, int state, int what) {
        if (!things.has(thing)) {
            return UNKNOWN;
        }
        if (!isState(state) || what < 0 || what > 3) {
            return OUTSIDE;
        }
        Ways ways = what < 2 ? fewestLoans : fewestDays;
        ways.searchFrom(things.stateAtHome(thing, people));
        return what % 2 == 0 ? ways.costOf(state) : ways.firstTo(state);
    }

    public int reach(int thing) {
        if (!things.has(thing)) {
            return UNKNOWN;
        }
        fewestLoans.searchFrom(things.stateAtHome(thing, people));
        return fewestLoans.found;
    }

    public int spoilers(int thing, int trait, int least) {
        if (!things.has(thing)) {
            return UNKNOWN;
        }
        if (trait < 0 || trait >= TRAITS || least < 1 || least > HIGHEST_TRAIT) {
            return OUTSIDE;
        }
        return spoiling.fewest(things.stateAtHome(thing, people), trait, least);
    }

    public int round(int state, int what) {
        if (!isState(state) || what < 0 || what > 1) {
            return OUTSIDE;
        }
        if (!page.isRound(people.size)) {
            return STATE;
        }
        return what == 0 ? people.timesUntilBack(page) : people.endOf(page, state);
    }

    // ---- told back

    public int hands(int from, int to, int loans, int what) {
        if (!isState(from) || !isState(to) || loans < 0 || loans > MOST_LOANS || what < 0 || what > 1) {
            return OUTSIDE;
        }
        if (people.size == 0 || handsDone >= MOST_HANDS) {
            return STATE;
        }
        handsDone++;
        rows.follow(from, loans);
        return what == 0 ? rows.howManyTo(to) : rows.inEachTo(to);
    }

    public int years(int times, int seed, int what) {
        if (times < 1 || times > MOST_YEARS || seed < 0 || what < 0 || what > 2) {
            return OUTSIDE;
        }
        if (things.size == 0) {
            return STATE;
        }
        things.dreamYears(people, times, seed);
        switch (what) {
            case 0: return things.stateOfFirstThen();
            case 1: return things.traitsTogetherThen();
            default: return things.seedThen;
        }
    }

    // ---- what is told of all

    public int image() {
        if (people.size == 0) {
            return STATE;
        }
        kept.copyFrom(things);
        hasImage = true;
        return things.days;
    }

    public int restore() {
        if (!hasImage) {
            return STATE;
        }
        things.copyFrom(kept);
        return things.days;
    }

    public int count(int what) {
        switch (what) {
            case 0: return people.size;
            case 1: return things.size;
            case 2: return things.howManyLent();
            case 3: return things.days;
            case 4: return things.traitsTogether();
            case 5: return page.length;
            case 6: return townsRead;
            case 7: return handsDone;
            default: return OUTSIDE;
        }
    }

    public long digest() {
        long h = 797;
        for (int borrower = 0; borrower < people.size; borrower++) {
            for (int what = 0; what <= 5; what++) {
                h = 31 * h + about(borrower, what);
            }
        }
        for (int thing = 0; thing < things.size; thing++) {
            h = mixedThing(h, thing);
        }
        for (int place = 0; place < page.length; place++) {
            h = 31 * h + page.codeAt(place);
        }
        for (int what = 0; what <= 7; what++) {
            h = 31 * h + count(what);
        }
        return h;
    }

    private long mixedThing(long before, int thing) {
        long h = before;
        for (int what = 0; what <= 6; what++) {
            h = 31 * h + thingOf(thing, what);
        }
        h = 31 * h + reach(thing);
        for (int what = 0; what <= 3; what++) {
            h = 31 * h + wished(thing, 0, what);
        }
        return h;
    }

    private static boolean isOfKind(Adder one, int kind) {
        switch (kind) {
            case ADDER: return true;
            case SETTER: return one instanceof Setter;
            case TURNER: return one instanceof Turner;
            case SWAPPER: return one instanceof Swapper;
            case DOUBLER: return one instanceof Doubler;
            default: return false;
        }
    }

    private static boolean isState(int number) {
        return number >= 0 && number < STATES;
    }

    private static int traitOf(int state, int trait) {
        return (state >> (3 * trait)) & HIGHEST_TRAIT;
    }

    private static int traitSum(int state) {
        return traitOf(state, 0) + traitOf(state, 1) + traitOf(state, 2);
    }

    // Rows are read and written through these, so that no place outside a row is ever touched.
    private static int at(int[] row, int place) {
        return place >= 0 && place < row.length ? row[place] : 0;
    }

    private static void put(int[] row, int place, int value) {
        if (place >= 0 && place < row.length) {
            row[place] = value;
        }
    }

    private static void fill(int[] row, int value) {
        for (int place = 0; place < row.length; place++) {
            row[place] = value;
        }
    }

    /** The letters that have come, and whether they are a TOWN or a ROUND. */
    private static final class Page {
        // Four letters of a BORROWER and the ',' behind them.
        private static final int STEP = 5;

        private final int[] codes = new int[MOST_LETTERS];
        private int length;

        void add(int code) {
            put(codes, length, code);
            length++;
        }

        int codeAt(int place) {
            return at(codes, place);
        }

        int digitAt(int place) {
            return at(codes, place) - '0';
        }

        int faultOfTown() {
            for (int place = 0; place < length; place++) {
                if (!fitsTown(place)) {
                    return place;
                }
            }
            return length;
        }

        int faultOfRound(int borrowers) {
            for (int place = 0; place < length; place++) {
                int digit = digitAt(place);
                if (place >= LONGEST_ROUND || digit < 0 || digit >= borrowers) {
                    return place;
                }
            }
            return length;
        }

        boolean isTown() {
            boolean endsWhole = length % STEP == STEP - 1;
            return endsWhole && length / STEP + 1 >= FEWEST_BORROWERS && faultOfTown() == length;
        }

        boolean isRound(int borrowers) {
            return length > 0 && faultOfRound(borrowers) == length;
        }

        int borrowers() {
            return (length + 1) / STEP;
        }

        Adder borrowerFrom(int number) {
            int place = number * STEP;
            int trait = digitAt(place + 1);
            int much = digitAt(place + 2);
            int days = digitAt(place + 3);
            switch (at(codes, place)) {
                case 's': return new Setter(trait, much, days);
                case 't': return new Turner(trait, much, days);
                case 'w': return new Swapper(trait, much, days);
                case 'd': return new Doubler(trait, much, days);
                default: return new Adder(trait, much, days);
            }
        }

        private boolean fitsTown(int place) {
            if (place >= MOST_BORROWERS * STEP - 1) {
                return false;
            }
            int code = at(codes, place);
            switch (place % STEP) {
                case 0: return code == 'a' || code == 's' || code == 't' || code == 'w' || code == 'd';
                case 1: return code >= '0' && code < '0' + TRAITS;
                case 2: return code >= '1' && code <= '0' + HIGHEST_TRAIT;
                case 3: return code >= '1' && code <= '0' + MOST_DAYS;
                default: return code == ',';
            }
        }
    }

    /** A BORROWER; all are ADDERS, so this is what the other KINDS are made of. */
    private static class Adder {
        final int trait;
        final int much;
        final int days;

        Adder(int trait, int much, int days) {
            this.trait = trait;
            this.much = much;
            this.days = days;
        }

        int kind() {
            return ADDER;
        }

        int changed(int was) {
            return (was + much) & HIGHEST_TRAIT;
        }

        int stateAfter(int state) {
            int was = traitOf(state, trait);
            return state + ((changed(was) - was) << (3 * trait));
        }
    }

    private static class Setter extends Adder {
        Setter(int trait, int much, int days) {
            super(trait, much, days);
        }

        int kind() {
            return SETTER;
        }

        int changed(int was) {
            return much;
        }
    }

    private static final class Turner extends Adder {
        Turner(int trait, int much, int days) {
            super(trait, much, days);
        }

        int kind() {
            return TURNER;
        }

        int changed(int was) {
            return HIGHEST_TRAIT - was;
        }
    }

    private static final class Swapper extends Adder {
        Swapper(int trait, int much, int days) {
            super(trait, much, days);
        }

        int kind() {
            return SWAPPER;
        }

        int stateAfter(int state) {
            int next = (trait + 1) % TRAITS;
            int here = traitOf(state, trait);
            int there = traitOf(state, next);
            return state + ((there - here) << (3 * trait)) + ((here - there) << (3 * next));
        }
    }

    private static final class Doubler extends Setter {
        Doubler(int trait, int much, int days) {
            super(trait, much, days);
        }

        int kind() {
            return DOUBLER;
        }

        int changed(int was) {
            return (2 * was) & HIGHEST_TRAIT;
        }
    }

    /** The BORROWERS (none: there is no TOWN), and what each makes of each STATE. */
    private static final class Town {
        private final Adder[] borrowers = new Adder[MOST_BORROWERS];
        // Searches ask for these very often, so they are told once, when the TOWN is read.
        private final int[] afters = new int[MOST_BORROWERS * STATES];
        // What becomes of each STATE by a ROUND sent once, and by as many as were sent till now.
        private final int[] once = new int[STATES];
        private final int[] now = new int[STATES];
        private int size;

        void read(Page page) {
            size = Math.min(page.borrowers(), borrowers.length);
            for (int number = 0; number < size && number < borrowers.length; number++) {
                Adder one = page.borrowerFrom(number);
                borrowers[number] = one;
                for (int state = 0; state < STATES; state++) {
                    put(afters, number * STATES + state, one.stateAfter(state));
                }
            }
        }

        Adder borrowerAt(int number) {
            return number >= 0 && number < size && number < borrowers.length ? borrowers[number] : null;
        }

        int daysOf(int number) {
            Adder one = borrowerAt(number);
            return one == null ? 1 : one.days;
        }

        int after(int number, int state) {
            int place = number * STATES + state;
            return place >= 0 && place < afters.length ? afters[place] : 0;
        }

        int endOf(Page round, int state) {
            int end = state;
            for (int place = 0; place < round.length; place++) {
                end = after(round.digitAt(place), end);
            }
            return end;
        }

        int timesUntilBack(Page round) {
            for (int state = 0; state < STATES; state++) {
                put(once, state, endOf(round, state));
                put(now, state, state);
            }
            for (int times = 1; times <= MOST_TIMES_ROUND; times++) {
                if (areAllBackAfterOneMore()) {
                    return times;
                }
            }
            return NONE;
        }

        private boolean areAllBackAfterOneMore() {
            boolean areBack = true;
            for (int state = 0; state < STATES; state++) {
                int end = at(once, at(now, state));
                put(now, state, end);
                areBack = areBack && end == state;
            }
            return areBack;
        }
    }

    /** The THINGS and the DAYS that went by: all that an IMAGE keeps. */
    private static final class Things {
        private final int[] states = new int[MOST_THINGS];
        private final int[] holders = new int[MOST_THINGS];
        private final int[] daysLeft = new int[MOST_THINGS];
        private final int[] returns = new int[MOST_THINGS];
        private int size;
        private int days;
        // As it would be behind the YEARS that were asked for last; no IMAGE keeps these.
        private final int[] statesThen = new int[MOST_THINGS];
        private int seedThen;

        void empty() {
            size = 0;
            days = 0;
        }

        void copyFrom(Things other) {
            size = other.size;
            days = other.days;
            for (int thing = 0; thing < MOST_THINGS; thing++) {
                put(states, thing, at(other.states, thing));
                put(holders, thing, at(other.holders, thing));
                put(daysLeft, thing, at(other.daysLeft, thing));
                put(returns, thing, at(other.returns, thing));
            }
        }

        boolean has(int thing) {
            return thing >= 0 && thing < size;
        }

        int stateOf(int thing) {
            return at(states, thing);
        }

        int holderOf(int thing) {
            return at(holders, thing);
        }

        int returnsOf(int thing) {
            return at(returns, thing);
        }

        boolean isLent(int thing) {
            return at(holders, thing) != NONE;
        }

        int stateAtHome(int thing, Town people) {
            int state = at(states, thing);
            return isLent(thing) ? people.after(at(holders, thing), state) : state;
        }

        int add(int state) {
            int thing = size;
            put(states, thing, state);
            put(holders, thing, NONE);
            put(daysLeft, thing, 0);
            put(returns, thing, 0);
            size++;
            return thing;
        }

        void give(int thing, int borrower, int howManyDays) {
            put(holders, thing, borrower);
            put(daysLeft, thing, howManyDays);
        }

        int numberHeldBy(int borrower) {
            for (int thing = 0; thing < size; thing++) {
                if (at(holders, thing) == borrower) {
                    return thing;
                }
            }
            return NONE;
        }

        int daysLeftAt(int borrower) {
            int thing = numberHeldBy(borrower);
            return thing == NONE ? 0 : at(daysLeft, thing);
        }

        int passDay(Town people) {
            days++;
            int back = 0;
            for (int thing = 0; thing < size; thing++) {
                if (isLent(thing)) {
                    put(daysLeft, thing, at(daysLeft, thing) - 1);
                    if (at(daysLeft, thing) == 0) {
                        takeBack(thing, people);
                        back++;
                    }
                }
            }
            return back;
        }

        int howManyLent() {
            int lent = 0;
            for (int thing = 0; thing < size; thing++) {
                if (isLent(thing)) {
                    lent++;
                }
            }
            return lent;
        }

        int traitsTogether() {
            return traitsOf(states);
        }

        void dreamYears(Town people, int times, int seed) {
            seedThen = seed;
            for (int thing = 0; thing < size; thing++) {
                put(statesThen, thing, stateAtHome(thing, people));
            }
            for (int time = 0; time < times; time++) {
                int thing = drawOf(size);
                int borrower = drawOf(people.size);
                put(statesThen, thing, people.after(borrower, at(statesThen, thing)));
            }
        }

        int stateOfFirstThen() {
            return at(statesThen, 0);
        }

        int traitsTogetherThen() {
            return traitsOf(statesThen);
        }

        private void takeBack(int thing, Town people) {
            put(states, thing, stateAtHome(thing, people));
            put(holders, thing, NONE);
            put(returns, thing, at(returns, thing) + 1);
        }

        private int traitsOf(int[] row) {
            int sum = 0;
            for (int thing = 0; thing < size; thing++) {
                sum += traitSum(at(row, thing));
            }
            return sum;
        }

        private int drawOf(int howMany) {
            seedThen = (int) ((1103515245L * seedThen + 12345L) & 0x7fffffffL);
            return howMany > 0 ? (seedThen / 65536) % howMany : 0;
        }
    }

    /** The fewest loans, or DAYS of loans, from one STATE to each, and who is first in such rows. */
    private static final class Ways {
        private static final int HIGHEST_COST = MOST_DAYS * STATES;
        // A loan costs at most MOST_DAYS, so the latest so many costs and the one at hand are looked at.
        private static final int LAYERS = MOST_DAYS + 1;

        private final Town people;
        private final boolean isByDays;
        private final int[] costs = new int[STATES];
        private final int[] firsts = new int[STATES];
        // The STATES in the order of their costs; those of one cost stand from begins to ends.
        private final int[] order = new int[STATES];
        private final int[] begins = new int[LAYERS];
        private final int[] ends = new int[LAYERS];
        private int start = NONE;
        private int found;

        Ways(Town people, boolean isByDays) {
            this.people = people;
            this.isByDays = isByDays;
        }

        void forget() {
            start = NONE;
        }

        int costOf(int state) {
            return at(costs, state);
        }

        int firstTo(int state) {
            return at(firsts, state);
        }

        /** What was found from the same STATE last stays, as long as the TOWN does. */
        void searchFrom(int state) {
            if (state == start) {
                return;
            }
            begin(state);
            int latest = 0;
            for (int cost = 1; cost <= HIGHEST_COST && cost <= latest + MOST_DAYS; cost++) {
                int before = found;
                addAllOf(cost);
                put(begins, cost % LAYERS, before);
                put(ends, cost % LAYERS, found);
                if (found > before) {
                    latest = cost;
                }
            }
        }

        private void begin(int state) {
            start = state;
            fill(costs, NONE);
            fill(firsts, NONE);
            fill(begins, 0);
            fill(ends, 0);
            put(costs, state, 0);
            put(order, 0, state);
            put(ends, 0, 1);
            found = 1;
        }

        private void addAllOf(int cost) {
            for (int borrower = 0; borrower < people.size; borrower++) {
                int loan = isByDays ? people.daysOf(borrower) : 1;
                if (loan <= cost) {
                    int layer = (cost - loan) % LAYERS;
                    int end = at(ends, layer);
                    for (int place = at(begins, layer); place < end; place++) {
                        addLoan(at(order, place), borrower, cost);
                    }
                }
            }
        }

        private void addLoan(int from, int borrower, int cost) {
            int to = people.after(borrower, from);
            int first = from == start ? borrower : at(firsts, from);
            int known = at(costs, to);
            if (known == NONE) {
                put(costs, to, cost);
                put(firsts, to, first);
                put(order, found, to);
                found++;
            } else if (known == cost && first < at(firsts, to)) {
                put(firsts, to, first);
            }
        }
    }

    /** To whom nothing is to be lent, so that a TRAIT never comes below so much. */
    private static final class Spoiling {
        private final Town people;
        private final int[] queue = new int[STATES];
        // In which search a STATE was seen last: so the row need not be emptied for each.
        private final int[] seen = new int[STATES];
        private int search;

        Spoiling(Town people) {
            this.people = people;
        }

        int fewest(int state, int trait, int least) {
            if (traitOf(state, trait) < least) {
                return NONE;
            }
            int sets = 1 << people.size;
            for (int many = 0; many <= people.size; many++) {
                for (int set = 0; set < sets; set++) {
                    if (Integer.bitCount(set) == many && isSafeWithout(set, state, trait, least)) {
                        return set;
                    }
                }
            }
            return NONE;
        }

        private boolean isSafeWithout(int set, int state, int trait, int least) {
            search++;
            put(seen, state, search);
            put(queue, 0, state);
            int found = 1;
            for (int place = 0; place < found && place < STATES; place++) {
                int from = at(queue, place);
                for (int borrower = 0; borrower < people.size; borrower++) {
                    boolean isSpared = ((set >> borrower) & 1) == 1;
                    int to = people.after(borrower, from);
                    if (!isSpared && at(seen, to) != search) {
                        if (traitOf(to, trait) < least) {
                            return false;
                        }
                        put(seen, to, search);
                        put(queue, found, to);
                        found++;
                    }
                }
            }
            return true;
        }
    }

    /** The rows of BORROWERS that lead from a STATE to each by just so many loans. */
    private static final class Rows {
        private final Town people;
        private int[] many = new int[STATES];
        private int[] inEach = new int[STATES];
        private int[] manyNext = new int[STATES];
        private int[] inEachNext = new int[STATES];

        Rows(Town people) {
            this.people = people;
        }

        int howManyTo(int state) {
            return at(many, state);
        }

        int inEachTo(int state) {
            return at(many, state) == 0 ? 0 : at(inEach, state);
        }

        void follow(int from, int loans) {
            fill(many, 0);
            put(many, from, 1);
            put(inEach, from, 0);
            for (int loan = 0; loan < loans; loan++) {
                fill(manyNext, 0);
                for (int state = 0; state < STATES; state++) {
                    if (at(many, state) > 0) {
                        lendToEach(state);
                    }
                }
                stepOn();
            }
        }

        private void lendToEach(int state) {
            int rows = at(many, state);
            for (int borrower = 0; borrower < people.size; borrower++) {
                int to = people.after(borrower, state);
                int hands = at(inEach, state) | (1 << borrower);
                int before = at(manyNext, to);
                put(inEachNext, to, before == 0 ? hands : at(inEachNext, to) & hands);
                put(manyNext, to, before + rows);
            }
        }

        private void stepOn() {
            int[] spare = many;
            many = manyNext;
            manyNext = spare;
            spare = inEach;
            inEach = inEachNext;
            inEachNext = spare;
        }
    }
}
