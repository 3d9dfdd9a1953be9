/** A village whose things are lent and given back a little better, told as a text. */
public final class SpoonfulMore {
    public static final int UNKNOWN = -1, OUTSIDE = -2, STATE = -3, FULL = -4, NONE = -9;

    private static final int TEXT_MOST = 90, WRITE_MOST = 8;
    private static final int PEOPLE_MOST = 5, THINGS_MOST = 6, NEEDS_MOST = 8;
    private static final int LAW_MOST = 3, CAP_MOST = 9, SORTS = 3, DAYS = 4, BETTERMENTS_MOST = 9;
    private static final int ACTS_MOST = 16, SLOTS = 2;
    private static final int SEEN_MOST = 6, PLACES = 8;
    private static final int COINS_ASKED_MOST = 9999, BORROW_DAYS_MOST = 8, TENTHS = 10, YEAR_MOST = 40;
    private static final long SEED_FACTOR = 6364136223846793005L, SEED_STEP = 1442695040888963407L;

    private final int[] text = new int[TEXT_MOST];
    private int length = 0;
    private final Reader reader = new Reader();
    // A text is read into the draft, which takes the village's place if it has no fault.
    private Village here = new Village();
    private Village draft = new Village();
    private final ActRow acts = new ActRow();
    private final Kept[] slots = new Kept[] {new Kept(), new Kept()};
    private final Planner planner = new Planner();
    private final int[] capCosts = new int[CAP_MOST + 1];
    private final Sightings seen = new Sightings();
    private final Chances chances = new Chances();
    private final int[] yearGrades = new int[THINGS_MOST];
    private long seedNow = 0L;

    public SpoonfulMore() {
    }

    // ---- the village

    public int write(int n, long v) {
        if (n < 1 || n > WRITE_MOST) {
            return OUTSIDE;
        }
        if (length + n > TEXT_MOST) {
            return FULL;
        }
        for (int left = n - 1; left >= 0; left--) {
            text[length] = (int) (v >>> (8 * left)) & 255;
            length++;
        }
        return length;
    }

    public int wipe() {
        int was = length;
        length = 0;
        return was;
    }

    public int fault() {
        return reader.readInto(draft, text, length);
    }

    public int village() {
        if (reader.readInto(draft, text, length) != NONE) {
            return STATE;
        }
        Village before = here;
        here = draft;
        draft = before;
        acts.clear();
        for (int slot = 0; slot < slots.length; slot++) {
            slots[slot].drop();
        }
        return 10 * here.people + here.things;
    }

    public int person(int person, int what) {
        if (!here.hasPerson(person)) {
            return UNKNOWN;
        }
        switch (what) {
            case 0: return here.coins[person];
            case 1: return here.knows[person];
            case 2: return bitsOf(here.owner, here.things, person);
            case 3: return bitsOf(here.holder, here.things, person);
            default: return OUTSIDE;
        }
    }

    public int thing(int thing, int what) {
        if (!here.hasThing(thing)) {
            return UNKNOWN;
        }
        switch (what) {
            case 0: return here.owner[thing];
            case 1: return here.sort[thing];
            case 2: return here.grade[thing];
            case 3: return here.holder[thing];
            case 4: return here.worth(thing);
            case 5: return here.due(thing);
            case 6: return here.daysOut[thing];
            default: return OUTSIDE;
        }
    }

    public int law(int law, int cap) {
        if (law < 0 || law > LAW_MOST || cap < 1 || cap > CAP_MOST) {
            return OUTSIDE;
        }
        if (here.greatestGrade() > cap) {
            return STATE;
        }
        int was = here.lawAndCap();
        here.lawNow = law;
        here.capNow = cap;
        return was;
    }

    // ---- acts

    public int lend(int thing, int person) {
        if (!here.hasThing(thing) || !here.hasPerson(person)) {
            return UNKNOWN;
        }
        int owner = here.owner[thing];
        if (owner == person) {
            return OUTSIDE;
        }
        if (here.isOut(thing) || !here.know(owner, person)) {
            return STATE;
        }
        acts.next(Act.LENT).thing = thing;
        here.holder[thing] = person;
        return Integer.bitCount(bitsOf(here.holder, here.things, person));
    }

    public int back(int thing, int k) {
        if (!here.hasThing(thing)) {
            return UNKNOWN;
        }
        if (k < 0 || k > BETTERMENTS_MOST) {
            return OUTSIDE;
        }
        if (!here.isOut(thing) || k < here.due(thing) || here.grade[thing] + k > here.capNow) {
            return STATE;
        }
        int holder = here.holder[thing];
        int cost = costOf(here.sort[thing], here.grade[thing], k);
        if (cost > here.coins[holder]) {
            return STATE;
        }
        Act act = acts.next(Act.BACK);
        act.thing = thing;
        act.holder = holder;
        act.daysOut = here.daysOut[thing];
        act.betterments = k;
        act.paid = cost;
        here.coins[holder] -= cost;
        here.grade[thing] += k;
        here.bringHome(thing);
        return cost;
    }

    public int day() {
        acts.next(Act.DAY);
        here.passDays(1);
        return here.dayNow;
    }

    public int undo() {
        if (acts.size == 0) {
            return STATE;
        }
        acts.undoLast(here);
        return acts.size;
    }

    // ---- needs

    public int least(int sort) {
        if (sort < 0 || sort >= SORTS) {
            return OUTSIDE;
        }
        planner.gather(here, sort);
        return planner.leastCost(here.capNow);
    }

    public int leastAt(int sort, int i) {
        if (sort < 0 || sort >= SORTS) {
            return OUTSIDE;
        }
        planner.gather(here, sort);
        return planner.firstPlanAt(here.capNow, i);
    }

    public int cap(int m) {
        if (m < 0 || m > COINS_ASKED_MOST) {
            return OUTSIDE;
        }
        int lowest = Math.max(1, here.greatestGrade());
        for (int cap = 0; cap <= CAP_MOST; cap++) {
            capCosts[cap] = 0;
        }
        for (int sort = 0; sort < SORTS; sort++) {
            planner.gather(here, sort);
            for (int cap = lowest; cap <= CAP_MOST; cap++) {
                int cost = planner.leastCost(cap);
                if (cost == NONE) {
                    return NONE;
                }
                capCosts[cap] += cost;
            }
        }
        for (int cap = CAP_MOST; cap >= lowest; cap--) {
            if (capCosts[cap] <= m) {
                return cap;
            }
        }
        return NONE;
    }

    // ---- hands

    public int see(int t, int person, boolean had) {
        if (!here.hasPerson(person)) {
            return UNKNOWN;
        }
        if (t < 1 || t > PLACES) {
            return OUTSIDE;
        }
        if (seen.size >= SEEN_MOST) {
            return FULL;
        }
        seen.add(t, person, had);
        return seen.size;
    }

    public int unsee() {
        int was = seen.size;
        seen.size = 0;
        return was;
    }

    public int hands(int thing, int n) {
        if (!here.hasThing(thing)) {
            return UNKNOWN;
        }
        if (n < 1 || n > PLACES) {
            return OUTSIDE;
        }
        return seen.rowsWithout(0, here, thing, n);
    }

    public int surely(int thing, int n) {
        if (!here.hasThing(thing)) {
            return UNKNOWN;
        }
        if (n < 1 || n > PLACES) {
            return OUTSIDE;
        }
        if (seen.rowsWithout(0, here, thing, n) == 0) {
            return NONE;
        }
        int sure = 0;
        for (int person = 0; person < here.people; person++) {
            if (seen.rowsWithout(1 << person, here, thing, n) == 0) {
                sure |= 1 << person;
            }
        }
        return sure;
    }

    // ---- chances, years

    public long borrow(int sort, int grade, int n, int x, boolean upper) {
        if (sort < 0 || sort >= SORTS || grade < 0 || grade > here.capNow) {
            return OUTSIDE;
        }
        if (n < 1 || n > BORROW_DAYS_MOST || x < 0 || x > TENTHS) {
            return OUTSIDE;
        }
        chances.spread(n, x);
        long above = chances.costInAll(sort, grade, here.capNow);
        long below = chances.waysInAll(n);
        long divisor = Math.max(1L, greatestDivisor(above, below));
        return (upper ? above : below) / divisor;
    }

    public long seed(long v) {
        long was = seedNow;
        seedNow = v;
        return was;
    }

    public int year(int m) {
        if (m < 1 || m > YEAR_MOST) {
            return OUTSIDE;
        }
        int things = here.things;
        if (things <= 0) {
            return 0;
        }
        System.arraycopy(here.grade, 0, yearGrades, 0, THINGS_MOST);
        for (int i = 0; i < m; i++) {
            seedNow = seedNow * SEED_FACTOR + SEED_STEP;
            int thing = (int) ((seedNow >>> 33) % things);
            if (yearGrades[thing] < here.capNow) {
                yearGrades[thing]++;
            }
        }
        return here.worthOfAll(yearGrades);
    }

    // ---- slots

    public int keep(int slot) {
        if (slot < 0 || slot >= SLOTS) {
            return UNKNOWN;
        }
        slots[slot].take(here);
        return here.dayNow;
    }

    public int again(int slot) {
        if (slot < 0 || slot >= SLOTS) {
            return UNKNOWN;
        }
        if (!slots[slot].fits(here)) {
            return STATE;
        }
        slots[slot].giveTo(here);
        acts.clear();
        return here.dayNow;
    }

    public int count(int what) {
        switch (what) {
            case 0: return length;
            case 1: return here.people;
            case 2: return here.things;
            case 3: return here.needs;
            case 4: return here.dayNow;
            case 5: return acts.size;
            case 6: return seen.size;
            case 7: return here.coinsOfAll();
            case 8: return here.worthOfAll(here.grade);
            case 9: return here.thingsOut();
            case 10: return here.lawAndCap();
            default: return OUTSIDE;
        }
    }

    // ---- what several parts use

    private static int bitsOf(int[] row, int size, int value) {
        int bits = 0;
        for (int i = 0; i < size && i < row.length; i++) {
            if (row[i] == value) {
                bits |= 1 << i;
            }
        }
        return bits;
    }

    private static int costOf(int sort, int grade, int betterments) {
        int cost = 0;
        for (int i = 0; i < betterments; i++) {
            cost += (sort + 1) * (grade + i + 1);
        }
        return cost;
    }

    private static long greatestDivisor(long a, long b) {
        long greater = a;
        long smaller = b;
        // Two steps at least halve the greater one, so 128 are more than 64 bits can need.
        for (int step = 0; step < 128 && smaller != 0; step++) {
            long left = greater % smaller;
            greater = smaller;
            smaller = left;
        }
        return greater;
    }

    /** The people, things and needs, and how they stand now. */
    private static final class Village {
        int lawNow;
        int capNow;
        int dayNow;
        int people;
        int things;
        int needs;
        final int[] coins = new int[PEOPLE_MOST];
        final int[] knows = new int[PEOPLE_MOST];
        final int[] owner = new int[THINGS_MOST];
        final int[] sort = new int[THINGS_MOST];
        final int[] grade = new int[THINGS_MOST];
        final int[] holder = new int[THINGS_MOST];
        final int[] daysOut = new int[THINGS_MOST];
        final int[] needPerson = new int[NEEDS_MOST];
        final int[] needSort = new int[NEEDS_MOST];
        final int[] needDay = new int[NEEDS_MOST];

        Village() {
            lawNow = 0;
            capNow = 1;
        }

        void empty() {
            dayNow = 0;
            people = 0;
            things = 0;
            needs = 0;
        }

        void addPerson(int withCoins) {
            if (people < PEOPLE_MOST) {
                coins[people] = withCoins;
                knows[people] = 0;
                people++;
            }
        }

        void addThing(int ofOwner, int ofSort, int ofGrade) {
            if (things < THINGS_MOST) {
                owner[things] = ofOwner;
                sort[things] = ofSort;
                grade[things] = ofGrade;
                bringHome(things);
                things++;
            }
        }

        void addNeed(int ofPerson, int ofSort, int onDay) {
            if (needs < NEEDS_MOST) {
                needPerson[needs] = ofPerson;
                needSort[needs] = ofSort;
                needDay[needs] = onDay;
                needs++;
            }
        }

        boolean hasPerson(int person) {
            return person >= 0 && person < people;
        }

        boolean hasThing(int thing) {
            return thing >= 0 && thing < things;
        }

        boolean know(int person, int other) {
            return (knows[person] >> other & 1) != 0;
        }

        int everybody() {
            return (1 << people) - 1;
        }

        boolean isOut(int thing) {
            return holder[thing] != owner[thing];
        }

        void bringHome(int thing) {
            holder[thing] = owner[thing];
            daysOut[thing] = 0;
        }

        void passDays(int days) {
            dayNow += days;
            for (int thing = 0; thing < things; thing++) {
                if (isOut(thing)) {
                    daysOut[thing] += days;
                }
            }
        }

        int due(int thing) {
            if (!isOut(thing)) {
                return 0;
            }
            return Math.min(lawNow + daysOut[thing] / 2, capNow - grade[thing]);
        }

        int worth(int thing) {
            return costOf(sort[thing], 0, grade[thing]);
        }

        int worthOfAll(int[] grades) {
            int sum = 0;
            for (int thing = 0; thing < things && thing < grades.length; thing++) {
                sum += costOf(sort[thing], 0, grades[thing]);
            }
            return sum;
        }

        int coinsOfAll() {
            int sum = 0;
            for (int person = 0; person < people; person++) {
                sum += coins[person];
            }
            return sum;
        }

        int thingsOut() {
            int sum = 0;
            for (int thing = 0; thing < things; thing++) {
                if (isOut(thing)) {
                    sum++;
                }
            }
            return sum;
        }

        int greatestGrade() {
            int greatest = 0;
            for (int thing = 0; thing < things; thing++) {
                greatest = Math.max(greatest, grade[thing]);
            }
            return greatest;
        }

        int lawAndCap() {
            return 10 * lawNow + capNow;
        }
    }

    /** Reads a text byte by byte and stops at the first byte behind which no village could come. */
    private static final class Reader {
        private Village village;
        private int[] text;
        private int length;
        private int at;
        private boolean stopped;

        /** NONE, or the place of the fault; the village is whole only with NONE. */
        int readInto(Village into, int[] from, int fromLength) {
            village = into;
            text = from;
            length = Math.min(fromLength, from.length);
            at = 0;
            stopped = false;
            village.empty();
            readHead();
            // Each part has a byte at least, so there are no more parts than bytes.
            for (int part = 0; part < length && !stopped && at < length; part++) {
                readPart();
            }
            return stopped ? at : NONE;
        }

        private void readHead() {
            if (at >= length || text[at] != 'V') {
                stopped = true;
                return;
            }
            at++;
            village.lawNow = figureOf((1 << LAW_MOST + 1) - 1);
            village.capNow = figureOf((1 << CAP_MOST + 1) - 2);
        }

        private void readPart() {
            int letter = text[at];
            if (!mayBegin(letter)) {
                stopped = true;
                return;
            }
            at++;
            switch (letter) {
                case 'P': readPerson(); break;
                case 'K': readKnowing(); break;
                case 'T': readThing(); break;
                default: readNeed(); break;
            }
        }

        private boolean mayBegin(int letter) {
            switch (letter) {
                case 'P': return village.people < PEOPLE_MOST;
                case 'K': return whoCanKnowMore() != 0;
                case 'T': return village.people > 0 && village.things < THINGS_MOST;
                case 'N': return village.people > 0 && village.needs < NEEDS_MOST;
                default: return false;
            }
        }

        private void readPerson() {
            int tens = figureOf(1023);
            int ones = figureOf(1023);
            if (!stopped) {
                village.addPerson(10 * tens + ones);
            }
        }

        private void readKnowing() {
            int one = figureOf(whoCanKnowMore());
            int other = stopped ? 0 : figureOf(strangersOf(one));
            if (!stopped) {
                village.knows[one] |= 1 << other;
                village.knows[other] |= 1 << one;
            }
        }

        private void readThing() {
            int owner = figureOf(village.everybody());
            int sort = figureOf((1 << SORTS) - 1);
            int grade = figureOf((1 << village.capNow + 1) - 1);
            if (!stopped) {
                village.addThing(owner, sort, grade);
            }
        }

        private void readNeed() {
            int person = figureOf(village.everybody());
            int sort = figureOf(sortsWithFreeDays(person));
            int day = figureOf(freeDays(person, sort));
            if (!stopped) {
                village.addNeed(person, sort, day);
            }
        }

        /** The next byte as a figure, if it is one of those allowed (as bits); otherwise reading stops at it. */
        private int figureOf(int allowed) {
            if (stopped || at >= length) {
                stopped = true;
                return 0;
            }
            int figure = text[at] - '0';
            if (figure < 0 || figure > 9 || (allowed >> figure & 1) == 0) {
                stopped = true;
                return 0;
            }
            at++;
            return figure;
        }

        private int strangersOf(int person) {
            return village.everybody() & ~village.knows[person] & ~(1 << person);
        }

        private int whoCanKnowMore() {
            int who = 0;
            for (int person = 0; person < village.people; person++) {
                if (strangersOf(person) != 0) {
                    who |= 1 << person;
                }
            }
            return who;
        }

        private int freeDays(int person, int sort) {
            int free = (1 << DAYS) - 1;
            for (int need = 0; need < village.needs; need++) {
                if (village.needPerson[need] == person && village.needSort[need] == sort) {
                    free &= ~(1 << village.needDay[need]);
                }
            }
            return free;
        }

        private int sortsWithFreeDays(int person) {
            int sorts = 0;
            for (int sort = 0; sort < SORTS; sort++) {
                if (freeDays(person, sort) != 0) {
                    sorts |= 1 << sort;
                }
            }
            return sorts;
        }
    }

    /** What one act changed, as far as it must be known to undo it. */
    private static final class Act {
        static final int LENT = 0, BACK = 1, DAY = 2;
        int kind;
        int thing;
        int holder;
        int daysOut;
        int betterments;
        int paid;

        void undoIn(Village village) {
            if (kind == DAY) {
                village.passDays(-1);
            } else if (kind == LENT) {
                village.bringHome(thing);
            } else {
                village.coins[holder] += paid;
                village.grade[thing] -= betterments;
                village.holder[thing] = holder;
                village.daysOut[thing] = daysOut;
            }
        }
    }

    /** The last acts; the same Act objects are used again and again. */
    private static final class ActRow {
        private final Act[] row = new Act[ACTS_MOST];
        int size;

        ActRow() {
            for (int i = 0; i < row.length; i++) {
                row[i] = new Act();
            }
        }

        void clear() {
            size = 0;
        }

        Act next(int kind) {
            if (size >= row.length) {
                forgetFirst();
            }
            Act act = row[size];
            size++;
            act.kind = kind;
            return act;
        }

        void undoLast(Village village) {
            if (size > 0) {
                size--;
                row[size].undoIn(village);
            }
        }

        private void forgetFirst() {
            Act first = row[0];
            for (int i = 1; i < row.length; i++) {
                row[i - 1] = row[i];
            }
            row[row.length - 1] = first;
            size = row.length - 1;
        }
    }

    /** A slot. */
    private static final class Kept {
        private boolean filled;
        private int dayKept;
        private final int[] coins = new int[PEOPLE_MOST];
        private final int[] grade = new int[THINGS_MOST];
        private final int[] holder = new int[THINGS_MOST];
        private final int[] daysOut = new int[THINGS_MOST];

        void drop() {
            filled = false;
        }

        void take(Village village) {
            filled = true;
            dayKept = village.dayNow;
            System.arraycopy(village.coins, 0, coins, 0, PEOPLE_MOST);
            System.arraycopy(village.grade, 0, grade, 0, THINGS_MOST);
            System.arraycopy(village.holder, 0, holder, 0, THINGS_MOST);
            System.arraycopy(village.daysOut, 0, daysOut, 0, THINGS_MOST);
        }

        boolean fits(Village village) {
            if (!filled) {
                return false;
            }
            for (int thing = 0; thing < village.things; thing++) {
                if (grade[thing] > village.capNow) {
                    return false;
                }
            }
            return true;
        }

        void giveTo(Village village) {
            village.dayNow = dayKept;
            System.arraycopy(coins, 0, village.coins, 0, PEOPLE_MOST);
            System.arraycopy(grade, 0, village.grade, 0, THINGS_MOST);
            System.arraycopy(holder, 0, village.holder, 0, THINGS_MOST);
            System.arraycopy(daysOut, 0, village.daysOut, 0, THINGS_MOST);
        }
    }

    /**
     * Meets the needs of one sort at least cost. What a thing costs in all depends only on how often it is lent, and
     * which things can be lent on a day does not depend on other days: so a day is a choice among sets of things lent,
     * and what the days behind it cost depends only on how often each thing was lent before.
     */
    private static final class Planner {
        private static final int SETS = 1 << THINGS_MOST;
        // How often each thing was lent before a day: two bits a thing, 0 to 3 being all that is possible.
        private static final int TALLIES = 1 << 2 * THINGS_MOST;
        // On days 0 and 1 a tally is met only once, so only those of the later days are remembered.
        private static final int FIRST_REMEMBERED = 2;
        private static final int NOT_YET = -1;
        private static final int BEYOND_ALL_COSTS = 1 << 29;

        private Village village;
        private int sort;
        private int choices;
        private final int[] choice = new int[THINGS_MOST];
        private int needs;
        private final int[] needPerson = new int[NEEDS_MOST];
        private final int[] dayStart = new int[DAYS + 1];
        private boolean possible;
        private long setsFound;
        private final int[] lentSets = new int[DAYS * SETS];
        private final int[] lentSetCount = new int[DAYS];
        private final int[] tallyOf = new int[SETS];
        private final int[] prices = new int[THINGS_MOST * DAYS];
        private final int[] remembered = new int[(DAYS - FIRST_REMEMBERED) * TALLIES];
        private final int[] plan = new int[NEEDS_MOST];
        private int planLent;
        private int planCost;

        Planner() {
            for (int set = 1; set < SETS; set++) {
                tallyOf[set] = tallyOf[set >> 1] << 2 | set & 1;
            }
        }

        void gather(Village from, int ofSort) {
            village = from;
            sort = ofSort;
            gatherThings();
            gatherNeeds();
            possible = true;
            for (int day = 0; day < DAYS; day++) {
                setsFound = 0L;
                findSets(dayStart[day], dayStart[day + 1], 0, 0);
                listSets(day);
                possible = possible && setsFound != 0L;
            }
        }

        int leastCost(int cap) {
            if (!possible) {
                return NONE;
            }
            if (needs == 0) {
                return 0;
            }
            priceAt(cap);
            return costFrom(0, 0);
        }

        int firstPlanAt(int cap, int need) {
            if (!possible || need < 0 || need >= needs) {
                return NONE;
            }
            priceAt(cap);
            int tally = 0;
            // The days behind that of the need asked for do not change its thing.
            for (int day = 0; day < DAYS && dayStart[day] <= need; day++) {
                planCost = costFrom(day, tally);
                planDay(day, dayStart[day], 0, 0, tally);
                tally += tallyOf[planLent];
            }
            return plan[need];
        }

        private void gatherThings() {
            choices = 0;
            for (int thing = 0; thing < village.things && choices < THINGS_MOST; thing++) {
                if (village.sort[thing] == sort) {
                    choice[choices] = thing;
                    choices++;
                }
            }
        }

        private void gatherNeeds() {
            needs = 0;
            for (int day = 0; day < DAYS; day++) {
                dayStart[day] = needs;
                for (int need = 0; need < village.needs && needs < NEEDS_MOST; need++) {
                    if (village.needSort[need] == sort && village.needDay[need] == day) {
                        needPerson[needs] = village.needPerson[need];
                        needs++;
                    }
                }
            }
            dayStart[DAYS] = needs;
        }

        /** The thing as a bit if it would be lent, 0 if it is the person's own, NONE if it can't be had. */
        private int lentFor(int need, int c) {
            int person = needPerson[need];
            int owner = village.owner[choice[c]];
            if (owner == person) {
                return 0;
            }
            return village.know(person, owner) ? 1 << c : NONE;
        }

        private void findSets(int need, int end, int used, int lent) {
            if (need >= end || need >= NEEDS_MOST) {
                setsFound |= 1L << lent;
                return;
            }
            for (int c = 0; c < choices; c++) {
                int lentNow = (used >> c & 1) != 0 ? NONE : lentFor(need, c);
                if (lentNow != NONE) {
                    findSets(need + 1, end, used | 1 << c, lent | lentNow);
                }
            }
        }

        /** Lending fewer things is never dearer, then or later: a set that has another in it is left out. */
        private void listSets(int day) {
            lentSetCount[day] = 0;
            for (int set = 0; set < SETS; set++) {
                if ((setsFound >>> set & 1L) != 0L && !hasListedSetIn(set, day)) {
                    lentSets[day * SETS + lentSetCount[day]] = set;
                    lentSetCount[day]++;
                }
            }
        }

        private boolean hasListedSetIn(int set, int day) {
            for (int i = 0; i < lentSetCount[day]; i++) {
                if ((lentSets[day * SETS + i] & ~set) == 0) {
                    return true;
                }
            }
            return false;
        }

        private void priceAt(int cap) {
            for (int c = 0; c < choices; c++) {
                for (int before = 0; before < DAYS; before++) {
                    int grade = village.grade[choice[c]] + before;
                    prices[c * DAYS + before] = grade < cap ? costOf(sort, grade, 1) : 0;
                }
            }
            int tallies = 1 << 2 * choices;
            for (int day = 0; day < DAYS - FIRST_REMEMBERED; day++) {
                for (int tally = 0; tally < tallies; tally++) {
                    remembered[day * TALLIES + tally] = NOT_YET;
                }
            }
        }

        private int costOfSet(int set, int tally) {
            int cost = 0;
            for (int c = 0; c < choices; c++) {
                if ((set >> c & 1) != 0) {
                    cost += prices[c * DAYS + (tally >> 2 * c & 3)];
                }
            }
            return cost;
        }

        /** The least cost of this day and those behind it. */
        private int costFrom(int day, int tally) {
            if (day >= DAYS) {
                return 0;
            }
            int place = day < FIRST_REMEMBERED ? NONE : (day - FIRST_REMEMBERED) * TALLIES + tally;
            if (place >= 0 && remembered[place] != NOT_YET) {
                return remembered[place];
            }
            int best = BEYOND_ALL_COSTS;
            for (int i = 0; i < lentSetCount[day]; i++) {
                int set = lentSets[day * SETS + i];
                best = Math.min(best, costOfSet(set, tally) + costFrom(day + 1, tally + tallyOf[set]));
            }
            if (place >= 0) {
                remembered[place] = best;
            }
            return best;
        }

        /** Tries the things of a day's needs from the lowest on, until the cost is the least. */
        private boolean planDay(int day, int need, int used, int lent, int tally) {
            if (need >= dayStart[day + 1] || need >= NEEDS_MOST) {
                planLent = lent;
                return costOfSet(lent, tally) + costFrom(day + 1, tally + tallyOf[lent]) == planCost;
            }
            for (int c = 0; c < choices; c++) {
                int lentNow = (used >> c & 1) != 0 ? NONE : lentFor(need, c);
                if (lentNow != NONE) {
                    plan[need] = choice[c];
                    if (planDay(day, need + 1, used | 1 << c, lent | lentNow, tally)) {
                        return true;
                    }
                }
            }
            return false;
        }
    }

    /** Who was seen with a thing, or without it, and what rows of hands fit that. */
    private static final class Sightings {
        int size;
        private final int[] place = new int[SEEN_MOST];
        private final int[] who = new int[SEEN_MOST];
        private final boolean[] had = new boolean[SEEN_MOST];
        private int[] rowsTo = new int[PEOPLE_MOST];
        private int[] rowsNext = new int[PEOPLE_MOST];

        void add(int atPlace, int person, boolean hadIt) {
            if (size < SEEN_MOST) {
                place[size] = atPlace;
                who[size] = person;
                had[size] = hadIt;
                size++;
            }
        }

        /** How many rows of n fit in which none of the barred (bits) is. */
        int rowsWithout(int barred, Village village, int thing, int n) {
            int free = village.everybody() & ~barred;
            int first = village.knows[village.owner[thing]] & free & fitting(1, village);
            for (int person = 0; person < village.people; person++) {
                rowsTo[person] = first >> person & 1;
            }
            for (int at = 2; at <= n; at++) {
                goOn(free & fitting(at, village), village);
            }
            int sum = 0;
            for (int person = 0; person < village.people; person++) {
                sum += rowsTo[person];
            }
            return sum;
        }

        private int fitting(int at, Village village) {
            int fit = village.everybody();
            for (int i = 0; i < size; i++) {
                if (place[i] == at && village.hasPerson(who[i])) {
                    int bit = 1 << who[i];
                    fit &= had[i] ? bit : ~bit;
                }
            }
            return fit;
        }

        private void goOn(int allowed, Village village) {
            for (int person = 0; person < village.people; person++) {
                int sum = 0;
                for (int ahead = 0; ahead < village.people; ahead++) {
                    if (village.know(ahead, person)) {
                        sum += rowsTo[ahead];
                    }
                }
                rowsNext[person] = (allowed >> person & 1) != 0 ? sum : 0;
            }
            int[] before = rowsTo;
            rowsTo = rowsNext;
            rowsNext = before;
        }
    }

    /** In how many of 10 to the n like ways a thing is needed so many times. */
    private static final class Chances {
        private final long[] ways = new long[BORROW_DAYS_MOST + 1];

        void spread(int days, int tenths) {
            for (int times = 0; times <= BORROW_DAYS_MOST; times++) {
                ways[times] = 0L;
            }
            ways[0] = 1L;
            for (int day = 0; day < days; day++) {
                for (int times = BORROW_DAYS_MOST; times > 0; times--) {
                    ways[times] = ways[times] * (TENTHS - tenths) + ways[times - 1] * tenths;
                }
                ways[0] *= TENTHS - tenths;
            }
        }

        long costInAll(int sort, int grade, int cap) {
            long sum = 0L;
            for (int times = 0; times <= BORROW_DAYS_MOST; times++) {
                sum += ways[times] * costOf(sort, grade, Math.min(times, cap - grade));
            }
            return sum;
        }

        long waysInAll(int days) {
            long all = 1L;
            for (int day = 0; day < days; day++) {
                all *= TENTHS;
            }
            return all;
        }
    }
}
