/** The edges of promises 13 to 15: least, leastAt, cap. Each sentence has a test of its own. */
public final class NeedsEdgesTest {
    private static final int NONE = SpoonfulMore.NONE, OUTSIDE = SpoonfulMore.OUTSIDE;
    private static final int[] NO_SORTS = {-1, 3, 4, Integer.MIN_VALUE, Integer.MAX_VALUE};

    public static void main(String[] args) {
        sortOutside();
        sortsWithin();
        noNeeds();
        needWithoutThings();
        daysFromFirstToLast();
        theDayIsNotLookedAt();
        coinsAreNotLookedAt();
        gradesAsTheyAreNow();
        thingsAtTheirOwners();
        noTwoOfOneDayTheSame();
        ownThingsCostNothing();
        anothersCostOneBetterment();
        nothingAtCap();
        backBetterOnTheNextDay();
        whoKnowsTheOwner();
        fiveNeedsOfOneDay();
        firstOfLikePlans();
        needsByDayThenAsTold();
        placesOfNeeds();
        plansAskedAlone();
        coinsAskedOutside();
        coinsAskedWithin();
        capFromTheGreatestGrade();
        capOneAtLeast();
        capToNine();
        capJustEnough();
        capOfAllSortsTogether();
        capThatCanNotBe();
        Check.end();
    }

    private static void least(String village, int sort, int want, int... things) {
        SpoonfulMore x = Check.village(village);
        Check.due("least(" + sort + ") of " + village, x.least(sort), want);
        for (int i = 0; i < things.length; i++) {
            Check.due("leastAt(" + sort + ", " + i + ") of " + village, x.leastAt(sort, i), things[i]);
        }
        Check.due("leastAt(" + sort + ") beyond the last of " + village, x.leastAt(sort, things.length), NONE);
    }

    /** "OUTSIDE: sort (0 to 2)"; "OUTSIDE: sort". */
    private static void sortOutside() {
        for (int sort : NO_SORTS) {
            Twin.refused("least(" + sort + ")", Twin::busy, x -> x.least(sort), OUTSIDE);
            Twin.refused("least(" + sort + ") of nobody", x -> { }, x -> x.least(sort), OUTSIDE);
            for (int i : new int[] {-1, 0, 8, Integer.MAX_VALUE}) {
                Twin.refused("leastAt(" + sort + ", " + i + ")", Twin::busy, x -> x.leastAt(sort, i), OUTSIDE);
            }
        }
    }

    private static void sortsWithin() {
        for (int sort = 0; sort <= 2; sort++) {
            least("V09P00P00K01T1" + sort + "4N0" + sort + "1", sort, 5 * (sort + 1), 0);
            Check.due("of a new object", new SpoonfulMore().least(sort), 0);
        }
    }

    /** Nothing is needed: that is met for nothing, and there is no i-th NEED. */
    private static void noNeeds() {
        least("V01", 0, 0);
        least("V09P00", 1, 0);
        least("V09P00T000", 0, 0);
        least("V09P00T010N010", 0, 0);
        least("V09P00N010", 2, 0);
    }

    /** "NONE: it can not be". */
    private static void needWithoutThings() {
        least("V09P00N000", 0, NONE);
        least("V09P00T010N000", 0, NONE);
        least("V09P00T020N013", 1, NONE);
        // One need of several that can not be met.
        least("V09P00T000N000N001N002N003", 0, 0, 0, 0, 0, 0);
        least("V09P00P00T000N000N001N002N103", 0, NONE);
        least("V09P00P00T000N100N001N002N003", 0, NONE);
    }

    /** "from DAY 0 to 3". */
    private static void daysFromFirstToLast() {
        for (int day = 0; day <= 3; day++) {
            least("V09P00P00K01T000N10" + day, 0, 1, 0);
            least("V09P00P00T000N10" + day, 0, NONE);
        }
        least("V09P00P00K01T000N103N100", 0, 1 + 2, 0, 0);
    }

    private static void theDayIsNotLookedAt() {
        SpoonfulMore x = Check.village("V09P00P00K01T000N100N103");
        for (int day = 0; day < 6; day++) {
            Check.due("least on day " + day, x.least(0), 3);
            Check.due("leastAt on day " + day, x.leastAt(0, 1), 0);
            Check.due("cap on day " + day, x.cap(2), 1);
            x.day();
        }
    }

    /** "(COINS are not looked at)". */
    private static void coinsAreNotLookedAt() {
        least("V09P00P00K01T028N120", 2, 27, 0);
        least("V09P99P26K01T028N120", 2, 27, 0);
    }

    /** "from GRADES as they are now". */
    private static void gradesAsTheyAreNow() {
        SpoonfulMore x = Check.village("V09P99P99K01T000T001N100");
        Check.due("least as told", x.least(0), 1);
        Check.due("plan as told", x.leastAt(0, 0), 0);
        x.lend(0, 1);
        x.back(0, 2);
        Check.due("least now", x.least(0), 2);
        Check.due("plan now", x.leastAt(0, 0), 1);
        x.undo();
        Check.due("least as undone", x.least(0), 1);
    }

    /** "all THINGS at their OWNERS". */
    private static void thingsAtTheirOwners() {
        SpoonfulMore x = Check.village("V39P99P99P99K01K02T000N100N001N202");
        Check.due("least at home", x.least(0), 3);
        x.lend(0, 2);
        x.day();
        Check.due("least while it is out", x.least(0), 3);
        Check.due("cap while it is out", x.cap(3), 9);
        Check.due("it stays out", x.thing(0, 3), 2);
    }

    /** "no two of one DAY the same". */
    private static void noTwoOfOneDayTheSame() {
        least("V09P00P00K01T000N000N100", 0, NONE);
        least("V09P00P00K01T000T000N000N100", 0, 1, 0, 1);
        least("V09P00P00K01T000N000N101", 0, 1, 0, 0);
        least("V09P00P00K01T000T010N000N110", 0, 0, 0);
        // The owner has to leave its own to who knows only it.
        least("V09P00P00P00K01K02T000T200N000N100", 0, 2, 1, 0);
    }

    /** "a PERSON's own THING costs nothing", and does not become better. */
    private static void ownThingsCostNothing() {
        least("V09P00T020N020N021N022N023", 2, 0, 0, 0, 0, 0);
        least("V09P00P00K01T000N000N001N002N103", 0, 1, 0, 0, 0, 0);
        least("V09P00P00K01T000T109N100", 0, 0, 1);
    }

    /** "another's (of one that it KNOWS) one BETTERMENT", whatever the LAW. */
    private static void anothersCostOneBetterment() {
        for (int law = 0; law <= 3; law++) {
            least("V" + law + "9P00P00K01T012N110", 1, 6, 0);
        }
    }

    /** "or nothing at CAP". */
    private static void nothingAtCap() {
        for (int cap = 1; cap <= 9; cap++) {
            least("V0" + cap + "P00P00K01T00" + cap + "N100N101", 0, 0, 0, 0);
            least("V0" + cap + "P00P00K01T00" + (cap - 1) + "N100N101", 0, cap, 0, 0);
        }
        least("V05P00P00K01T000T005N100", 0, 0, 1);
        least("V05P00P00K01T005T005N100", 0, 0, 0);
    }

    /** "a THING that was lent is back, better, on the next DAY", though no DAY more than one better. */
    private static void backBetterOnTheNextDay() {
        least("V09P00P00K01T000N100", 0, 1, 0);
        least("V09P00P00K01T000N100N101", 0, 3, 0, 0);
        least("V09P00P00K01T000N100N103", 0, 3, 0, 0);
        least("V09P00P00K01T000N100N101N102N103", 0, 10, 0, 0, 0, 0);
        least("V03P00P00K01T000N100N101N102N103", 0, 6, 0, 0, 0, 0);
        least("V04P00P00K01T000N100N101N102N103", 0, 10, 0, 0, 0, 0);
        least("V09P00P00P00K01K02T000N100N201N102N203", 0, 10, 0, 0, 0, 0);
        // Dear at first, but then at CAP: 4 once, or 1 and 2 and 3 and 4.
        least("V04P00P00K01T000T003N100N101N102N103", 0, 4, 1, 1, 1, 1);
        least("V04P00P00K01T000T003N100N101N102", 0, 4, 1, 1, 1);
        least("V04P00P00K01T000T003N100N101", 0, 3, 0, 0);
        // All the days before count: 1 and 2 and 3 of the one, then 3 of the other, which was left at home.
        least("V09P00P00K01T000T002N100N101N102N103", 0, 9, 0, 0, 0, 1);
        least("V09P00P00K01T002T000N100N101N102N103", 0, 9, 0, 1, 1, 1);
        // Only what was lent is better.
        least("V09P00P00P00P00K02K12K13T000T100N300N201", 0, 2, 1, 0);
        least("V09P00P00P00P00K02K12K13T000T100N300N301N202", 0, 1 + 2 + 1, 1, 1, 0);
    }

    private static void whoKnowsTheOwner() {
        least("V09P00P00T000N100", 0, NONE);
        least("V09P00P00P00K01K12T000N200", 0, NONE);
        least("V09P00P00P00K01K12T000N100", 0, 1, 0);
        least("V09P00P00P00K01K20T000N200", 0, 1, 0);
        least("V09P00P00P00P00P00K40T400N000", 0, 1, 0);
    }

    /** As many as one DAY can have of a SORT. */
    private static void fiveNeedsOfOneDay() {
        String people = "V09P00P00P00P00P00K01K02K03K04";
        String needs = "N400N300N200N100N000";
        least(people + "T001T001T001T001" + needs, 0, NONE);
        least(people + "T001T001T001T001T002" + needs, 0, 2 * 4, 0, 1, 2, 3, 4);
        least(people + "T001T001T001T001T001T000" + needs, 0, 1 + 3 * 2, 0, 1, 2, 5, 3);
    }

    /** "THE FIRST of such plans: by the THING of the first NEED .., then the second, ..". */
    private static void firstOfLikePlans() {
        least("V09P00P00K01T000T000T000N100", 0, 1, 0);
        least("V09P00P00K01T000T000T000N100N101", 0, 2, 0, 1);
        least("V09P00P00K01T001T000T000N100N101N102", 0, 1 + 1 + 2, 0, 1, 2);
        least("V09P00P00P00K01K02T000T000N100N200", 0, 2, 0, 1);
        least("V09P00P00P00K01K02T000T000N200N100", 0, 2, 0, 1);
        least("V09P00P00P00K01K02T000T000T200N100N200", 0, 1, 0, 2);
        // The last need can only be met by thing 0, on the same day: so the first one takes 1.
        least("V09P00P00P00P00K01K23K12T000T200N100N000", 0, 1, 1, 0);
        // At CAP all are alike.
        least("V01P00P00K01T001T001T101N000N100N001N101", 0, 0, 0, 1, 0, 1);
        least("V01P00P00K01T101T001T001N003N100N001N101", 0, 0, 0, 0, 1, 0);
    }

    /** "by DAY, of like ones as they were told". */
    private static void needsByDayThenAsTold() {
        // Each has its own thing, so the thing tells whose need it is.
        least("V09P00P00P00T000T100T200N203N100N003N200N001", 0, 0, 1, 2, 0, 2, 0);
        least("V09P00P00P00T000T100T200N003N203N200N100N001", 0, 0, 2, 1, 0, 0, 2);
        least("V09P00P00T000T010T100T110N010N100N000N110", 0, 0, 2, 0);
        least("V09P00P00T000T010T100T110N010N100N000N110", 1, 0, 1, 3);
    }

    /** "The THING of the i-th NEED of a SORT (from 0 ..); NONE: there is none such". */
    private static void placesOfNeeds() {
        String village = "V09P00P00K01T000T100N000N001N002N003N100N101N102N103";
        least(village, 0, 0, 0, 1, 0, 1, 0, 1, 0, 1);
        SpoonfulMore x = Check.village(village);
        for (int i : new int[] {-1, -9, 8, 9, 31, 32, 64, Integer.MIN_VALUE, Integer.MAX_VALUE}) {
            Check.due("leastAt(0, " + i + ")", x.leastAt(0, i), NONE);
        }
        Check.due("no plan at all", Check.village("V09P00N000").leastAt(0, 0), NONE);
    }

    /** Each question is the first that an object is asked, or comes behind another sort, another grade, another cap. */
    private static void plansAskedAlone() {
        String village = "V09P99P99K01T001T000T012T011N100N101N110";
        int[] things = {0, 1};
        for (int i = 0; i <= 2; i++) {
            Check.due("leastAt(0, " + i + ") alone", Check.village(village).leastAt(0, i), i < 2 ? things[i] : NONE);
            Check.due("leastAt(1, " + i + ") alone", Check.village(village).leastAt(1, i), i < 1 ? 3 : NONE);
        }
        SpoonfulMore x = Check.village(village);
        Check.due("leastAt(0, 1)", x.leastAt(0, 1), 1);
        Check.due("leastAt(1, 0)", x.leastAt(1, 0), 3);
        Check.due("leastAt(0, 0)", x.leastAt(0, 0), 0);
        Check.due("least(1)", x.least(1), 4);
        Check.due("leastAt(0, 1) behind least(1)", x.leastAt(0, 1), 1);
        x.lend(1, 1);
        x.back(1, 3);
        Check.due("leastAt(0, 1) with another grade", x.leastAt(0, 1), 0);
        x.undo();
        x.law(0, 2);
        x.cap(9);
        Check.due("leastAt(0, 0) with another cap", x.leastAt(0, 0), 0);
        Check.due("leastAt(1, 0) with another cap", x.leastAt(1, 0), 2);
    }

    /** "OUTSIDE: m (0 to 9999)". */
    private static void coinsAskedOutside() {
        for (int m : new int[] {-1, 10000, 10001, Integer.MIN_VALUE, Integer.MAX_VALUE}) {
            Twin.refused("cap(" + m + ")", Twin::busy, x -> x.cap(m), OUTSIDE);
            Twin.refused("cap(" + m + ") of nobody", x -> { }, x -> x.cap(m), OUTSIDE);
            Twin.refusedIn("V09P00N000", "OUTSIDE, though there is none: cap(" + m + ")", x -> x.cap(m), OUTSIDE);
        }
    }

    private static void coinsAskedWithin() {
        for (int m : new int[] {0, 1, 9998, 9999}) {
            Check.due("cap(" + m + ") of nobody", new SpoonfulMore().cap(m), 9);
            Check.due("cap(" + m + ")", Check.village("V01P00P00K01T000N100").cap(m), m == 0 ? NONE : 9);
        }
    }

    /** "the greatest CAP (from the greatest GRADE there is". */
    private static void capFromTheGreatestGrade() {
        for (int grade = 1; grade <= 9; grade++) {
            // At CAP of its grade it costs nothing, above that a betterment.
            SpoonfulMore x = Check.village("V09P00P00K01T00" + grade + "N100");
            Check.due("cap(0) at grade " + grade, x.cap(0), grade);
            Check.due("cap one coin below", x.cap(grade), grade < 9 ? grade : 9);
            Check.due("cap with all coins", x.cap(grade + 1), 9);
            if (grade < 9) {
                // A thing of another sort, which nobody needs, is above: no cap so low is left.
                x = Check.village("V09P00P00K01T00" + grade + "T02" + (grade + 1) + "N100");
                Check.due("cap(0) below the greatest grade", x.cap(0), NONE);
            }
        }
        SpoonfulMore x = Check.village("V09P99P99K01T001N100");
        x.lend(0, 1);
        x.back(0, 2);
        Check.due("the greatest grade as it is now", x.cap(0), 3);
    }

    /** "1 at least". */
    private static void capOneAtLeast() {
        SpoonfulMore x = Check.village("V09P00P00K01T000N100N101");
        Check.due("cap 0 would cost nothing", x.cap(0), NONE);
        Check.due("cap 1", x.cap(1), 1);
        Check.due("cap 1 still", x.cap(2), 1);
        Check.due("cap 2 and more", x.cap(3), 9);
    }

    /** "to 9)": also above THE CAP as it is, which stays. */
    private static void capToNine() {
        SpoonfulMore x = Check.village("V01P00P00K01T000N100N101N102N103");
        int[] want = {NONE, 1, 1, 2, 2, 2, 3, 3, 3, 3, 9, 9};
        for (int m = 0; m < want.length; m++) {
            Check.due("cap(" + m + ")", x.cap(m), want[m]);
        }
        Check.due("the cap stays", x.count(10), 1);
        x = Check.village("V05P00P00K01T005N100N101N102N103");
        // Above 8 nothing is dearer than the four betterments from 5 to 9.
        int[][] costs = {{0, 5}, {5, 5}, {6, 6}, {12, 6}, {13, 7}, {20, 7}, {21, 8}, {29, 8}, {30, 9}, {9999, 9}};
        for (int[] pair : costs) {
            Check.due("cap(" + pair[0] + ")", x.cap(pair[0]), pair[1]);
        }
    }

    /** "is no more than m". */
    private static void capJustEnough() {
        SpoonfulMore x = Check.village("V09P00P00K01T020N120");
        Check.due("one less", x.cap(2), NONE);
        Check.due("just enough", x.cap(3), 9);
        Check.due("one more", x.cap(4), 9);
    }

    /** "THE LEAST of all SORTS together". */
    private static void capOfAllSortsTogether() {
        SpoonfulMore x = Check.village("V09P00P00K01T000T010T020N100N110N120N101N111N121");
        int[][] costs = {{0, NONE}, {5, NONE}, {6, 1}, {17, 1}, {18, 9}};
        for (int[] pair : costs) {
            Check.due("cap(" + pair[0] + ")", x.cap(pair[0]), pair[1]);
        }
    }

    /** "NONE". */
    private static void capThatCanNotBe() {
        for (int sort = 0; sort < 3; sort++) {
            String rest = "T000T010T020N000N010N020";
            SpoonfulMore x = Check.village("V09P00P00" + rest + "N1" + sort + "1");
            Check.due("cap(9999), sort " + sort + " can not be met", x.cap(9999), NONE);
            Check.due("cap(0), all can be met", Check.village("V09P00P00" + rest).cap(0), 9);
        }
    }
}
