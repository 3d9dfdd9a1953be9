/** Promises 13 to 15: least, leastAt, cap. */
public final class NeedsTest {
    public static void main(String[] args) {
        wrongInputs();
        ownAndLent();
        impossible();
        firstOfLikePlans();
        betterOnTheNextDay();
        nowNotThen();
        caps();
        greatVillage();
        Check.end();
    }

    private static void plan(SpoonfulMore x, int sort, int... things) {
        for (int i = 0; i < things.length; i++) {
            Check.due("leastAt(" + sort + ", " + i + ")", x.leastAt(sort, i), things[i]);
        }
        Check.due("leastAt beyond the last", x.leastAt(sort, things.length), SpoonfulMore.NONE);
    }

    private static void wrongInputs() {
        SpoonfulMore x = Check.village("V01P00T000N000");
        Check.due("least(-1)", x.least(-1), SpoonfulMore.OUTSIDE);
        Check.due("least(3)", x.least(3), SpoonfulMore.OUTSIDE);
        Check.due("leastAt(-1, 0)", x.leastAt(-1, 0), SpoonfulMore.OUTSIDE);
        Check.due("leastAt(3, -1)", x.leastAt(3, -1), SpoonfulMore.OUTSIDE);
        Check.due("leastAt(0, -1)", x.leastAt(0, -1), SpoonfulMore.NONE);
        Check.due("leastAt(0, max)", x.leastAt(0, Integer.MAX_VALUE), SpoonfulMore.NONE);
        Check.due("leastAt(0, min)", x.leastAt(0, Integer.MIN_VALUE), SpoonfulMore.NONE);
        Check.due("cap(-1)", x.cap(-1), SpoonfulMore.OUTSIDE);
        Check.due("cap(10000)", x.cap(10000), SpoonfulMore.OUTSIDE);
        Check.due("cap(9999)", x.cap(9999), 9);
        Check.due("no needs of the sort", x.least(1), 0);
    }

    private static void ownAndLent() {
        SpoonfulMore x = Check.village("V19P00P00K01T022T125N020N120");
        Check.due("each its own", x.least(2), 0);
        plan(x, 2, 0, 1);
        x = Check.village("V19P00P00K01T022T025N120");
        Check.due("the lower one is lent, though there are no coins", x.least(2), 9);
        plan(x, 2, 0);
        x = Check.village("V19P00P00K01T025T022N120");
        plan(x, 2, 1);
        x = Check.village("V15P00P00K01T024T025N120");
        Check.due("at cap it is for nothing", x.least(2), 0);
        plan(x, 2, 1);
        x = Check.village("V19P00P00K01T022T125N020N120N121N021N022");
        Check.due("own things do not get better", x.least(2), 0);
    }

    private static void impossible() {
        SpoonfulMore x = Check.village("V19P00P00T000N100");
        Check.due("a stranger's", x.least(0), SpoonfulMore.NONE);
        plan(x, 0);
        Check.due("cap", x.cap(9999), SpoonfulMore.NONE);
        x = Check.village("V19P00P00K01T000N000N100");
        Check.due("two needs, one thing", x.least(0), SpoonfulMore.NONE);
        plan(x, 0);
        x = Check.village("V19P00P00K01T000N000N101");
        Check.due("on two days", x.least(0), 1);
        x = Check.village("V19P00T000N010");
        Check.due("another sort", x.least(1), SpoonfulMore.NONE);
        Check.due("that sort", x.least(0), 0);
    }

    private static void firstOfLikePlans() {
        SpoonfulMore x = Check.village("V19P00P00P00K01K02T001T001N201N100N200N101");
        Check.due("least", x.least(0), 2 + 2 + 3 + 3);
        // By day, of like ones as they were told: 1 and 2 on day 0, then 2 and 1 on day 1.
        plan(x, 0, 0, 1, 0, 1);
        x = Check.village("V19P00P00K01T000T100N100N000");
        Check.due("nobody needs another's", x.least(0), 0);
        plan(x, 0, 1, 0);
        x = Check.village("V12P00P00K01T002T100T102N000N100");
        Check.due("things at cap cost nothing", x.least(0), 0);
        plan(x, 0, 0, 1);
        x = Check.village("V12P00P00K01T102T002N000N100");
        plan(x, 0, 0, 1);
    }

    private static void betterOnTheNextDay() {
        SpoonfulMore x = Check.village("V09P00P00K01T010N110N111N112N113");
        Check.due("each time dearer", x.least(1), 2 + 4 + 6 + 8);
        plan(x, 1, 0, 0, 0, 0);
        x.law(0, 2);
        Check.due("but not beyond cap", x.least(1), 2 + 4);
        x = Check.village("V09P00P00K01T000T001N100N101N102N103");
        Check.due("1 and 2 of each, and 3 of one", x.least(0), 1 + 2 + 2 + 3);
        plan(x, 0, 0, 0, 0, 1);
        x = Check.village("V03P00P00K01T001T002N100N101N102N103");
        Check.due("dear at first, then for nothing", x.least(0), 3);
        plan(x, 0, 1, 1, 1, 1);
    }

    private static void nowNotThen() {
        SpoonfulMore x = Check.village("V09P99P99P99K01K02T000N100");
        x.lend(0, 2);
        Check.due("as if it were at its owner", x.least(0), 1);
        x.day();
        x.day();
        x.back(0, 3);
        Check.due("from the grade as it is now", x.least(0), 4);
        x.undo();
        Check.due("and as it is undone", x.least(0), 1);
        Check.due("nothing changes", x.thing(0, 3), 2);
    }

    private static void caps() {
        SpoonfulMore x = Check.village("V09P00P00K01T001T010N100N101N102N110N111");
        // By caps from 1 to 4 (and none more beyond): sort 1 costs 2, then 2 and 4; sort 0 nothing, then 2, 3, 4.
        int[] costs = {0, 2, 2 + 4 + 2, 2 + 4 + 2 + 3, 2 + 4 + 2 + 3 + 4};
        for (int m = 0; m <= 20; m++) {
            int want = SpoonfulMore.NONE;
            for (int cap = 1; cap <= 9; cap++) {
                want = costs[Math.min(cap, 4)] <= m ? cap : want;
            }
            Check.due("cap(" + m + ")", x.cap(m), want);
        }
        Check.due("cap is not changed", x.count(10), 9);
        x = Check.village("V09P00P00K01T007T000N100");
        x.law(0, 7);
        Check.due("not below the greatest grade", x.cap(0), 7);
        x = Check.village("V09P00P00K01T017T000N100");
        Check.due("not below the greatest grade of any sort", x.cap(0), SpoonfulMore.NONE);
        Check.due("just enough", x.cap(1), 9);
        x = Check.village("V09P00P00K01T009N100");
        Check.due("the greatest grade is 9", x.cap(0), 9);
    }

    /** As many things and needs as a text has room for. */
    private static void greatVillage() {
        SpoonfulMore x = Check.village(
            "V09P00P00P00P00K01K02K03K12K13K23T000T000T000T000T000T000N100N200N101N201N102N202N103N203");
        Check.due("six at 1, two at 2", x.least(0), 6 + 4);
        plan(x, 0, 0, 1, 0, 1, 2, 3, 4, 5);
        // Cap 1: two things, once; cap 2: two things, twice; from cap 3 on the plan above.
        Check.due("cap(1)", x.cap(1), SpoonfulMore.NONE);
        Check.due("cap(2)", x.cap(2), 1);
        Check.due("cap(5)", x.cap(5), 1);
        Check.due("cap(6)", x.cap(6), 2);
        Check.due("cap(9)", x.cap(9), 2);
        Check.due("cap(10)", x.cap(10), 9);
    }
}
