/** The edges of promises 6 to 8: person, thing, law. Each sentence has a test of its own. */
public final class VillageEdgesTest {
    private static final int UNKNOWN = SpoonfulMore.UNKNOWN, OUTSIDE = SpoonfulMore.OUTSIDE,
        STATE = SpoonfulMore.STATE;
    private static final int[] FAR = {Integer.MIN_VALUE, -10, -2, 32, 64, 1 << 30, Integer.MAX_VALUE};

    public static void main(String[] args) {
        noSuchPerson();
        whatOfAPerson();
        coins();
        knowing();
        ownThings();
        heldThings();
        noSuchThing();
        whatOfAThing();
        worth();
        dueByLaw();
        dueByDays();
        dueNotBeyondCap();
        dueAtItsOwner();
        daysOut();
        lawAndCapOutside();
        lawAndCapWithin();
        gradeAboveCap();
        lawAsItWas();
        questionsChangeNothing();
        Check.end();
    }

    /** "UNKNOWN (there is no such PERSON". */
    private static void noSuchPerson() {
        String text = "V01";
        for (int people = 0; people <= 5; people++) {
            SpoonfulMore x = Check.village(text);
            Check.due("person(-1, 0) of " + people, x.person(-1, 0), UNKNOWN);
            for (int person = 0; person <= 6; person++) {
                Check.due("person(" + person + ", 0) of " + people, x.person(person, 0), person < people ? 7 : UNKNOWN);
            }
            for (int person : FAR) {
                Check.due("person(" + person + ", 0) of " + people, x.person(person, 0), UNKNOWN);
            }
            text += "P07";
        }
        SpoonfulMore x = Check.village("V01P00P00P00P00P00");
        x.wipe();
        Twin.tell(x, "V01P00P00");
        Check.due("one that is there still", x.person(1, 0), 0);
        Check.due("one that is not there any more", x.person(2, 0), UNKNOWN);
    }

    /** "COINS (what = 0), .. (1: bits), .. (2: bits), .. (3: bits). UNKNOWN; OUTSIDE". */
    private static void whatOfAPerson() {
        for (int what : new int[] {-1, 4, 5, Integer.MIN_VALUE, Integer.MAX_VALUE}) {
            for (int person = 0; person < 5; person++) {
                int who = person;
                Twin.refused("person(" + who + ", " + what + ")", Twin::busy, x -> x.person(who, what), OUTSIDE);
            }
            Twin.refused("UNKNOWN ahead of OUTSIDE", Twin::busy, x -> x.person(5, what), UNKNOWN);
            Twin.refused("UNKNOWN ahead of OUTSIDE", Twin::busy, x -> x.person(-1, what), UNKNOWN);
        }
        SpoonfulMore x = Check.village("V09P12P34K01T102");
        long[] want = {34, 1, 1, 1};
        for (int what = 0; what <= 3; what++) {
            Check.due("person(1, " + what + ")", x.person(1, what), want[what]);
        }
    }

    private static void coins() {
        SpoonfulMore x = Check.village("V09P00P99P01");
        Check.due("none", x.person(0, 0), 0);
        Check.due("as many as two figures tell", x.person(1, 0), 99);
        Check.due("one", x.person(2, 0), 1);
    }

    /** Nobody, one of the last, everybody. */
    private static void knowing() {
        SpoonfulMore x = Check.village("V09P00P00P00P00P00K40");
        long[] want = {16, 0, 0, 0, 1};
        for (int person = 0; person < 5; person++) {
            Check.due("whom " + person + " knows", x.person(person, 1), want[person]);
        }
        x = Check.village("V09P00P00P00P00P00K01K02K03K04K12K13K14K23K24K34");
        for (int person = 0; person < 5; person++) {
            Check.due("all but itself", x.person(person, 1), 31 - (1 << person));
        }
    }

    private static void ownThings() {
        SpoonfulMore x = Check.village("V09P00P00T100T100T100T100T100T100");
        Check.due("none of its own", x.person(0, 2), 0);
        Check.due("all", x.person(1, 2), 63);
        x = Check.village("V09P00P00T000T100T100T100T100T000");
        Check.due("the first and the last", x.person(0, 2), 33);
        Check.due("those between", x.person(1, 2), 30);
    }

    /** What is at its owner is held by it; what is lent is not. */
    private static void heldThings() {
        SpoonfulMore x = Check.village("V09P00P99K01T000T000T000T000T000T000");
        Check.due("all", x.person(0, 3), 63);
        Check.due("none", x.person(1, 3), 0);
        for (int thing = 5; thing >= 0; thing--) {
            x.lend(thing, 1);
            Check.due("owner holds", x.person(0, 3), (1 << thing) - 1);
            Check.due("holder holds", x.person(1, 3), 64 - (1 << thing));
            Check.due("own all the same", x.person(0, 2), 63);
            Check.due("not the holder's own", x.person(1, 2), 0);
        }
        x.back(0, 0);
        Check.due("owner holds it again", x.person(0, 3), 1);
        Check.due("holder has it no more", x.person(1, 3), 62);
    }

    /** "UNKNOWN (there is no such .. THING". */
    private static void noSuchThing() {
        StringBuilder text = new StringBuilder("V05P00");
        for (int things = 0; things <= 6; things++) {
            SpoonfulMore x = Check.village(text.toString());
            Check.due("thing(-1, 2) of " + things, x.thing(-1, 2), UNKNOWN);
            for (int thing = 0; thing <= 7; thing++) {
                Check.due("thing(" + thing + ", 2) of " + things, x.thing(thing, 2), thing < things ? 5 : UNKNOWN);
            }
            for (int thing : FAR) {
                Check.due("thing(" + thing + ", 2) of " + things, x.thing(thing, 2), UNKNOWN);
            }
            text.append("T005");
        }
        SpoonfulMore x = Check.village("V01P00T000T000T000");
        x.wipe();
        Twin.tell(x, "V01P00T000");
        Check.due("one that is there still", x.thing(0, 0), 0);
        Check.due("one that is not there any more", x.thing(1, 0), UNKNOWN);
    }

    /** what from 0 to 6; "UNKNOWN; OUTSIDE". */
    private static void whatOfAThing() {
        for (int what : new int[] {-1, 7, 8, Integer.MIN_VALUE, Integer.MAX_VALUE}) {
            for (int thing = 0; thing < 6; thing += 5) {
                int one = thing;
                Twin.refused("thing(" + one + ", " + what + ")", Twin::busy, x -> x.thing(one, what), OUTSIDE);
            }
            Twin.refused("UNKNOWN ahead of OUTSIDE", Twin::busy, x -> x.thing(6, what), UNKNOWN);
            Twin.refused("UNKNOWN ahead of OUTSIDE", Twin::busy, x -> x.thing(-1, what), UNKNOWN);
        }
        SpoonfulMore x = Check.village("V29P00P99P00K12T123");
        x.lend(0, 2);
        x.day();
        x.day();
        x.day();
        long[] want = {1, 2, 3, 2, 18, 3, 3};
        for (int what = 0; what <= 6; what++) {
            Check.due("thing(0, " + what + ")", x.thing(0, what), want[what]);
        }
    }

    /** "Its WORTH is what all BETTERMENTS from GRADE 0 to its GRADE cost": 0 at GRADE 0. */
    private static void worth() {
        int[] steps = {0, 1, 3, 6, 10, 15, 21, 28, 36, 45};
        for (int sort = 0; sort < 3; sort++) {
            for (int grade = 0; grade <= 9; grade++) {
                SpoonfulMore x = Check.village("V09P00T0" + sort + grade);
                Check.due("worth of sort " + sort + ", grade " + grade, x.thing(0, 4), (sort + 1) * steps[grade]);
                Check.due("worth of all", x.count(8), (sort + 1) * steps[grade]);
            }
        }
    }

    /** "DUE: LAW". */
    private static void dueByLaw() {
        for (int law = 0; law <= 3; law++) {
            SpoonfulMore x = Check.village("V" + law + "9P00P00K01T000");
            x.lend(0, 1);
            Check.due("due at once by law " + law, x.thing(0, 5), law);
            x.law(3 - law, 9);
            Check.due("due by the law as it is now", x.thing(0, 5), 3 - law);
        }
    }

    /** "and one more for each two DAYS that it was out". */
    private static void dueByDays() {
        SpoonfulMore x = Check.village("V09P00P00K01T000T000");
        x.day();
        x.day();
        x.day();
        x.lend(0, 1);
        for (int day = 0; day <= 17; day++) {
            Check.due("due after " + day + " days out", x.thing(0, 5), day / 2);
            Check.due("of one at its owner", x.thing(1, 5), 0);
            x.day();
        }
        x.undo();
        x.undo();
        x.undo();
        Check.due("days undone are not counted", x.thing(0, 5), 7);
    }

    /** "but not beyond CAP". */
    private static void dueNotBeyondCap() {
        for (int grade = 0; grade <= 5; grade++) {
            SpoonfulMore x = Check.village("V35P00P00K01T00" + grade);
            x.lend(0, 1);
            for (int day = 0; day <= 12; day++) {
                Check.due("due from grade " + grade + " on day " + day, x.thing(0, 5), Math.min(3 + day / 2, 5 - grade));
                x.day();
            }
            x.law(3, 9);
            Check.due("by the cap as it is now", x.thing(0, 5), 9 - grade);
        }
    }

    /** "0 if it is at its OWNER". */
    private static void dueAtItsOwner() {
        SpoonfulMore x = Check.village("V39P00P99K01T000");
        Check.due("ahead of all", x.thing(0, 5), 0);
        x.day();
        x.day();
        Check.due("days at its owner", x.thing(0, 5), 0);
        x.lend(0, 1);
        Check.due("lent", x.thing(0, 5), 3);
        x.undo();
        Check.due("lending undone", x.thing(0, 5), 0);
        x.lend(0, 1);
        x.back(0, 3);
        Check.due("back", x.thing(0, 5), 0);
        x.undo();
        Check.due("back undone", x.thing(0, 5), 3);
    }

    /** "how many DAYS it is out". */
    private static void daysOut() {
        SpoonfulMore x = Check.village("V09P00P99K01T000");
        x.day();
        Check.due("at its owner", x.thing(0, 6), 0);
        x.lend(0, 1);
        Check.due("just lent", x.thing(0, 6), 0);
        x.day();
        Check.due("one day", x.thing(0, 6), 1);
        for (int day = 2; day <= 40; day++) {
            x.day();
        }
        Check.due("forty days", x.thing(0, 6), 40);
        x.back(0, 9);
        Check.due("back", x.thing(0, 6), 0);
        x.lend(0, 1);
        Check.due("lent anew", x.thing(0, 6), 0);
    }

    /** "OUTSIDE: law, cap". */
    private static void lawAndCapOutside() {
        int[][] wrong = {{-1, 5}, {4, 5}, {0, 0}, {3, 0}, {0, -1}, {0, 10}, {3, 10}, {-1, 0}, {4, 10}, {4, 1}, {-1, 1},
            {Integer.MIN_VALUE, 5}, {Integer.MAX_VALUE, 5}, {1, Integer.MIN_VALUE}, {1, Integer.MAX_VALUE}};
        for (int[] pair : wrong) {
            String told = "law(" + pair[0] + ", " + pair[1] + ")";
            Twin.refused(told, Twin::busy, x -> x.law(pair[0], pair[1]), OUTSIDE);
            Twin.refused(told + " of a new object", x -> { }, x -> x.law(pair[0], pair[1]), OUTSIDE);
        }
    }

    private static void lawAndCapWithin() {
        SpoonfulMore x = new SpoonfulMore();
        int was = 1;
        for (int law = 0; law <= 3; law++) {
            for (int cap = 1; cap <= 9; cap++) {
                Check.due("law(" + law + ", " + cap + ")", x.law(law, cap), was);
                was = 10 * law + cap;
                Check.due("count(10)", x.count(10), was);
            }
        }
    }

    /** "STATE: a GRADE is above that CAP". */
    private static void gradeAboveCap() {
        for (int grade = 2; grade <= 9; grade++) {
            int least = grade;
            for (String things : new String[] {"T000T00" + grade, "T02" + grade + "T111T000", "T10" + grade}) {
                String village = "V19P99P99K01" + things;
                Twin.refusedIn(village, "law(2, " + (least - 1) + ")", x -> x.law(2, least - 1), STATE);
                Twin.refusedIn(village, "law(2, 1)", x -> x.law(2, 1), STATE);
                Twin.refusedIn(village, "OUTSIDE ahead of STATE", x -> x.law(4, 1), OUTSIDE);
                Check.due("law(2, " + least + ")", Check.village(village).law(2, least), 19);
            }
        }
        Check.due("without things", Check.village("V19P00").law(0, 1), 19);
        Check.due("grade 1", Check.village("V19P00T001").law(0, 1), 19);
        SpoonfulMore x = Check.village("V09P00P99K01T000");
        x.lend(0, 1);
        x.back(0, 4);
        Check.due("a grade as it is now", x.law(0, 3), STATE);
        Check.due("just that grade", x.law(0, 4), 9);
        x.undo();
        Check.due("a grade as it is undone", x.law(0, 1), 4);
    }

    /** "LAW and CAP are otherwise: 10 times LAW, and CAP, as they were": no ACT, and nothing else changes. */
    private static void lawAsItWas() {
        SpoonfulMore x = Check.village("V15P40");
        Check.due("as it was told", x.law(1, 5), 15);
        Check.due("as it was", x.law(3, 9), 15);
        Check.due("as it was", x.law(0, 1), 39);
        Check.due("no act", x.undo(), STATE);
        Twin.same("back and forth", Twin::busy, y -> {
            Twin.busy(y);
            y.law(3, 9);
            y.law(1, 5);
        });
    }

    private static void questionsChangeNothing() {
        Twin.same("questions change nothing", Twin::busy, x -> {
            Twin.busy(x);
            x.person(1, 3);
            x.thing(1, 5);
            x.count(8);
            x.least(0);
            x.leastAt(1, 2);
            x.cap(9);
            x.hands(0, 5);
            x.surely(2, 8);
            x.borrow(1, 1, 8, 3, true);
        });
    }
}
