/** Promises 1 to 8: a new object, write, wipe, fault, village, person, thing, law. */
public final class VillageTest {
    public static void main(String[] args) {
        newObject();
        writing();
        faults();
        faultsOfParts();
        lengthSetAside();
        villages();
        people();
        things();
        laws();
        Check.end();
    }

    private static void newObject() {
        SpoonfulMore x = new SpoonfulMore();
        for (int what = 0; what <= 9; what++) {
            Check.due("new: count(" + what + ")", x.count(what), 0);
        }
        Check.due("new: count(10)", x.count(10), 1);
        Check.due("new: seed", x.seed(0), 0);
        Check.due("new: person", x.person(0, 0), SpoonfulMore.UNKNOWN);
        Check.due("new: thing", x.thing(0, 0), SpoonfulMore.UNKNOWN);
        Check.due("new: undo", x.undo(), SpoonfulMore.STATE);
        Check.due("new: again", x.again(0), SpoonfulMore.STATE);
        Check.due("new: fault", x.fault(), 0);
    }

    private static void writing() {
        SpoonfulMore x = new SpoonfulMore();
        Check.due("write 0", x.write(0, 'V'), SpoonfulMore.OUTSIDE);
        Check.due("write 9", x.write(9, 'V'), SpoonfulMore.OUTSIDE);
        Check.due("write min", x.write(Integer.MIN_VALUE, 'V'), SpoonfulMore.OUTSIDE);
        Check.due("write max", x.write(Integer.MAX_VALUE, 'V'), SpoonfulMore.OUTSIDE);
        Check.due("count", x.count(0), 0);
        // Only the lowest n bytes come, the highest of them first.
        Check.due("write", x.write(3, 0x7777777777563031L), 3);
        Check.due("fault", x.fault(), SpoonfulMore.NONE);
        Check.due("write negative", x.write(8, -1L), 11);
        Check.due("fault", x.fault(), 3);
        Check.due("wipe", x.wipe(), 11);
        Check.due("wipe again", x.wipe(), 0);
        for (int i = 1; i <= 11; i++) {
            Check.due("write", x.write(8, 0), 8 * i);
        }
        Check.due("write 3 too many", x.write(3, 0), SpoonfulMore.FULL);
        Check.due("OUTSIDE ahead of FULL", x.write(9, 0), SpoonfulMore.OUTSIDE);
        Check.due("count", x.count(0), 88);
        Check.due("write up to 90", x.write(2, 0), 90);
        Check.due("write beyond 90", x.write(1, 0), SpoonfulMore.FULL);
        Check.due("wipe", x.wipe(), 90);
        Check.due("count", x.count(0), 0);
    }

    private static void fault(String text, int want) {
        SpoonfulMore x = new SpoonfulMore();
        Check.write(x, text);
        Check.due("fault() of " + text, x.fault(), want);
        Check.due("village() of " + text, x.village() == SpoonfulMore.STATE ? 1 : 0, want == SpoonfulMore.NONE ? 0 : 1);
    }

    private static void faults() {
        int none = SpoonfulMore.NONE;
        fault("", 0);
        fault("v", 0);
        fault("V", 1);
        fault("V3", 2);
        fault("V4", 1);
        fault("V39", none);
        fault("V00", 2);
        fault("V0:", 2);
        fault("V/1", 1);
        fault("V01V", 3);
        fault("V01\u0000", 3);
        fault("V01\u00ff", 3);
        fault("V01 ", 3);
        fault("V01p", 3);
        fault("V\u00b0", 1);
        fault("V01P", 4);
        fault("V01P9", 5);
        fault("V01P99", none);
        fault("V01P9:", 5);
        fault("V01PX", 4);
        fault("V01P00P00P00P00P00", none);
        fault("V01P00P00P00P00P00P", 18);
        fault("V01XP", 3);
    }

    private static void faultsOfParts() {
        int none = SpoonfulMore.NONE;
        fault("V01K", 3);
        fault("V01P00K", 6);
        fault("V01P00P00K", 10);
        fault("V01P00P00K1", 11);
        fault("V01P00P00K10", none);
        fault("V01P00P00K2", 10);
        fault("V01P00P00K11", 11);
        fault("V01P00P00K12", 11);
        fault("V01P00P00K10K", 12);
        fault("V01P00P00K10P00K", 16);
        fault("V01P00P00P00K10K01", 17);
        fault("V01P00P00P00K10K02K0", 19);
        fault("V01P00P00P00K10K02K12", none);
        fault("V01P00P00P00K10K02K12K", 21);
        fault("V01T", 3);
        fault("V01P00T", 7);
        fault("V01P00T1", 7);
        fault("V01P00T03", 8);
        fault("V01P00T02", 9);
        fault("V01P00T022", 9);
        fault("V01P00T021", none);
        fault("V09P00T029", none);
        fault("V01P00T000T000T000T000T000T000", none);
        fault("V01P00T000T000T000T000T000T000T", 30);
        fault("V01N", 3);
        fault("V01P00N", 7);
        fault("V01P00N1", 7);
        fault("V01P00N03", 8);
        fault("V01P00N004", 9);
        fault("V01P00N003", none);
        fault("V01P00N003N003", 13);
        fault("V01P00P00N003N103N013N002", none);
        fault("V01P00N023N021N020N022N02", 24);
        fault("V01P00N023N021N020N022N0", 24);
        fault("V01P00N000N001N002N003N010N011N012N013", none);
        fault("V01P00N000N001N002N003N010N011N012N013N", 38);
    }

    /** The parts of a text of 89 bytes may still go on, though no more than one byte can be written. */
    private static void lengthSetAside() {
        String full = "V09P00P00P00P00K01K02K03K12K13K23T000T000T000T000T000T000N000N001N002N003N010N011N012N013";
        fault(full, SpoonfulMore.NONE);
        Check.due("length", full.length(), 89);
        fault(full + "P", 90);
        fault(full + "K", 89);
    }

    private static void villages() {
        SpoonfulMore x = new SpoonfulMore();
        Check.due("village of nothing", x.village(), SpoonfulMore.STATE);
        Check.write(x, "V25P20P05K01T112N103");
        Check.due("village", x.village(), 21);
        Check.due("text stays", x.count(0), 20);
        Check.due("needs", x.count(3), 1);
        Check.due("law and cap", x.count(10), 25);
        x.lend(0, 0);
        x.day();
        x.keep(0);
        x.see(1, 1, true);
        x.seed(7);
        x.wipe();
        Check.write(x, "V25P");
        Check.due("village with a fault", x.village(), SpoonfulMore.STATE);
        Check.due("day stays", x.count(4), 1);
        Check.due("acts stay", x.count(5), 2);
        Check.due("thing stays out", x.thing(0, 3), 0);
        Check.due("law and cap stay", x.count(10), 25);
        x.wipe();
        Check.write(x, "V11P07T000");
        Check.due("village", x.village(), 11);
        Check.due("day is 0", x.count(4), 0);
        Check.due("no acts", x.count(5), 0);
        Check.due("kept is gone", x.again(0), SpoonfulMore.STATE);
        Check.due("seen stays", x.count(6), 1);
        Check.due("seed stays", x.seed(0), 7);
        Check.due("no needs", x.count(3), 0);
        Check.due("nobody known", x.person(0, 1), 0);
        Check.due("at its owner", x.thing(0, 3), 0);
        Check.due("not out", x.thing(0, 6), 0);
        Check.due("coins", x.count(7), 7);
    }

    private static void people() {
        SpoonfulMore x = Check.village("V19P20P05P99K01K21T000T012T100T224");
        long[][] want = {{20, 2, 3, 3}, {5, 5, 4, 4}, {99, 2, 8, 8}};
        for (int person = 0; person < 3; person++) {
            for (int what = 0; what < 4; what++) {
                Check.due("person(" + person + ", " + what + ")", x.person(person, what), want[person][what]);
            }
        }
        x.lend(1, 1);
        Check.due("owner's", x.person(0, 2), 3);
        Check.due("owner holds", x.person(0, 3), 1);
        Check.due("holder holds", x.person(1, 3), 6);
        Check.due("person -1", x.person(-1, 0), SpoonfulMore.UNKNOWN);
        Check.due("person 3", x.person(3, 0), SpoonfulMore.UNKNOWN);
        Check.due("person 3, 4", x.person(3, 4), SpoonfulMore.UNKNOWN);
        Check.due("what -1", x.person(0, -1), SpoonfulMore.OUTSIDE);
        Check.due("what 4", x.person(0, 4), SpoonfulMore.OUTSIDE);
    }

    private static void things() {
        SpoonfulMore x = Check.village("V14P99P99K01T000T114T024");
        long[][] want = {{0, 0, 0, 0, 0, 0, 0}, {1, 1, 4, 1, 20, 0, 0}, {0, 2, 4, 0, 30, 0, 0}};
        for (int thing = 0; thing < 3; thing++) {
            for (int what = 0; what < 7; what++) {
                Check.due("thing(" + thing + ", " + what + ")", x.thing(thing, what), want[thing][what]);
            }
        }
        x.lend(0, 1);
        x.lend(1, 0);
        long[] dueBy = {1, 1, 2, 2, 3, 3, 4, 4, 4, 4};
        for (int day = 0; day < dueBy.length; day++) {
            Check.due("due on day " + day, x.thing(0, 5), dueBy[day]);
            Check.due("due at CAP", x.thing(1, 5), 0);
            Check.due("days out", x.thing(0, 6), day);
            Check.due("days of one that is at its owner", x.thing(2, 6), 0);
            x.day();
        }
        Check.due("holder", x.thing(0, 3), 1);
        Check.due("owner", x.thing(0, 0), 0);
        Check.due("thing -1", x.thing(-1, 0), SpoonfulMore.UNKNOWN);
        Check.due("thing 3", x.thing(3, 7), SpoonfulMore.UNKNOWN);
        Check.due("what 7", x.thing(0, 7), SpoonfulMore.OUTSIDE);
        Check.due("what -1", x.thing(0, -1), SpoonfulMore.OUTSIDE);
        SpoonfulMore y = Check.village("V09P99T029");
        Check.due("worth of the highest grade", y.thing(0, 4), 135);
    }

    private static void laws() {
        SpoonfulMore x = Check.village("V15P99P99K01T003");
        Check.due("law -1", x.law(-1, 5), SpoonfulMore.OUTSIDE);
        Check.due("law 4", x.law(4, 5), SpoonfulMore.OUTSIDE);
        Check.due("cap 0", x.law(0, 0), SpoonfulMore.OUTSIDE);
        Check.due("cap 10", x.law(0, 10), SpoonfulMore.OUTSIDE);
        Check.due("cap below a grade", x.law(0, 2), SpoonfulMore.STATE);
        Check.due("OUTSIDE ahead of STATE", x.law(4, 2), SpoonfulMore.OUTSIDE);
        Check.due("count", x.count(10), 15);
        Check.due("law", x.law(3, 3), 15);
        Check.due("law", x.law(2, 9), 33);
        Check.due("count", x.count(10), 29);
        x.lend(0, 1);
        Check.due("due by the new law", x.thing(0, 5), 2);
        x.law(3, 4);
        Check.due("due by the new cap", x.thing(0, 5), 1);
        Check.due("a law is no act", x.count(5), 1);
        Check.due("undo", x.undo(), 0);
        Check.due("undo leaves the law", x.count(10), 34);
    }
}
