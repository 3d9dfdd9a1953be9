/** The edges of promises 23 to 25: keep, again, count. Each sentence has a test of its own. */
public final class SlotsEdgesTest {
    private static final int UNKNOWN = SpoonfulMore.UNKNOWN, OUTSIDE = SpoonfulMore.OUTSIDE,
        STATE = SpoonfulMore.STATE;
    private static final int[] NO_SLOTS = {-1, 2, 3, Integer.MIN_VALUE, Integer.MAX_VALUE};

    public static void main(String[] args) {
        noSuchSlot();
        bothSlots();
        keepTellsTheDay();
        keepChangesTheSlotAlone();
        noneWereKept();
        villageDropsWhatWasKept();
        gradeAboveCap();
        asTheyWereKept();
        whatIsNotKept();
        rowOfActsIsEmpty();
        againAndAgain();
        countOutside();
        countsOfNone();
        countsOfMost();
        constants();
        Check.end();
    }

    /** "UNKNOWN (there is no such .. SLOT"; "SLOTS 0 to 1". */
    private static void noSuchSlot() {
        for (int slot : NO_SLOTS) {
            Twin.refused("keep(" + slot + ")", Twin::busy, x -> x.keep(slot), UNKNOWN);
            Twin.refused("again(" + slot + ")", Twin::busy, x -> x.again(slot), UNKNOWN);
            Twin.refused("keep(" + slot + ") of a new object", x -> { }, x -> x.keep(slot), UNKNOWN);
            // UNKNOWN is named ahead of STATE: none were kept.
            Twin.refused("again(" + slot + ") of a new object", x -> { }, x -> x.again(slot), UNKNOWN);
        }
    }

    private static void bothSlots() {
        for (int slot = 0; slot <= 1; slot++) {
            SpoonfulMore x = new SpoonfulMore();
            Check.due("keep(" + slot + ") of a new object", x.keep(slot), 0);
            Check.due("the other one is empty", x.again(1 - slot), STATE);
            Check.due("again(" + slot + ")", x.again(slot), 0);
        }
        SpoonfulMore x = new SpoonfulMore();
        x.day();
        x.keep(0);
        x.day();
        x.keep(1);
        Check.due("again(0)", x.again(0), 1);
        Check.due("again(1)", x.again(1), 2);
    }

    /** "They are kept: THE DAY". */
    private static void keepTellsTheDay() {
        SpoonfulMore x = new SpoonfulMore();
        for (int day = 0; day < 20; day++) {
            Check.due("keep", x.keep(day % 2), day);
            x.day();
        }
        Check.due("again(0)", x.again(0), 18);
        Check.due("again(1)", x.again(1), 19);
    }

    /** Keeping does not even empty the row of acts. */
    private static void keepChangesTheSlotAlone() {
        Twin.same("keep twice", x -> {
            Twin.busy(x);
            x.keep(0);
        }, x -> {
            Twin.busy(x);
            x.keep(0);
            x.keep(0);
        });
        SpoonfulMore x = Twin.after(Twin::busy);
        x.keep(0);
        Check.due("acts", x.count(5), 7);
        Check.due("undo", x.undo(), 6);
        Check.due("what is kept is not undone", x.again(0), 3);
    }

    /** "STATE: none were kept". */
    private static void noneWereKept() {
        for (int slot = 0; slot <= 1; slot++) {
            int one = slot;
            Twin.refused("again(" + one + ") of a new object", x -> { }, x -> x.again(one), STATE);
            Twin.refused("again(" + one + "), the other one kept", x -> {
                Twin.tell(x, "V15P40P15K01T000T112");
                x.day();
                x.keep(1 - one);
                x.lend(0, 1);
            }, x -> x.again(one), STATE);
        }
    }

    /** "what was kept is gone". */
    private static void villageDropsWhatWasKept() {
        for (int slot = 0; slot <= 1; slot++) {
            int one = slot;
            Twin.refused("again(" + one + ") behind village", x -> {
                Twin.busy(x);
                x.village();
                x.day();
            }, x -> x.again(one), STATE);
            SpoonfulMore x = Twin.after(Twin::busy);
            x.write(1, 'X');
            x.village();
            Check.due("a village that is refused drops nothing", x.again(one), one + 1);
        }
    }

    /** Thing which of six is kept with that grade, while all are of grade 1 and CAP is lower now. */
    private static Twin.Steps keptAt(int which, int grade, int capThen) {
        return x -> {
            Twin.tell(x, "V09P99P99K01T001T001T001T001T001T001");
            x.lend(which, 1);
            x.back(which, grade - 1);
            x.keep(0);
            x.undo();
            x.law(2, capThen);
            x.day();
        };
    }

    /** "STATE: .. or a GRADE is above CAP". */
    private static void gradeAboveCap() {
        for (int grade = 2; grade <= 9; grade++) {
            for (int which = 0; which < 6; which++) {
                String told = "grade " + grade + " of thing " + which + ", cap ";
                Twin.refused(told + (grade - 1), keptAt(which, grade, grade - 1), x -> x.again(0), STATE);
                SpoonfulMore x = Twin.after(keptAt(which, grade, grade));
                Check.due(told + grade, x.again(0), 0);
                Check.due(told + grade + ", gone on", x.thing(which, 2), grade);
            }
        }
        SpoonfulMore x = Twin.after(keptAt(1, 9, 8));
        Check.due("refused", x.again(0), STATE);
        x.law(2, 9);
        Check.due("it is still kept", x.again(0), 0);
        // Only what is kept counts: things as they are now may be better.
        x = Check.village("V09P99P99K01T000");
        x.keep(0);
        x.lend(0, 1);
        x.back(0, 9);
        Check.due("a lower grade", x.again(0), 0);
        Check.due("the grade", x.thing(0, 2), 0);
        // A thing of an earlier village is not looked at.
        x = Check.village("V09P00T009T009");
        x.keep(0);
        x.wipe();
        Twin.tell(x, "V01P00T001");
        x.keep(0);
        Check.due("the grade of a thing that is there", x.again(0), 0);
    }

    /** "keep COINS, THINGS (GRADES, HOLDERS, how long they were out), THE DAY". */
    private static void asTheyWereKept() {
        Twin.Steps kept = x -> {
            Twin.busy(x);
            x.keep(0);
        };
        Twin.same("again at once is as it was, but for the acts", x -> {
            kept.on(x);
            x.again(0);
        }, x -> {
            kept.on(x);
            Check.due("back", x.back(1, 3), 2 * (3 + 4 + 5));
            Check.due("lend", x.lend(4, 4), 2);
            Check.due("lend", x.lend(2, 0), 2);
            Check.due("back", x.back(5, 1), 4);
            x.day();
            x.day();
            Check.due("again", x.again(0), 3);
        });
        SpoonfulMore x = Twin.after(kept);
        int[][] things = new int[6][7];
        for (int thing = 0; thing < 6; thing++) {
            for (int what = 0; what < 7; what++) {
                things[thing][what] = x.thing(thing, what);
            }
        }
        x.back(1, 3);
        x.day();
        x.again(0);
        for (int thing = 0; thing < 6; thing++) {
            for (int what = 0; what < 7; what++) {
                Check.due("thing(" + thing + ", " + what + ")", x.thing(thing, what), things[thing][what]);
            }
        }
        Check.due("coins", x.count(7), 201);
    }

    /** LAW, CAP, SEEN, THE SEED, THE TEXT are not kept, so they stay. */
    private static void whatIsNotKept() {
        SpoonfulMore x = Twin.after(Twin::busy);
        x.law(3, 9);
        x.see(2, 2, true);
        x.seed(5);
        x.write(1, 'P');
        x.again(1);
        Check.due("law and cap", x.count(10), 39);
        Check.due("seen", x.count(6), 3);
        Check.due("seed", x.seed(0), 5);
        Check.due("text", x.count(0), 25);
        Check.due("people", x.count(1), 5);
        Check.due("needs", x.count(3), 6);
    }

    /** "(THE ROW of ACTS is empty when one goes on)". */
    private static void rowOfActsIsEmpty() {
        SpoonfulMore x = Twin.after(Twin::busy);
        Check.due("acts", x.count(5), 7);
        x.again(1);
        Check.due("no acts", x.count(5), 0);
        Check.due("none to undo", x.undo(), STATE);
        Check.due("the day", x.count(4), 2);
        x.day();
        Check.due("one act", x.count(5), 1);
        Check.due("undone", x.undo(), 0);
        Check.due("the day", x.count(4), 2);
    }

    /** What is kept stays kept, and keeping anew takes its place. */
    private static void againAndAgain() {
        Twin.same("again twice", x -> {
            Twin.busy(x);
            x.again(0);
        }, x -> {
            Twin.busy(x);
            x.again(0);
            x.lend(4, 3);
            x.day();
            x.again(0);
        });
        SpoonfulMore x = Twin.after(Twin::busy);
        x.keep(0);
        Check.due("kept anew", x.again(0), 3);
        Check.due("the other one as before", x.again(1), 2);
    }

    /** "OUTSIDE". */
    private static void countOutside() {
        for (int what : new int[] {-1, 11, 12, Integer.MIN_VALUE, Integer.MAX_VALUE}) {
            Twin.refused("count(" + what + ")", Twin::busy, x -> x.count(what), OUTSIDE);
            Check.due("count(" + what + ") of a new object", new SpoonfulMore().count(what), OUTSIDE);
        }
    }

    private static void countsOfNone() {
        SpoonfulMore x = Check.village("V01");
        x.wipe();
        for (int what = 0; what <= 9; what++) {
            Check.due("count(" + what + ") of nobody", x.count(what), 0);
        }
        Check.due("count(10)", x.count(10), 1);
        x = Check.village("V09P00P00K01T000");
        Check.due("coins of none", x.count(7), 0);
        Check.due("worth of none", x.count(8), 0);
    }

    /** As much of each as there may be. */
    private static void countsOfMost() {
        SpoonfulMore x = Check.village("V39P99P99P99P99P99K01K02K03K04T029T029T029T029T029T029");
        for (int thing = 0; thing < 6; thing++) {
            Check.due("out", x.count(9), thing);
            x.lend(thing, 1);
        }
        for (int day = 0; day < 30; day++) {
            x.day();
        }
        for (int i = 0; i < 6; i++) {
            x.see(1, 1, true);
        }
        x.wipe();
        for (int i = 0; i < 90; i++) {
            x.write(1, 0);
        }
        int[] want = {90, 5, 6, 0, 30, 16, 6, 495, 810, 6, 39};
        for (int what = 0; what <= 10; what++) {
            Check.due("count(" + what + ")", x.count(what), want[what]);
        }
        x = Check.village("V01P00N000N001N002N003N010N011N012N013");
        Check.due("needs", x.count(3), 8);
    }

    /** "NONE is -9", and no other number is told for it. */
    private static void constants() {
        Check.due("UNKNOWN", UNKNOWN, -1);
        Check.due("OUTSIDE", OUTSIDE, -2);
        Check.due("STATE", STATE, -3);
        Check.due("FULL", SpoonfulMore.FULL, -4);
        Check.due("NONE", SpoonfulMore.NONE, -9);
    }
}
