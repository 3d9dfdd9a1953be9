/** The edges of promises 16 to 19: see, unsee, hands, surely. Each sentence has a test of its own. */
public final class HandsEdgesTest {
    private static final int UNKNOWN = SpoonfulMore.UNKNOWN, OUTSIDE = SpoonfulMore.OUTSIDE, FULL = SpoonfulMore.FULL,
        NONE = SpoonfulMore.NONE;
    private static final String ALL_KNOW = "V01P00P00P00P00P00K01K02K03K04K12K13K14K23K24K34T000T400";

    public static void main(String[] args) {
        seeUnknown();
        seeOutside();
        seePlacesWithin();
        sixAtMost();
        unseeing();
        handsUnknown();
        handsOutside();
        rowsOfOneToEight();
        firstKnowsTheOwner();
        eachKnowsTheOneAhead();
        hadItOrNot();
        seenTwiceAtOnePlace();
        surelyNoneNobodyEverybody();
        surelyAtWhicheverPlace();
        seenBeyondTheRow();
        seenOfOneNotThereAnyMore();
        actsAreNotLookedAt();
        Check.end();
    }

    private static void six(SpoonfulMore x) {
        for (int i = 0; i < 6; i++) {
            x.see(8 - i, i % 2, false);
        }
    }

    /** "UNKNOWN: person", ahead of OUTSIDE and FULL. */
    private static void seeUnknown() {
        for (int person : new int[] {-1, 5, 6, 32, Integer.MIN_VALUE, Integer.MAX_VALUE}) {
            for (int t : new int[] {1, 0, 9}) {
                String told = "see(" + t + ", " + person + ", ..)";
                Twin.refused(told, Twin::busy, x -> x.see(t, person, true), UNKNOWN);
                Twin.refused(told + " with six", x -> {
                    Twin.tell(x, ALL_KNOW);
                    six(x);
                }, x -> x.see(t, person, false), UNKNOWN);
            }
        }
        Twin.refused("see(1, 0, ..) of nobody", x -> { }, x -> x.see(1, 0, true), UNKNOWN);
        SpoonfulMore x = Check.village(ALL_KNOW);
        for (int person = 0; person < 5; person++) {
            Check.due("see(1, " + person + ", ..)", x.see(1, person, true), person + 1);
        }
        x = Check.village("V01P00");
        Check.due("the only one", x.see(1, 0, true), 1);
        Check.due("one more", x.see(1, 1, true), UNKNOWN);
    }

    /** "OUTSIDE: t", ahead of FULL; "at place t (1 to 8)". */
    private static void seeOutside() {
        for (int t : new int[] {0, 9, -1, 10, Integer.MIN_VALUE, Integer.MAX_VALUE}) {
            Twin.refused("see(" + t + ", 0, true)", Twin::busy, x -> x.see(t, 0, true), OUTSIDE);
            Twin.refused("see(" + t + ", 0, false)", Twin::busy, x -> x.see(t, 0, false), OUTSIDE);
            Twin.refused("see(" + t + ", 0, ..) with six", x -> {
                Twin.tell(x, ALL_KNOW);
                six(x);
            }, x -> x.see(t, 0, true), OUTSIDE);
        }
    }

    private static void seePlacesWithin() {
        for (int t = 1; t <= 8; t++) {
            SpoonfulMore x = Check.village(ALL_KNOW);
            Check.due("see(" + t + ", 1, true)", x.see(t, 1, true), 1);
            int rows = 1;
            for (int n = 1; n <= 8; n++) {
                rows *= 4;
                Check.due("hands(0, " + n + ") with 1 at " + t, x.hands(0, n), n < t ? rows : withOneAt(t, n));
            }
        }
    }

    /** Rows of n among five that all know each other, from 0 on, with 1 at place t. */
    private static int withOneAt(int t, int n) {
        int atOne = 0;
        int atOthers = 1;
        for (int place = 1; place <= t; place++) {
            int next = atOthers;
            atOthers = 3 * atOthers + 4 * atOne;
            atOne = next;
        }
        return atOne << 2 * (n - t);
    }

    /** "6 such at most"; "FULL: 6". */
    private static void sixAtMost() {
        SpoonfulMore x = Check.village(ALL_KNOW);
        for (int i = 1; i <= 6; i++) {
            Check.due("see number " + i, x.see(2, i % 5, false), i);
            Check.due("count", x.count(6), i);
        }
        Check.due("a seventh", x.see(2, 0, false), FULL);
        Check.due("still six", x.count(6), 6);
        for (boolean had : new boolean[] {true, false}) {
            Twin.refused("a seventh, " + had, y -> {
                Twin.tell(y, ALL_KNOW);
                six(y);
            }, y -> y.see(1, 3, had), FULL);
        }
    }

    /** "Nothing is SEEN: how many there were". */
    private static void unseeing() {
        SpoonfulMore x = Check.village(ALL_KNOW);
        Check.due("none", x.unsee(), 0);
        x.see(1, 0, true);
        Check.due("one", x.unsee(), 1);
        Check.due("none again", x.unsee(), 0);
        Check.due("it is forgotten", x.hands(0, 1), 4);
        six(x);
        Check.due("six", x.unsee(), 6);
        Check.due("room for more", x.see(1, 0, true), 1);
        Check.due("of nobody", new SpoonfulMore().unsee(), 0);
        Twin.same("all else stays", Twin::busy, y -> {
            Twin.busy(y);
            y.unsee();
            y.see(1, 1, true);
            y.see(3, 4, false);
        });
    }

    /** "UNKNOWN". */
    private static void handsUnknown() {
        for (int thing : new int[] {-1, 6, 7, Integer.MIN_VALUE, Integer.MAX_VALUE}) {
            for (int n : new int[] {1, 0, 9}) {
                Twin.refused("hands(" + thing + ", " + n + ")", Twin::busy, x -> x.hands(thing, n), UNKNOWN);
                Twin.refused("surely(" + thing + ", " + n + ")", Twin::busy, x -> x.surely(thing, n), UNKNOWN);
            }
        }
        Check.due("hands of nothing", new SpoonfulMore().hands(0, 1), UNKNOWN);
        Check.due("surely of nothing", new SpoonfulMore().surely(0, 1), UNKNOWN);
        SpoonfulMore x = Check.village(ALL_KNOW);
        Check.due("the last thing", x.hands(1, 1), 4);
        Check.due("one beyond", x.hands(2, 1), UNKNOWN);
        Check.due("one beyond, surely", x.surely(2, 1), UNKNOWN);
    }

    /** "OUTSIDE: n", also if no row fits. */
    private static void handsOutside() {
        for (int n : new int[] {0, 9, -1, 10, Integer.MIN_VALUE, Integer.MAX_VALUE}) {
            Twin.refused("hands(0, " + n + ")", Twin::busy, x -> x.hands(0, n), OUTSIDE);
            Twin.refused("surely(0, " + n + ")", Twin::busy, x -> x.surely(0, n), OUTSIDE);
            Twin.refusedIn("V01P00T000", "surely(0, " + n + ")", x -> x.surely(0, n), OUTSIDE);
        }
    }

    /** "rows of n PERSONS (1 to 8)". */
    private static void rowsOfOneToEight() {
        SpoonfulMore x = Check.village(ALL_KNOW);
        int rows = 1;
        for (int n = 1; n <= 8; n++) {
            rows *= 4;
            Check.due("hands(0, " + n + ")", x.hands(0, n), rows);
            Check.due("hands(1, " + n + ")", x.hands(1, n), rows);
            Check.due("surely(0, " + n + ")", x.surely(0, n), 0);
        }
        x = Check.village("V01P00P00K01T000");
        for (int n = 1; n <= 8; n++) {
            Check.due("to and fro, " + n, x.hands(0, n), 1);
            Check.due("both surely, but for one place", x.surely(0, n), n == 1 ? 2 : 3);
        }
    }

    /** "the first one KNOWS its OWNER". */
    private static void firstKnowsTheOwner() {
        SpoonfulMore x = Check.village("V01P00P00P00K12T000T100T200");
        for (int n = 1; n <= 8; n++) {
            Check.due("whom nobody knows", x.hands(0, n), 0);
            Check.due("whom nobody knows, surely", x.surely(0, n), NONE);
            Check.due("whom one knows", x.hands(1, n), 1);
        }
        Check.due("the owner is not the first", x.surely(1, 1), 4);
        Check.due("but may be the second", x.surely(1, 2), 6);
        Check.due("a village of one", Check.village("V01P00T000").hands(0, 1), 0);
        Check.due("a village of one, surely", Check.village("V01P00T000").surely(0, 8), NONE);
    }

    /** "each KNOWS the one ahead of it". */
    private static void eachKnowsTheOneAhead() {
        SpoonfulMore x = Check.village("V01P00P00P00P00P00K01K12K23K34T000T200");
        for (int n = 1; n <= 8; n++) {
            Check.due("from the end, " + n, x.hands(0, n), pathsFrom(0, n));
            Check.due("from the middle, " + n, x.hands(1, n), pathsFrom(2, n));
        }
    }

    /** Walks of n steps in a chain of five, by trying each. */
    private static int pathsFrom(int person, int n) {
        if (n == 0) {
            return 1;
        }
        return (person > 0 ? pathsFrom(person - 1, n - 1) : 0) + (person < 4 ? pathsFrom(person + 1, n - 1) : 0);
    }

    /** "PERSON p had it, or not". */
    private static void hadItOrNot() {
        SpoonfulMore x = Check.village(ALL_KNOW);
        x.see(1, 1, true);
        Check.due("had it", x.hands(0, 1), 1);
        Check.due("surely", x.surely(0, 1), 2);
        x.unsee();
        x.see(1, 1, false);
        Check.due("had it not", x.hands(0, 1), 3);
        x.see(1, 2, false);
        x.see(1, 3, false);
        Check.due("one is left", x.surely(0, 1), 16);
        x.see(1, 4, false);
        Check.due("none is left", x.hands(0, 1), 0);
        Check.due("none is left, surely", x.surely(0, 1), NONE);
        x.unsee();
        x.see(1, 0, false);
        Check.due("who could not have it, had it not", x.hands(0, 1), 4);
        x.see(1, 0, true);
        Check.due("who could not have it, had it", x.hands(0, 1), 0);
    }

    private static void seenTwiceAtOnePlace() {
        SpoonfulMore x = Check.village(ALL_KNOW);
        x.see(2, 1, true);
        x.see(2, 1, true);
        Check.due("the same twice", x.hands(0, 2), 3);
        x.see(2, 2, false);
        Check.due("and another not", x.hands(0, 2), 3);
        x.see(2, 2, true);
        Check.due("two at one place", x.hands(0, 2), 0);
        x.unsee();
        x.see(1, 1, true);
        x.see(2, 1, true);
        Check.due("one does not know itself", x.hands(0, 2), 0);
        x.unsee();
        x.see(1, 3, true);
        x.see(1, 3, false);
        Check.due("had it and had it not", x.surely(0, 1), NONE);
    }

    /** "who surely had it .. (bits)"; "NONE: no row fits". */
    private static void surelyNoneNobodyEverybody() {
        SpoonfulMore x = Check.village(ALL_KNOW);
        Check.due("nobody", x.surely(0, 8), 0);
        for (int person = 0; person < 5; person++) {
            x.see(person + 1, 4 - person, true);
        }
        Check.due("everybody", x.surely(0, 5), 31);
        Check.due("all but the last", x.surely(0, 4), 30);
        Check.due("the first alone", x.surely(0, 1), 16);
        Check.due("the owner can not be the first", x.surely(1, 5), NONE);
        Check.due("nor in a row of one", x.surely(1, 1), NONE);
    }

    /** "in all rows, at whichever place". */
    private static void surelyAtWhicheverPlace() {
        SpoonfulMore x = Check.village("V01P00P00P00K01K02K12T000");
        x.see(2, 0, false);
        Check.due("1, 2 or 2, 1", x.hands(0, 2), 2);
        Check.due("both, at one place or the other", x.surely(0, 2), 6);
        x = Check.village("V01P00P00P00P00K01K02K13K23T000T300");
        x.see(2, 0, false);
        Check.due("1, 3 or 2, 3", x.surely(0, 2), 8);
        x.see(1, 1, false);
        Check.due("2, 3", x.surely(0, 2), 12);
    }

    /** "(What is SEEN beyond place n .. is not looked at.)". */
    private static void seenBeyondTheRow() {
        for (int t = 1; t <= 8; t++) {
            SpoonfulMore x = Check.village("V01P00P00K01T000");
            // At odd places there is 1: so that 0 had it there can not be.
            x.see(t, t % 2 == 1 ? 0 : 1, true);
            for (int n = 1; n <= 8; n++) {
                Check.due("hands(0, " + n + "), seen at " + t, x.hands(0, n), n < t ? 1 : 0);
                Check.due("surely(0, " + n + "), seen at " + t, x.surely(0, n), n >= t ? NONE : n == 1 ? 2 : 3);
            }
        }
    }

    /** "(What is SEEN .. of one that is not there any more, is not looked at.)". */
    private static void seenOfOneNotThereAnyMore() {
        for (int people = 2; people <= 5; people++) {
            SpoonfulMore x = Check.village("V01P00P00P00P00P00");
            x.see(1, people - 1, true);
            x.see(1, people - 1, true);
            StringBuilder text = new StringBuilder("V01");
            for (int person = 0; person < people; person++) {
                text.append("P00");
            }
            x.wipe();
            Twin.tell(x, text + "K01T000");
            Check.due("the last one of " + people + " is there", x.hands(0, 1), people == 2 ? 1 : 0);
            x.unsee();
            x.wipe();
            Twin.tell(x, "V01P00P00P00P00P00");
            if (people < 5) {
                x.see(1, people, true);
                x.see(2, people, false);
                x.wipe();
                Twin.tell(x, text + "K01T000");
                Check.due("one beyond " + people + " is not looked at", x.hands(0, 2), 1);
                Check.due("nor by surely", x.surely(0, 2), 3);
                Check.due("but stays seen", x.count(6), 2);
                x.wipe();
                Twin.tell(x, text + "P00K01T000");
                Check.due("and is looked at when it is there again", x.hands(0, 1), 0);
            }
        }
    }

    /** Rows begin at the OWNER, wherever the THING is. */
    private static void actsAreNotLookedAt() {
        SpoonfulMore x = Check.village("V01P00P00P00K01K12T000");
        x.lend(0, 1);
        x.day();
        Check.due("hands", x.hands(0, 1), 1);
        Check.due("surely", x.surely(0, 1), 2);
    }
}
