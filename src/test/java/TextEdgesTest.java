/** The edges of promises 1 to 5: a new object, write, wipe, fault, village. Each sentence has a test of its own. */
public final class TextEdgesTest {
    private static final int NONE = SpoonfulMore.NONE, OUTSIDE = SpoonfulMore.OUTSIDE, STATE = SpoonfulMore.STATE,
        FULL = SpoonfulMore.FULL;
    private static final String FIGURES = "0123456789";
    /** 89 bytes: but for one person as much as there may be, and all that four can know. */
    private static final String GREAT =
        "V09P00P00P00P00K01K02K03K12K13K23T000T000T000T000T000T000N000N001N002N003N010N011N012N013";

    public static void main(String[] args) {
        atFirst();
        bytesFromOneToEight();
        lowestBytesHighestFirst();
        ninetyAtMost();
        nothingComesWhenFull();
        wiping();
        head();
        noneOrMoreParts();
        peopleFiveAtMost();
        knowingUnlikeAndToldAhead();
        knowingNoTwoTwice();
        thingsSixAtMost();
        thingsOfOwnerSortGrade();
        needsEightAtMost();
        needsNoneTwice();
        onlyNotAtItsEnd();
        whateverCameBehind();
        lengthSetAside();
        faultChangesNothing();
        villageRefused();
        villageLeastAndGreatest();
        villageBeginsAnew();
        Check.end();
    }

    private static SpoonfulMore written(String text) {
        SpoonfulMore x = new SpoonfulMore();
        Check.write(x, text);
        return x;
    }

    private static void fault(String text, int want) {
        SpoonfulMore x = written(text);
        Check.due("fault() of " + text, x.fault(), want);
        Check.due("village() of " + text + " is refused", x.village() == STATE ? 1 : 0, want == NONE ? 0 : 1);
    }

    /** Of all 256 bytes behind the text these may come, and no other. */
    private static void mayCome(String text, String signs) {
        for (int sign = 0; sign < 256; sign++) {
            SpoonfulMore x = written(text);
            x.write(1, sign);
            int got = x.fault();
            // A sign that may come either ends a part or leaves the text only not at its end.
            boolean fits = got == NONE || got == text.length() + 1;
            String told = "byte " + sign + " behind " + text;
            Check.due(told + " may come", fits ? 1 : 0, signs.indexOf((char) sign) >= 0 ? 1 : 0);
            Check.due(told + ", fault()", fits ? text.length() : got, text.length());
        }
    }

    /** "Nobody, nothing"; "At first THE VILLAGE is V01. THE DAY is 0 at first"; "THE SEED, a long; 0 at first". */
    private static void atFirst() {
        SpoonfulMore x = new SpoonfulMore();
        for (int what = 0; what <= 9; what++) {
            Check.due("new: count(" + what + ")", x.count(what), 0);
        }
        Check.due("new: LAW 0, CAP 1", x.count(10), 1);
        Check.due("new: seed", x.seed(0), 0);
        Check.due("new: nobody", x.person(0, 0), SpoonfulMore.UNKNOWN);
        Check.due("new: nothing", x.thing(0, 0), SpoonfulMore.UNKNOWN);
        Check.due("new: nothing to undo", x.undo(), STATE);
        Check.due("new: nothing kept in 0", x.again(0), STATE);
        Check.due("new: nothing kept in 1", x.again(1), STATE);
        Check.due("new: nothing seen", x.unsee(), 0);
        Check.due("new: no text", x.wipe(), 0);
        Twin.same("a new object is V01", y -> { }, y -> {
            Twin.tell(y, "V01");
            y.wipe();
        });
    }

    /** "n bytes (1 to 8) of v"; "OUTSIDE". */
    private static void bytesFromOneToEight() {
        for (int n : new int[] {0, 9, -1, 10, 16, 64, Integer.MIN_VALUE, Integer.MAX_VALUE}) {
            Twin.refused("write(" + n + ", ..)", Twin::busy, x -> x.write(n, 'P'), OUTSIDE);
            Twin.refused("write(" + n + ", ..) ahead of all", x -> { }, x -> x.write(n, 'V'), OUTSIDE);
        }
        for (int n = 1; n <= 8; n++) {
            Check.due("write(" + n + ", ..)", new SpoonfulMore().write(n, 'V'), n);
        }
    }

    /** "the lowest n, the highest of these first, come behind THE TEXT: how long it is". */
    private static void lowestBytesHighestFirst() {
        String text = "V39P98P76K10T129T013N103N012";
        for (int size = 1; size <= 8; size++) {
            int n = size;
            Twin.same("bytes by " + n, x -> Twin.tell(x, text), x -> {
                for (int from = 0; from < text.length(); from += n) {
                    int now = Math.min(n, text.length() - from);
                    // Ones in the bytes above the lowest, which are not to come.
                    long v = -1L;
                    for (int i = 0; i < now; i++) {
                        v = v << 8 | text.charAt(from + i);
                    }
                    Check.due("how long by " + n, x.write(now, v), from + now);
                }
                Check.due("village by " + n, x.village(), 22);
            });
        }
        SpoonfulMore y = written("V01");
        Check.due("a byte of ones", y.write(1, -1L), 4);
        Check.due("is no part", y.fault(), 3);
        Check.due("zeros are bytes too", new SpoonfulMore().write(8, 0L), 8);
        // The highest of eight bytes is the first one, also if it has the sign's bit.
        y = new SpoonfulMore();
        y.write(8, 0xd630315030305030L);
        Check.due("V with the upper bit is no V", y.fault(), 0);
    }

    /** "bytes (90 at most)"; "FULL: it would be longer than 90". */
    private static void ninetyAtMost() {
        for (int n = 1; n <= 8; n++) {
            SpoonfulMore x = new SpoonfulMore();
            fill(x, 90 - n);
            Check.due("write(" + n + ") up to 90", x.write(n, 0), 90);
            Check.due("90 bytes", x.count(0), 90);
            for (int more = 1; more <= 8; more++) {
                Check.due("write(" + more + ") beyond 90", x.write(more, 0), FULL);
            }
            Check.due("still 90", x.wipe(), 90);
            fill(x, 91 - n);
            Check.due("write(" + n + ") up to 91", x.write(n, 0), FULL);
            Check.due("nothing comes", x.count(0), 91 - n);
            Check.due("a byte less is room enough", n == 1 ? 90 : x.write(n - 1, 0), 90);
        }
        Check.due("OUTSIDE ahead of FULL", new SpoonfulMore().write(0, 0), OUTSIDE);
        SpoonfulMore y = new SpoonfulMore();
        fill(y, 90);
        Check.due("OUTSIDE ahead of FULL, too few", y.write(0, 0), OUTSIDE);
        Check.due("OUTSIDE ahead of FULL, too many", y.write(9, 0), OUTSIDE);
    }

    private static void fill(SpoonfulMore x, int bytes) {
        for (int i = 0; i < bytes; i++) {
            x.write(1, ' ');
        }
    }

    /** "FULL: .. (nothing comes)": neither the bytes that there would be room for, nor others. */
    private static void nothingComesWhenFull() {
        Twin.refused("write(2, ..) behind 89", x -> Check.write(x, GREAT), x -> x.write(2, 0x5030L), FULL);
        Twin.refused("write(8, ..) behind 89", x -> Check.write(x, GREAT), x -> x.write(8, -1L), FULL);
        Twin.refused("write(1, ..) behind 90", x -> Check.write(x, GREAT + "P"), x -> x.write(1, '0'), FULL);
        SpoonfulMore x = written(GREAT);
        x.write(2, 0x5030L);
        Check.due("it is still a village", x.village(), 46);
    }

    /** "THE TEXT is empty: how long it was". */
    private static void wiping() {
        SpoonfulMore x = new SpoonfulMore();
        Check.due("wipe of none", x.wipe(), 0);
        x.write(1, 'V');
        Check.due("wipe of one", x.wipe(), 1);
        Check.due("fault of the wiped text", x.fault(), 0);
        Check.due("count of the wiped text", x.count(0), 0);
        Check.write(x, GREAT + "K");
        Check.due("wipe of 90", x.wipe(), 90);
        Check.due("wipe again", x.wipe(), 0);
        Check.due("room for all again", Check.write(x, GREAT + "K"), 90);
        Twin.same("what was wiped is gone, all else stays", Twin::busy, y -> {
            Twin.busy(y);
            y.write(8, -1L);
            y.wipe();
            Check.write(y, "V27P11P22K01T105T014N001");
        });
    }

    /** "V, then two figures: LAW (0 to 3), CAP (1 to 9)". */
    private static void head() {
        fault("", 0);
        mayCome("", "V");
        mayCome("V", "0123");
        for (int law = 0; law <= 3; law++) {
            mayCome("V" + law, "123456789");
            for (int cap = 1; cap <= 9; cap++) {
                fault("V" + law + cap, NONE);
                SpoonfulMore x = Check.village("V" + law + cap);
                Check.due("law and cap", x.count(10), 10 * law + cap);
            }
        }
    }

    /** "then PARTS, none or more"; without people there is nobody to know, own or need. */
    private static void noneOrMoreParts() {
        mayCome("V01", "P");
        mayCome("V39", "P");
        mayCome("V01P00", "PTN");
        mayCome("V01P00P00", "PKTN");
        mayCome("V01P00P00K01", "PTN");
        mayCome("V01P00T000", "PTN");
        mayCome("V01P00N000", "PTN");
    }

    /** "a PERSON (5 at most, numbered as they are told) with cc COINS (two figures)". */
    private static void peopleFiveAtMost() {
        mayCome("V01P", FIGURES);
        mayCome("V01P0", FIGURES);
        mayCome("V01P9", FIGURES);
        mayCome("V01P00P00P00P00", "PKTN");
        mayCome("V01P00P00P00P00P00", "KTN");
        fault("V01P00P00P00P00P00P", 18);
        fault("V01P00P00P00P00P00P00", 18);
        SpoonfulMore x = Check.village("V01P00P99P09P90P10");
        int[] coins = {0, 99, 9, 90, 10};
        for (int person = 0; person < 5; person++) {
            Check.due("coins of " + person, x.person(person, 0), coins[person]);
        }
    }

    /** "PERSONS i and j KNOW each other (unlike, told ahead". */
    private static void knowingUnlikeAndToldAhead() {
        fault("V01K", 3);
        fault("V01P00K", 6);
        mayCome("V01P00P00K", "01");
        mayCome("V01P00P00K0", "1");
        mayCome("V01P00P00K1", "0");
        mayCome("V01P00P00P00P00P00K", "01234");
        mayCome("V01P00P00P00P00P00K0", "1234");
        mayCome("V01P00P00P00P00P00K2", "0134");
        mayCome("V01P00P00P00P00P00K4", "0123");
        fault("V01P00P00K02P00", 11);
        fault("V01P00P00P00K02", NONE);
        SpoonfulMore x = Check.village("V01P00P00P00K20");
        Check.due("0 knows 2", x.person(0, 1), 4);
        Check.due("1 knows nobody", x.person(1, 1), 0);
        Check.due("2 knows 0", x.person(2, 1), 1);
    }

    /** "no two twice, in whichever order)". */
    private static void knowingNoTwoTwice() {
        fault("V01P00P00K01K", 12);
        fault("V01P00P00K10K", 12);
        for (String two : new String[] {"K01", "K10"}) {
            mayCome("V01P00P00P00" + two, "PKTN");
            mayCome("V01P00P00P00" + two + "K", "012");
            mayCome("V01P00P00P00" + two + "K0", "2");
            mayCome("V01P00P00P00" + two + "K1", "2");
            mayCome("V01P00P00P00" + two + "K2", "01");
            mayCome("V01P00P00P00" + two + "K02K", "12");
            mayCome("V01P00P00P00" + two + "K20K1", "2");
            mayCome("V01P00P00P00" + two + "K20K12", "PTN");
        }
        String all = "V01P00P00P00P00P00K01K02K03K04K12K13K14K23K24";
        mayCome(all, "KTN");
        mayCome(all + "K", "34");
        mayCome(all + "K3", "4");
        mayCome(all + "K4", "3");
        mayCome(all + "K43", "TN");
        // One more person can be known by all again.
        mayCome("V01P00P00K01P00", "PKTN");
        mayCome("V01P00P00K01P00K", "012");
        mayCome("V01P00P00K01P00K0", "2");
    }

    /** "a THING (6 at most, likewise)". */
    private static void thingsSixAtMost() {
        mayCome("V01P00T000T000T000T000T000", "PTN");
        mayCome("V01P00T000T000T000T000T000T000", "PN");
        fault("V01P00T000T000T000T000T000T000T", 30);
        fault("V01P00T000T000T000T000T000T000T000", 30);
        SpoonfulMore x = Check.village("V09P00P00T021T112T003T114T025T106");
        int[] sorts = {2, 1, 0, 1, 2, 0};
        for (int thing = 0; thing < 6; thing++) {
            Check.due("owner of " + thing, x.thing(thing, 0), thing % 2);
            Check.due("sort of " + thing, x.thing(thing, 1), sorts[thing]);
            Check.due("grade of " + thing, x.thing(thing, 2), thing + 1);
        }
    }

    /** "of OWNER o (told ahead), SORT s (0 to 2), GRADE g (0 to CAP)". */
    private static void thingsOfOwnerSortGrade() {
        fault("V01T", 3);
        mayCome("V01P00T", "0");
        mayCome("V01P00P00P00T", "012");
        mayCome("V01P00P00P00P00P00T", "01234");
        mayCome("V01P00T0", "012");
        fault("V01P00T100P00", 7);
        for (int cap = 1; cap <= 9; cap++) {
            mayCome("V0" + cap + "P00T00", FIGURES.substring(0, cap + 1));
            mayCome("V3" + cap + "P00T02", FIGURES.substring(0, cap + 1));
        }
    }

    /** "a NEED (8 at most): PERSON p (told ahead) needs a THING of SORT s on DAY d (0 to 3". */
    private static void needsEightAtMost() {
        fault("V01N", 3);
        mayCome("V01P00N", "0");
        mayCome("V01P00P00P00N", "012");
        mayCome("V01P00P00P00P00P00N", "01234");
        mayCome("V01P00N0", "012");
        mayCome("V01P00N00", "0123");
        mayCome("V01P00N02", "0123");
        fault("V01P00N100P00", 7);
        String seven = "V01P00N000N001N002N003N010N011N012";
        mayCome(seven, "PTN");
        mayCome(seven + "N023", "PT");
        fault(seven + "N023N", 38);
        fault(seven + "N023N022", 38);
        Check.due("eight needs", Check.village(seven + "N023").count(3), 8);
    }

    /** "none twice)": the same person, sort and day. */
    private static void needsNoneTwice() {
        fault("V01P00N000N000", 13);
        mayCome("V01P00N000N00", "123");
        mayCome("V01P00N003N00", "012");
        mayCome("V01P00N001N000N003N00", "2");
        mayCome("V01P00N001N000N003N01", "0123");
        mayCome("V01P00N001N000N003N002N0", "12");
        mayCome("V01P00N021N020N023N022N0", "01");
        mayCome("V01P00N011N010N013N022N0", "012");
        mayCome("V01P00P00N001N000N003N002N", "01");
        mayCome("V01P00P00N001N000N003N002N1", "012");
        mayCome("V01P00P00N001N000N003N002N10", "0123");
        mayCome("V01P00N001N000N003N002N011N010N013N0", "12");
        mayCome("V01P00N001N000N003N002N011N010N013N01", "2");
    }

    /** "its length, if it is only not at its end; NONE: none". */
    private static void onlyNotAtItsEnd() {
        int end = 3;
        for (int length = 0; length <= GREAT.length(); length++) {
            char part = end < GREAT.length() ? GREAT.charAt(end) : 'V';
            fault(GREAT.substring(0, length), length == end ? NONE : length);
            end += length < end ? 0 : part == 'P' || part == 'K' ? 3 : 4;
        }
    }

    /** "the place of the first byte by which THE TEXT can be no VILLAGE, whatever came behind it". */
    private static void whateverCameBehind() {
        fault("X", 0);
        fault("XV01", 0);
        fault("V4", 1);
        fault("V41", 1);
        fault("V40P", 1);
        fault("V30", 2);
        fault("V01VP00", 3);
        fault("V01P0XP00", 5);
        fault("V01P00T002T003", 9);
        fault("V01P00P00K01K01K", 12);
        for (int at = 0; at < GREAT.length(); at++) {
            fault(GREAT.substring(0, at) + " " + GREAT.substring(at), at);
        }
    }

    /** "(its length set aside)": a part that 90 bytes have no room for is no fault before it stops. */
    private static void lengthSetAside() {
        Check.due("length", GREAT.length(), 89);
        fault(GREAT + "P", 90);
        fault(GREAT + "K", 89);
        fault(GREAT + "T", 89);
        fault(GREAT + "N", 89);
        String less = GREAT.substring(0, 85);
        fault(less + "N023P", 90);
        fault(less + "P00N", 89);
        fault(less + "P00N0", 90);
        fault(less + "P00K4", 90);
        fault(less + "P00K5", 89);
        fault(less + "P00P", 88);
        fault(less + "P00T", 88);
        String noThing = GREAT.substring(0, 33) + GREAT.substring(57);
        fault(noThing + "P00T000T000T000T000T000T0", 90);
    }

    private static void faultChangesNothing() {
        Twin.same("fault() of a village changes nothing", Twin::busy, x -> {
            Twin.busy(x);
            x.fault();
        });
        Twin.Steps faulty = x -> {
            Twin.busy(x);
            x.wipe();
            Check.write(x, "V38P77P66P55T000T111N000P");
        };
        Twin.same("fault() of another text changes nothing", faulty, x -> {
            faulty.on(x);
            x.fault();
        });
    }

    /** "STATE: a FAULT"; what is refused changes nothing. */
    private static void villageRefused() {
        Twin.refused("village() of nothing", x -> { }, SpoonfulMore::village, STATE);
        String[] texts = {"", "V", "V0", "V38P", "V38P77T000X", "V38P77P66P55T000T111N000N000"};
        for (String text : texts) {
            Twin.refused("village() of " + text, x -> {
                Twin.busy(x);
                x.wipe();
                Check.write(x, text);
            }, SpoonfulMore::village, STATE);
        }
    }

    /** "10 times PEOPLE, and THINGS". */
    private static void villageLeastAndGreatest() {
        Check.due("V01", written("V01").village(), 0);
        Check.due("one person", written("V01P00").village(), 10);
        Check.due("one thing", written("V01P00T000").village(), 11);
        Check.due("five people", written("V01P00P00P00P00P00").village(), 50);
        Check.due("six things", written("V01P00T000T000T000T000T000T000").village(), 16);
        Check.due("all", written("V01P00P00P00P00P00T000T000T000T000T000T000").village(), 56);
    }

    /** "(THE ROW of ACTS is empty, what was kept is gone; SEEN, THE SEED stay)"; the text stays, too. */
    private static void villageBeginsAnew() {
        Twin.same("nothing is left but SEEN and THE SEED", x -> {
            Twin.tell(x, "V01P00P00P00P00P00");
            x.see(1, 1, true);
            x.see(3, 4, false);
            x.seed(77);
            x.wipe();
            Twin.tell(x, "V27P11P22K01T105T014N001");
        }, x -> {
            Twin.busy(x);
            Check.due("village", x.village(), 22);
        });
        SpoonfulMore x = Twin.after(Twin::busy);
        x.village();
        Check.due("no acts", x.undo(), STATE);
        Check.due("slot 0 is gone", x.again(0), STATE);
        Check.due("slot 1 is gone", x.again(1), STATE);
        Check.due("the text stays", x.count(0), 24);
        // Told once more it begins anew, too: the day, the grades, the coins, the holders.
        x.lend(1, 1);
        x.day();
        x.day();
        x.back(1, 3);
        x.lend(0, 0);
        Check.due("village", x.village(), 22);
        Check.due("the day", x.count(4), 0);
        Check.due("no acts", x.count(5), 0);
        Check.due("the grade", x.thing(1, 2), 4);
        Check.due("the coins", x.count(7), 33);
        Check.due("none is out", x.count(9), 0);
        x.wipe();
        Check.write(x, "V01");
        Check.due("nobody again", x.village(), 0);
        Check.due("seen stays, though nobody is there", x.count(6), 2);
        Check.due("seed stays", x.seed(0), 77);
    }
}
