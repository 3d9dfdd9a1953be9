/** Promises 16 to 19: see, unsee, hands, surely. */
public final class HandsTest {
    public static void main(String[] args) {
        seeing();
        rows();
        rowsThatFit();
        sureHands();
        notLookedAt();
        Check.end();
    }

    private static void seeing() {
        SpoonfulMore x = Check.village("V01P00P00");
        Check.due("see a stranger", x.see(1, 2, true), SpoonfulMore.UNKNOWN);
        Check.due("see -1", x.see(1, -1, true), SpoonfulMore.UNKNOWN);
        Check.due("UNKNOWN ahead of OUTSIDE", x.see(0, 2, true), SpoonfulMore.UNKNOWN);
        Check.due("place 0", x.see(0, 0, true), SpoonfulMore.OUTSIDE);
        Check.due("place 9", x.see(9, 0, true), SpoonfulMore.OUTSIDE);
        Check.due("none seen", x.count(6), 0);
        for (int i = 1; i <= 6; i++) {
            Check.due("see", x.see(i + 2, 1, i % 2 == 0), i);
        }
        Check.due("a seventh", x.see(1, 1, true), SpoonfulMore.FULL);
        Check.due("OUTSIDE ahead of FULL", x.see(9, 1, true), SpoonfulMore.OUTSIDE);
        Check.due("UNKNOWN ahead of FULL", x.see(1, 5, true), SpoonfulMore.UNKNOWN);
        Check.due("unsee", x.unsee(), 6);
        Check.due("unsee", x.unsee(), 0);
        Check.due("see", x.see(1, 1, true), 1);
    }

    private static void rows() {
        SpoonfulMore x = Check.village("V01P00P00P00P00K01K12T000T300");
        Check.due("hands of none", x.hands(2, 1), SpoonfulMore.UNKNOWN);
        Check.due("hands(-1, 9)", x.hands(-1, 9), SpoonfulMore.UNKNOWN);
        Check.due("n 0", x.hands(0, 0), SpoonfulMore.OUTSIDE);
        Check.due("n 9", x.hands(0, 9), SpoonfulMore.OUTSIDE);
        Check.due("surely of none", x.surely(2, 1), SpoonfulMore.UNKNOWN);
        Check.due("surely n 0", x.surely(0, 0), SpoonfulMore.OUTSIDE);
        Check.due("surely n 9", x.surely(0, 9), SpoonfulMore.OUTSIDE);
        long[] want = {1, 2, 2, 4, 4, 8, 8, 16};
        for (int n = 1; n <= 8; n++) {
            Check.due("hands(0, " + n + ")", x.hands(0, n), want[n - 1]);
            Check.due("whom nobody knows", x.hands(1, n), 0);
            Check.due("whom nobody knows", x.surely(1, n), SpoonfulMore.NONE);
        }
        SpoonfulMore y = Check.village("V01P00P00P00P00P00K01K02K03K04K12K13K14K23K24K34T300");
        Check.due("all know each other", y.hands(0, 8), 65536);
        x.lend(0, 1);
        Check.due("rows begin at the owner", x.hands(0, 1), 1);
        Check.due("at whom it is does not matter", x.surely(0, 1), 2);
    }

    private static void rowsThatFit() {
        SpoonfulMore x = Check.village("V01P00P00P00K01K02K12T000");
        Check.due("two each time", x.hands(0, 3), 8);
        x.see(2, 1, false);
        // 1 first: 2 or 0 are next; 2 first: 0 is next; two each then.
        Check.due("1 not second", x.hands(0, 3), 6);
        x.see(3, 1, true);
        Check.due("1 third", x.hands(0, 3), 3);
        x.see(1, 0, true);
        Check.due("the owner is never first", x.hands(0, 3), 0);
        Check.due("nobody surely", x.surely(0, 3), SpoonfulMore.NONE);
        x.unsee();
        x.see(1, 1, true);
        x.see(1, 2, true);
        Check.due("two at one place", x.hands(0, 1), 0);
        x.unsee();
        x.see(1, 1, true);
        x.see(1, 1, true);
        Check.due("the same twice", x.hands(0, 1), 1);
        x.see(1, 1, false);
        Check.due("had it and had it not", x.hands(0, 1), 0);
    }

    private static void sureHands() {
        SpoonfulMore x = Check.village("V01P00P00P00P00K01K12K23T000");
        Check.due("1 alone knows the owner", x.surely(0, 1), 2);
        Check.due("0 or 2 is next", x.surely(0, 2), 2);
        x.see(3, 3, true);
        Check.due("beyond the row", x.surely(0, 2), 2);
        Check.due("1, 2, 3", x.surely(0, 3), 2 + 4 + 8);
        Check.due("and 2 again", x.surely(0, 4), 2 + 4 + 8);
        x.unsee();
        x.see(2, 2, false);
        Check.due("1, 0, 1", x.surely(0, 3), 1 + 2);
        // At whichever place: 1 is at the first or the second in each row of a ring.
        SpoonfulMore y = Check.village("V01P00P00P00K01K02K12T000");
        Check.due("nobody at one place", y.surely(0, 2), 0);
        y.see(2, 0, false);
        Check.due("1, 2 or 2, 1", y.surely(0, 2), 2 + 4);
    }

    private static void notLookedAt() {
        SpoonfulMore x = Check.village("V01P00P00P00K01K02K12T000");
        x.see(8, 1, true);
        x.see(1, 2, true);
        Check.due("beyond n", x.hands(0, 7), 64);
        Check.due("up to n", x.hands(0, 8), 43);
        x.wipe();
        Check.write(x, "V01P00P00K01T000");
        x.village();
        Check.due("seen stays", x.count(6), 2);
        Check.due("one is not there any more", x.hands(0, 1), 1);
        Check.due("one is not there any more", x.surely(0, 1), 2);
        Check.due("the other still is", x.hands(0, 8), 0);
        x.wipe();
        Check.write(x, "V01P00P00P00P00K03K02T000");
        x.village();
        Check.due("and is again", x.hands(0, 1), 1);
        Check.due("and is again", x.surely(0, 1), 4);
    }
}
