/** Promises 23 to 25: keep, again, count. */
public final class SlotsTest {
    public static void main(String[] args) {
        wrongInputs();
        keptAndGoneOn();
        above();
        counts();
        Check.end();
    }

    private static void wrongInputs() {
        SpoonfulMore x = Check.village("V11P09P09K01T000");
        Check.due("keep(-1)", x.keep(-1), SpoonfulMore.UNKNOWN);
        Check.due("keep(2)", x.keep(2), SpoonfulMore.UNKNOWN);
        Check.due("again(-1)", x.again(-1), SpoonfulMore.UNKNOWN);
        Check.due("again(2)", x.again(2), SpoonfulMore.UNKNOWN);
        Check.due("again(0)", x.again(0), SpoonfulMore.STATE);
        Check.due("again(1)", x.again(1), SpoonfulMore.STATE);
        x.day();
        Check.due("keep(1)", x.keep(1), 1);
        Check.due("the other slot", x.again(0), SpoonfulMore.STATE);
        Check.due("a refusal leaves the acts", x.count(5), 1);
    }

    private static void keptAndGoneOn() {
        SpoonfulMore x = Check.village("V19P50P60K01T002T111");
        x.lend(0, 1);
        x.day();
        x.day();
        x.day();
        Check.due("keep", x.keep(0), 3);
        Check.due("keeping leaves the acts", x.count(5), 4);
        Check.due("back", x.back(0, 2), 3 + 4);
        x.lend(1, 0);
        x.day();
        Check.due("keep", x.keep(1), 4);
        Check.due("law is not kept", x.law(2, 8), 19);
        Check.due("again", x.again(0), 3);
        Check.due("law", x.count(10), 28);
        Check.due("no acts", x.count(5), 0);
        Check.due("nothing to undo", x.undo(), SpoonfulMore.STATE);
        Check.due("day", x.count(4), 3);
        Check.due("coins", x.person(1, 0), 60);
        Check.due("grade", x.thing(0, 2), 2);
        Check.due("holder", x.thing(0, 3), 1);
        Check.due("days out", x.thing(0, 6), 3);
        Check.due("the other one", x.thing(1, 3), 1);
        x.day();
        Check.due("again", x.again(1), 4);
        Check.due("coins", x.person(1, 0), 53);
        Check.due("grade", x.thing(0, 2), 4);
        Check.due("holder", x.thing(0, 3), 0);
        Check.due("days out", x.thing(0, 6), 0);
        Check.due("the other one", x.thing(1, 3), 0);
        Check.due("its days", x.thing(1, 6), 1);
        x.day();
        Check.due("undo goes on from there", x.undo(), 0);
        Check.due("keep over what was kept", x.keep(0), 4);
        Check.due("again", x.again(0), 4);
    }

    private static void above() {
        SpoonfulMore x = Check.village("V09P99P99K01T005");
        x.lend(0, 1);
        x.keep(1);
        x.back(0, 3);
        x.keep(0);
        x.undo();
        x.law(1, 7);
        x.day();
        Check.due("a grade above cap", x.again(0), SpoonfulMore.STATE);
        Check.due("nothing changed", x.thing(0, 3) * 100 + x.thing(0, 2) * 10 + x.count(4), 151);
        Check.due("acts stay", x.count(5), 2);
        Check.due("not that one", x.again(1), 0);
        x.law(1, 8);
        Check.due("just the cap", x.again(0), 0);
        Check.due("grade", x.thing(0, 2), 8);
    }

    private static void counts() {
        SpoonfulMore x = Check.village("V27P10P20P30K01K12T001T112N000N100N213");
        x.lend(0, 1);
        x.day();
        x.see(1, 1, false);
        long[] want = {38, 3, 2, 3, 1, 2, 1, 60, 7, 1, 27};
        for (int what = 0; what < want.length; what++) {
            Check.due("count(" + what + ")", x.count(what), want[what]);
        }
        Check.due("count(-1)", x.count(-1), SpoonfulMore.OUTSIDE);
        Check.due("count(11)", x.count(11), SpoonfulMore.OUTSIDE);
        x.back(0, 3);
        Check.due("coins", x.count(7), 60 - 2 - 3 - 4);
        Check.due("worth", x.count(8), 7 + 2 + 3 + 4);
        Check.due("out", x.count(9), 0);
    }
}
