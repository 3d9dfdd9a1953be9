/** Promises 9 to 12: lend, back, day, undo. */
public final class ActsTest {
    public static void main(String[] args) {
        lending();
        givingBack();
        holderPays();
        undoing();
        forgetting();
        forgettingActsOfAllKinds();
        Check.end();
    }

    private static void lending() {
        SpoonfulMore x = Check.village("V15P20P05P99K01T000T012T100T200");
        Check.due("lend(4, 0)", x.lend(4, 0), SpoonfulMore.UNKNOWN);
        Check.due("lend(-1, 0)", x.lend(-1, 0), SpoonfulMore.UNKNOWN);
        Check.due("lend(0, 3)", x.lend(0, 3), SpoonfulMore.UNKNOWN);
        Check.due("lend(0, -1)", x.lend(0, -1), SpoonfulMore.UNKNOWN);
        Check.due("to its owner", x.lend(0, 0), SpoonfulMore.OUTSIDE);
        Check.due("to a stranger", x.lend(0, 2), SpoonfulMore.STATE);
        Check.due("nothing changed", x.count(5) + x.count(9), 0);
        Check.due("lend", x.lend(0, 1), 2);
        Check.due("lend", x.lend(1, 1), 3);
        Check.due("lend to who has lent", x.lend(2, 0), 1);
        Check.due("lent already", x.lend(0, 1), SpoonfulMore.STATE);
        Check.due("OUTSIDE ahead of STATE", x.lend(0, 0), SpoonfulMore.OUTSIDE);
        Check.due("holder can not lend it on", x.lend(0, 2), SpoonfulMore.STATE);
        Check.due("out", x.count(9), 3);
        Check.due("acts", x.count(5), 3);
    }

    private static void givingBack() {
        SpoonfulMore x = Check.village("V15P99P99K01T002T010");
        Check.due("back of none", x.back(2, 0), SpoonfulMore.UNKNOWN);
        Check.due("back(-1, 10)", x.back(-1, 10), SpoonfulMore.UNKNOWN);
        Check.due("at its owner", x.back(0, 1), SpoonfulMore.STATE);
        Check.due("OUTSIDE ahead of STATE", x.back(0, 10), SpoonfulMore.OUTSIDE);
        x.lend(0, 1);
        Check.due("back(0, -1)", x.back(0, -1), SpoonfulMore.OUTSIDE);
        Check.due("fewer than are due", x.back(0, 0), SpoonfulMore.STATE);
        Check.due("beyond cap", x.back(0, 4), SpoonfulMore.STATE);
        Check.due("just the cap", x.back(0, 3), 3 + 4 + 5);
        Check.due("holder paid", x.person(1, 0), 99 - 12);
        Check.due("owner got none", x.person(0, 0), 99);
        Check.due("grade", x.thing(0, 2), 5);
        Check.due("holder", x.thing(0, 3), 0);
        Check.due("days out", x.thing(0, 6), 0);
        x.lend(0, 1);
        Check.due("at cap nothing is due", x.back(0, 0), 0);
        x.lend(1, 1);
        x.day();
        Check.due("due after a day", x.thing(1, 5), 1);
        x.day();
        Check.due("fewer than are due after two days", x.back(1, 1), SpoonfulMore.STATE);
        Check.due("as many as are due", x.back(1, 2), 2 + 4);
        x.lend(1, 1);
        Check.due("days begin anew", x.thing(1, 6), 0);
    }

    private static void holderPays() {
        SpoonfulMore x = Check.village("V09P00P14P02K01K02T020T000");
        x.lend(0, 1);
        x.lend(1, 2);
        Check.due("dearer than the coins", x.back(0, 3), SpoonfulMore.STATE);
        Check.due("within the coins", x.back(0, 2), 3 + 6);
        Check.due("dearer than the coins", x.back(1, 2), SpoonfulMore.STATE);
        Check.due("just the coins", x.back(1, 1), 1);
        x.lend(1, 2);
        Check.due("dearer than what is left", x.back(1, 1), SpoonfulMore.STATE);
        Check.due("for nothing", x.back(1, 0), 0);
        Check.due("left", x.person(1, 0) * 100 + x.person(2, 0), 501);
        SpoonfulMore y = Check.village("V09P00P45K01T000");
        y.lend(0, 1);
        Check.due("all the coins", y.back(0, 9), 45);
        Check.due("none left", y.person(1, 0), 0);
    }

    private static void undoing() {
        SpoonfulMore x = Check.village("V19P50P60K01T002T111");
        Check.due("undo", x.undo(), SpoonfulMore.STATE);
        Check.due("day", x.day(), 1);
        x.lend(0, 1);
        x.day();
        x.lend(1, 0);
        x.day();
        x.day();
        Check.due("back", x.back(0, 4), 3 + 4 + 5 + 6);
        Check.due("day", x.day(), 5);
        Check.due("undo a day", x.undo(), 7);
        Check.due("day", x.count(4), 4);
        Check.due("days out", x.thing(1, 6), 2);
        Check.due("days out of one that is back", x.thing(0, 6), 0);
        Check.due("undo a back", x.undo(), 6);
        Check.due("coins", x.person(1, 0), 60);
        Check.due("grade", x.thing(0, 2), 2);
        Check.due("holder", x.thing(0, 3), 1);
        Check.due("days out", x.thing(0, 6), 3);
        Check.due("due", x.thing(0, 5), 2);
        x.undo();
        x.undo();
        Check.due("days out", x.thing(0, 6), 1);
        Check.due("undo a lending", x.undo(), 3);
        Check.due("at its owner", x.thing(1, 3), 1);
        Check.due("out", x.count(9), 1);
        x.undo();
        x.undo();
        Check.due("last one", x.undo(), 0);
        Check.due("none", x.undo(), SpoonfulMore.STATE);
        Check.due("day", x.count(4), 0);
        Check.due("out", x.count(9), 0);
    }

    private static void forgetting() {
        SpoonfulMore x = Check.village("V19P50P60K01T002");
        x.lend(0, 1);
        for (int day = 1; day <= 20; day++) {
            Check.due("day", x.day(), day);
            Check.due("acts", x.count(5), Math.min(16, day + 1));
        }
        for (int left = 15; left >= 0; left--) {
            Check.due("undo", x.undo(), left);
        }
        Check.due("forgotten", x.undo(), SpoonfulMore.STATE);
        Check.due("day", x.count(4), 4);
        Check.due("days out", x.thing(0, 6), 4);
        Check.due("still out", x.thing(0, 3), 1);
        x.back(0, 3);
        Check.due("acts", x.count(5), 1);
        Check.due("undo", x.undo(), 0);
        Check.due("out again", x.thing(0, 6), 4);
    }

    /** All that an act can change, as one number. */
    private static long moment(SpoonfulMore x) {
        long all = x.count(4);
        for (int person = 0; person < 2; person++) {
            all = all * 131 + x.person(person, 0);
        }
        for (int thing = 0; thing < 2; thing++) {
            all = ((all * 131 + x.thing(thing, 2)) * 131 + x.thing(thing, 3)) * 131 + x.thing(thing, 6);
        }
        return all;
    }

    /** 30 acts and 16 undone are some 500 calls: more would leave what an object promises. */
    private static void forgettingActsOfAllKinds() {
        SpoonfulMore x = Check.village("V09P99P99K01T000T111");
        long[] moments = new long[30];
        for (int act = 0; act < 30; act++) {
            moments[act] = moment(x);
            int thing = act / 5 % 2;
            switch (act % 5) {
                case 0: x.lend(thing, 1 - thing); break;
                case 1: x.day(); break;
                case 2: x.lend(1 - thing, thing); break;
                case 3: Check.due("back", x.back(thing, 1) > 0 ? 1 : 0, 1); break;
                default: Check.due("back", x.back(1 - thing, act % 2) >= 0 ? 1 : 0, 1); break;
            }
            Check.due("acts", x.count(5), Math.min(16, act + 1));
        }
        for (int left = 15; left >= 0; left--) {
            Check.due("undo", x.undo(), left);
            Check.due("as ahead of act " + (14 + left), moment(x), moments[14 + left]);
        }
        Check.due("forgotten", x.undo(), SpoonfulMore.STATE);
    }
}
