/** The edges of promises 9 to 12: lend, back, day, undo. Each sentence has a test of its own. */
public final class ActsEdgesTest {
    private static final int UNKNOWN = SpoonfulMore.UNKNOWN, OUTSIDE = SpoonfulMore.OUTSIDE,
        STATE = SpoonfulMore.STATE;
    private static final int[] NO_NUMBERS = {-1, 6, 7, Integer.MIN_VALUE, Integer.MAX_VALUE};

    public static void main(String[] args) {
        busyIsBusy();
        lendUnknown();
        lendToItsOwner();
        lendWhatIsNotAtItsOwner();
        lendToAStranger();
        lendHowMany();
        backUnknown();
        backOutside();
        backAtItsOwner();
        backFewerThanDue();
        backBeyondCap();
        backDearerThanCoins();
        backAllCosts();
        backZeroAndNine();
        holderPays();
        days();
        undoNone();
        undoEach();
        sixteenActs();
        sixteenActsOfAllKinds();
        refusedIsNoAct();
        Check.end();
    }

    /** The state that refusals are tried in: each of its calls is taken. */
    private static void busyIsBusy() {
        SpoonfulMore x = Twin.after(Twin::busy);
        int worth = 3 + 2 * 3 + 3 * 15 + 6 + 2;
        int[] want = {24, 5, 6, 6, 3, 7, 2, 201, worth, 2, 15};
        for (int what = 0; what < want.length; what++) {
            Check.due("busy: count(" + what + ")", x.count(what), want[what]);
        }
        Check.due("busy: slot 0", x.again(0), 1);
        Check.due("busy: slot 1", x.again(1), 2);
    }

    /** "UNKNOWN: thing, person". */
    private static void lendUnknown() {
        for (int no : NO_NUMBERS) {
            Twin.refused("lend(" + no + ", 1)", Twin::busy, x -> x.lend(no, 1), UNKNOWN);
            Twin.refused("lend(2, " + no + ")", Twin::busy, x -> x.lend(2, no), UNKNOWN);
            Twin.refused("lend(" + no + ", " + no + ")", Twin::busy, x -> x.lend(no, no), UNKNOWN);
            Twin.refused("UNKNOWN ahead of STATE: lend(1, " + no + ")", Twin::busy, x -> x.lend(1, no), UNKNOWN);
        }
        Twin.refused("lend(2, 5)", Twin::busy, x -> x.lend(2, 5), UNKNOWN);
        Twin.refused("lend(0, 0) of nobody", x -> { }, x -> x.lend(0, 0), UNKNOWN);
        Twin.refusedIn("V01P00P00K01", "lend(0, 1) without things", x -> x.lend(0, 1), UNKNOWN);
        SpoonfulMore x = Check.village("V01P00P00P00P00P00K04T000T000T000T000T000T000");
        Check.due("the last thing, the last person", x.lend(5, 4), 1);
        Check.due("the first thing", x.lend(0, 4), 2);
        x = Check.village("V01P00P00P00P00P00K04T000T000T000T000T000T400");
        Check.due("the first person", x.lend(5, 0), 6);
    }

    /** "OUTSIDE: it is its OWNER". */
    private static void lendToItsOwner() {
        Twin.refused("at it", Twin::busy, x -> x.lend(2, 2), OUTSIDE);
        Twin.refused("ahead of STATE: it is out", Twin::busy, x -> x.lend(1, 1), OUTSIDE);
        Twin.refusedIn("V01P00T000", "who knows nobody", x -> x.lend(0, 0), OUTSIDE);
    }

    /** "STATE: it is not at its OWNER". */
    private static void lendWhatIsNotAtItsOwner() {
        Twin.Steps out = x -> {
            Twin.tell(x, "V09P99P99P99K01K02K12T000");
            x.lend(0, 1);
        };
        Twin.refused("to its holder", out, x -> x.lend(0, 1), STATE);
        Twin.refused("to another one", out, x -> x.lend(0, 2), STATE);
        SpoonfulMore x = Twin.after(out);
        x.back(0, 0);
        Check.due("back at its owner", x.lend(0, 2), 1);
        x.undo();
        Check.due("lending undone", x.lend(0, 1), 1);
    }

    /** "or they do not KNOW each other". */
    private static void lendToAStranger() {
        String village = "V09P99P99P99P99P99K01K12K23K34T000T100T200T300T400";
        for (int owner = 0; owner < 5; owner++) {
            for (int person = 0; person < 5; person++) {
                int thing = owner;
                int to = person;
                if (Math.abs(owner - person) > 1) {
                    Twin.refusedIn(village, "lend(" + thing + ", " + to + ")", x -> x.lend(thing, to), STATE);
                } else if (owner != person) {
                    Check.due("lend(" + thing + ", " + to + ")", Check.village(village).lend(thing, to), 2);
                }
            }
        }
        Twin.refusedIn("V09P99P99T000", "nobody knows anybody", x -> x.lend(0, 1), STATE);
        Twin.refused("one that knows only the holder", x -> {
            Twin.tell(x, "V09P99P99P99K01K12T000");
            x.lend(0, 1);
        }, x -> x.lend(0, 2), STATE);
    }

    /** "how many THINGS that one holds": from 1 to all six. */
    private static void lendHowMany() {
        SpoonfulMore x = Check.village("V09P00P00K01T000T000T000T000T000T000");
        for (int thing = 0; thing < 6; thing++) {
            Check.due("lend(" + thing + ", 1)", x.lend(thing, 1), thing + 1);
        }
        x = Check.village("V09P00P00P00K01K12T100T000T000T200");
        Check.due("its own is held, too", x.lend(1, 1), 2);
        x.lend(0, 2);
        Check.due("but not what it has lent itself", x.lend(2, 1), 2);
    }

    /** "UNKNOWN". */
    private static void backUnknown() {
        for (int no : NO_NUMBERS) {
            Twin.refused("back(" + no + ", 1)", Twin::busy, x -> x.back(no, 1), UNKNOWN);
            Twin.refused("UNKNOWN ahead of OUTSIDE: back(" + no + ", 10)", Twin::busy, x -> x.back(no, 10), UNKNOWN);
        }
        Twin.refused("back(0, 0) of nothing", x -> { }, x -> x.back(0, 0), UNKNOWN);
    }

    /** "OUTSIDE: k"; "k BETTERMENTS (0 to 9)". */
    private static void backOutside() {
        for (int k : new int[] {-1, 10, Integer.MIN_VALUE, Integer.MAX_VALUE}) {
            Twin.refused("back(1, " + k + ")", Twin::busy, x -> x.back(1, k), OUTSIDE);
            Twin.refused("OUTSIDE ahead of STATE: back(2, " + k + ")", Twin::busy, x -> x.back(2, k), OUTSIDE);
        }
        for (int k : new int[] {0, 9}) {
            Twin.refused("within, but at its owner: back(2, " + k + ")", Twin::busy, x -> x.back(2, k), STATE);
        }
    }

    /** "STATE: it is at its OWNER". */
    private static void backAtItsOwner() {
        for (int k = 0; k <= 9; k++) {
            int times = k;
            Twin.refusedIn("V09P99P99K01T000", "back(0, " + k + ")", x -> x.back(0, times), STATE);
        }
        Twin.refused("back twice", x -> {
            Twin.tell(x, "V09P99P99K01T000");
            x.lend(0, 1);
            x.back(0, 1);
        }, x -> x.back(0, 1), STATE);
        Twin.refused("lending undone", x -> {
            Twin.tell(x, "V09P99P99K01T000");
            x.lend(0, 1);
            x.undo();
        }, x -> x.back(0, 0), STATE);
    }

    private static Twin.Steps lent(String village, int days) {
        return x -> {
            Twin.tell(x, village);
            x.lend(0, 1);
            for (int day = 0; day < days; day++) {
                x.day();
            }
        };
    }

    /** "k is less than are DUE". */
    private static void backFewerThanDue() {
        for (int law = 0; law <= 3; law++) {
            for (int days = 0; days <= 5; days++) {
                Twin.Steps steps = lent("V" + law + "9P00P99K01T000", days);
                int due = law + days / 2;
                if (due > 0) {
                    Twin.refused("one less than " + due, steps, x -> x.back(0, due - 1), STATE);
                }
                Check.due("just " + due, Twin.after(steps).back(0, due), due * (due + 1) / 2);
                Check.due("one more", Twin.after(steps).back(0, due + 1), (due + 1) * (due + 2) / 2);
            }
        }
        Check.due("at CAP none is due", Twin.after(lent("V35P00P99K01T005", 9)).back(0, 0), 0);
        Twin.refused("below CAP one is", lent("V35P00P99K01T004", 9), x -> x.back(0, 0), STATE);
        Check.due("and no more", Twin.after(lent("V35P00P99K01T004", 9)).back(0, 1), 5);
    }

    /** "none beyond CAP". */
    private static void backBeyondCap() {
        for (int cap = 1; cap <= 9; cap++) {
            for (int grade = 0; grade <= cap; grade++) {
                int room = cap - grade;
                Twin.Steps steps = lent("V0" + cap + "P00P99K01T00" + grade, 0);
                int cost = cap * (cap + 1) / 2 - grade * (grade + 1) / 2;
                SpoonfulMore x = Twin.after(steps);
                Check.due("one beyond cap " + cap, x.back(0, room + 1), room + 1 > 9 ? OUTSIDE : STATE);
                Check.due("up to cap " + cap, x.back(0, room), cost);
                Check.due("grade", x.thing(0, 2), cap);
            }
        }
        Twin.refused("one beyond CAP", lent("V05P00P99K01T003", 2), x -> x.back(0, 3), STATE);
        Twin.refused("nine beyond CAP", lent("V05P00P99K01T005", 2), x -> x.back(0, 9), STATE);
        SpoonfulMore x = Twin.after(lent("V09P00P99K01T003", 2));
        x.law(0, 4);
        Check.due("beyond the cap as it is now", x.back(0, 2), STATE);
        x.law(0, 5);
        Check.due("up to it", x.back(0, 2), 9);
    }

    /** "or dearer than its HOLDER's COINS"; "the HOLDER must have the COINS". */
    private static void backDearerThanCoins() {
        int[] coins = {5, 6, 7};
        for (int has : coins) {
            Twin.Steps steps = lent("V09P99P0" + has + "K01T010", 0);
            if (has < 6) {
                Twin.refused("6 of " + has, steps, x -> x.back(0, 2), STATE);
                Check.due("2 of " + has, Twin.after(steps).back(0, 1), 2);
            } else {
                SpoonfulMore x = Twin.after(steps);
                Check.due("6 of " + has, x.back(0, 2), 6);
                Check.due("left", x.person(1, 0), has - 6);
            }
        }
        Twin.refused("1 of none, though the owner is rich", lent("V09P99P00K01T000", 0), x -> x.back(0, 1), STATE);
        Check.due("nothing of none", Twin.after(lent("V09P99P00K01T000", 0)).back(0, 0), 0);
        // What is due and can not be paid: it stays out.
        Twin.refused("due, but dear", lent("V19P99P00K01T000", 0), x -> x.back(0, 1), STATE);
        Twin.refused("affordable, but not due", lent("V19P99P00K01T000", 0), x -> x.back(0, 0), STATE);
    }

    /** "A BETTERMENT of a THING from GRADE g costs (its SORT, and 1) times (g, and 1) COINS". */
    private static void backAllCosts() {
        for (int sort = 0; sort < 3; sort++) {
            for (int grade = 0; grade < 9; grade++) {
                SpoonfulMore x = Twin.after(lent("V09P00P99K01T0" + sort + grade, 0));
                Check.due("a betterment of sort " + sort + " from " + grade, x.back(0, 1), (sort + 1) * (grade + 1));
                Check.due("grade", x.thing(0, 2), grade + 1);
                Check.due("coins", x.person(1, 0), 99 - (sort + 1) * (grade + 1));
            }
        }
    }

    private static void backZeroAndNine() {
        SpoonfulMore x = Twin.after(lent("V09P00P45K01T000", 0));
        Check.due("nine", x.back(0, 9), 45);
        Check.due("grade nine", x.thing(0, 2), 9);
        Check.due("no coins left", x.person(1, 0), 0);
        x.lend(0, 1);
        Check.due("none", x.back(0, 0), 0);
        Check.due("grade nine still", x.thing(0, 2), 9);
        Check.due("dearer by one coin", Twin.after(lent("V09P99P44K01T000", 0)).back(0, 9), STATE);
    }

    private static void holderPays() {
        SpoonfulMore x = Twin.after(lent("V09P10P20K01T022", 1));
        Check.due("back", x.back(0, 1), 9);
        Check.due("the holder paid", x.person(1, 0), 11);
        Check.due("the owner got nothing", x.person(0, 0), 10);
        Check.due("coins of all", x.count(7), 21);
        Check.due("it is at its owner", x.thing(0, 3), 0);
        Check.due("none is out", x.count(9), 0);
    }

    /** "A DAY goes by: THE DAY". */
    private static void days() {
        SpoonfulMore x = new SpoonfulMore();
        for (int day = 1; day <= 200; day++) {
            Check.due("day", x.day(), day);
        }
        Check.due("the day", x.count(4), 200);
        Check.due("acts", x.count(5), 16);
    }

    /** "STATE: there is none". */
    private static void undoNone() {
        Twin.refused("undo of a new object", x -> { }, SpoonfulMore::undo, STATE);
        Twin.refused("undo of all, and one more", x -> {
            Twin.busy(x);
            for (int left = 6; left >= 0; left--) {
                Check.due("undo", x.undo(), left);
            }
        }, SpoonfulMore::undo, STATE);
        Twin.refused("undo behind village", x -> {
            Twin.busy(x);
            x.village();
        }, SpoonfulMore::undo, STATE);
        Twin.refused("undo behind again", x -> {
            Twin.busy(x);
            x.again(0);
        }, SpoonfulMore::undo, STATE);
    }

    /** "The last ACT is undone: how many are left", for each kind of act. */
    private static void undoEach() {
        Twin.Call[] acts = {x -> x.lend(2, 1), x -> x.back(1, 2), x -> x.back(1, 3), x -> x.day(), x -> x.back(5, 1)};
        for (int i = 0; i < acts.length; i++) {
            Twin.Call act = acts[i];
            Twin.same("act " + i + ", undone", Twin::busy, x -> {
                Twin.busy(x);
                Check.due("act is taken", act.on(x) >= 0 ? 1 : 0, 1);
                Check.due("undo", x.undo(), 7);
            });
        }
        SpoonfulMore x = new SpoonfulMore();
        x.day();
        Check.due("the only one", x.undo(), 0);
        Check.due("the day is as it was", x.count(4), 0);
    }

    /** "ACTS .. are a row (16 at most; of more the first one is forgotten); the last one can be undone". */
    private static void sixteenActs() {
        for (int days = 14; days <= 17; days++) {
            SpoonfulMore x = Twin.after(lent("V09P00P99K01T000", days));
            int acts = Math.min(16, days + 1);
            Check.due("acts", x.count(5), acts);
            for (int left = acts - 1; left >= 0; left--) {
                Check.due("undo", x.undo(), left);
            }
            // The lending is the first act: of seventeen it can not be undone any more, nor a day of eighteen.
            Check.due("no more", x.undo(), STATE);
            Check.due("out", x.count(9), days + 1 > 16 ? 1 : 0);
            Check.due("the day", x.count(4), Math.max(0, days - 16));
        }
        SpoonfulMore x = Twin.after(lent("V09P00P99K01T000", 40));
        x.undo();
        Check.due("room for one", x.count(5), 15);
        x.day();
        Check.due("sixteen again", x.count(5), 16);
        x.back(0, 9);
        Check.due("the act that has come last", x.undo(), 15);
        Check.due("is the one undone", x.thing(0, 6), 40);
    }

    /** Act number i of a row in which a lending, a day and a giving back take turns, in an order of its own. */
    private static void actInTurn(SpoonfulMore x, int i) {
        switch (i % 7) {
            case 0: x.lend(0, 1); break;
            case 1: case 4: x.day(); break;
            case 2: x.lend(1, 0); break;
            case 3: Check.due("back", x.back(0, 1) > 0 ? 1 : 0, 1); break;
            case 5: Check.due("back", x.back(1, 2) > 0 ? 1 : 0, 1); break;
            default: x.lend(2, 1); x.undo(); x.day(); break;
        }
    }

    /** Whichever acts are forgotten, those that are left lead back to where each of them began. */
    private static void sixteenActsOfAllKinds() {
        for (int acts = 14; acts <= 23; acts++) {
            int last = acts;
            Twin.Steps all = x -> {
                Twin.tell(x, "V09P99P99K01T000T110T000");
                for (int i = 0; i < last; i++) {
                    actInTurn(x, i);
                }
            };
            SpoonfulMore x = Twin.after(all);
            Check.due("acts", x.count(5), Math.min(16, acts));
            for (int left = Math.min(16, acts) - 1; left >= 0; left--) {
                Check.due("undo", x.undo(), left);
                SpoonfulMore then = Check.village("V09P99P99K01T000T110T000");
                for (int i = 0; i < acts - Math.min(16, acts) + left; i++) {
                    actInTurn(then, i);
                }
                sameMoment(left + " left of " + acts, x, then);
            }
            Check.due("no more", x.undo(), STATE);
        }
    }

    private static void sameMoment(String told, SpoonfulMore got, SpoonfulMore want) {
        Check.due(told + ": day", got.count(4), want.count(4));
        for (int person = 0; person < 2; person++) {
            Check.due(told + ": coins of " + person, got.person(person, 0), want.person(person, 0));
        }
        for (int thing = 0; thing < 3; thing++) {
            for (int what : new int[] {2, 3, 6}) {
                Check.due(told + ": thing " + thing + ", " + what, got.thing(thing, what), want.thing(thing, what));
            }
        }
    }

    /** A refused act is none: the row of sixteen does not forget one for it. */
    private static void refusedIsNoAct() {
        Twin.Steps full = lent("V29P00P02K01T000T100", 15);
        Twin.Call[] refused = {x -> x.lend(0, 1), x -> x.lend(1, 1), x -> x.back(0, 1), x -> x.back(1, 1),
            x -> x.back(0, 9), x -> x.lend(9, 9), x -> x.back(0, 10)};
        int[] want = {STATE, OUTSIDE, STATE, STATE, STATE, UNKNOWN, OUTSIDE};
        for (int i = 0; i < want.length; i++) {
            Twin.refused("refused act " + i, full, refused[i], want[i]);
        }
    }
}
