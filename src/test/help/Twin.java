/**
 * Two objects that are to stand alike: whatever can be asked of both is asked, also what shows only after acts are
 * undone, after going on from a slot, or after the text has become the village. Each way of asking has fresh objects,
 * so that none is used for more than 512 calls.
 */
public final class Twin {
    private static final int WAYS = 6;

    /** Some calls on a new object. */
    public interface Steps {
        void on(SpoonfulMore x);
    }

    /** One call. */
    public interface Call {
        long on(SpoonfulMore x);
    }

    private Twin() {
    }

    /** The call is refused as told, in the state that the steps lead to, and changes nothing. */
    public static void refused(String told, Steps steps, Call call, long refusal) {
        Check.due(told, call.on(after(steps)), refusal);
        same(told + " changes nothing", steps, x -> {
            steps.on(x);
            call.on(x);
        });
    }

    /** The same with a village in which nothing has been done. */
    public static void refusedIn(String village, String told, Call call, long refusal) {
        refused(told + " in " + village, x -> tell(x, village), call, refusal);
    }

    /** Both lead to the same state. */
    public static void same(String told, Steps some, Steps others) {
        for (int way = 0; way < WAYS; way++) {
            long[] got = asked(way, after(others));
            long[] want = asked(way, after(some));
            for (int i = 0; i < want.length; i++) {
                Check.due(told + ", way " + way + ", question " + i, got[i], want[i]);
            }
        }
    }

    public static SpoonfulMore after(Steps steps) {
        SpoonfulMore x = new SpoonfulMore();
        steps.on(x);
        return x;
    }

    /** The text, which had been empty, becomes the village. */
    public static void tell(SpoonfulMore x, String village) {
        Check.write(x, village);
        x.village();
    }

    /** A state in which every part holds something: people, things out, needs, acts, both slots, seen, seed, text. */
    public static void busy(SpoonfulMore x) {
        tell(x, "V15P40P15P99P00P50K01K12K02K34T000T112T225T400T303T011N000N101N202N013N103N203");
        x.see(1, 1, true);
        x.see(3, 4, false);
        x.seed(77);
        x.lend(0, 1);
        x.day();
        x.keep(0);
        x.lend(1, 2);
        x.day();
        x.back(0, 2);
        x.keep(1);
        x.lend(5, 1);
        x.day();
        x.wipe();
        Check.write(x, "V27P11P22K01T105T014N001");
    }

    private static long[] asked(int way, SpoonfulMore x) {
        switch (way) {
            case 0: return whole(x);
            case 1: return undone(x);
            case 2: x.again(0); return whole(x);
            case 3: x.again(1); return whole(x);
            case 4: return with(x.village(), whole(x));
            default: x.write(1, 'N'); return with(x.fault(), seenAlone(x));
        }
    }

    private static long[] with(long one, long[] others) {
        long[] all = java.util.Arrays.copyOf(others, others.length + 1);
        all[others.length] = one;
        return all;
    }

    /** All that is told without a change; some 160 calls. */
    private static long[] whole(SpoonfulMore x) {
        Row row = new Row();
        for (int what = 0; what <= 10; what++) {
            row.add(x.count(what));
        }
        row.add(x.fault());
        long seed = x.seed(0);
        x.seed(seed);
        row.add(seed);
        for (int person = 0; person < 5; person++) {
            for (int what = 0; what < 4; what++) {
                row.add(x.person(person, what));
            }
        }
        for (int thing = 0; thing < 6; thing++) {
            for (int what = 0; what < 7; what++) {
                row.add(x.thing(thing, what));
            }
            for (int n = 1; n <= 8; n += n < 3 ? 1 : 5) {
                row.add(x.hands(thing, n));
                row.add(x.surely(thing, n));
            }
        }
        for (int sort = 0; sort < 3; sort++) {
            row.add(x.least(sort));
            for (int i = 0; i < 8; i++) {
                row.add(x.leastAt(sort, i));
            }
        }
        for (int m = 0; m < 30; m += 5) {
            row.add(x.cap(m));
        }
        return row.all();
    }

    /** What the acts changed, from the last one back to the first that is known; some 430 calls. */
    private static long[] undone(SpoonfulMore x) {
        Row row = new Row();
        for (int act = 0; act <= 16; act++) {
            row.add(x.undo());
            row.add(x.count(4));
            for (int person = 0; person < 5; person++) {
                row.add(x.person(person, 0));
            }
            for (int thing = 0; thing < 6; thing++) {
                row.add(x.thing(thing, 2));
                row.add(x.thing(thing, 3));
                row.add(x.thing(thing, 6));
            }
        }
        return row.all();
    }

    /** What is seen, in a village where everybody knows everybody, and how many more could be seen. */
    private static long[] seenAlone(SpoonfulMore x) {
        x.wipe();
        tell(x, "V09P00P00P00P00P00K01K02K03K04K12K13K14K23K24K34T000T100T200");
        Row row = new Row();
        for (int n = 1; n <= 8; n++) {
            for (int thing = 0; thing < 3; thing++) {
                row.add(x.hands(thing, n));
                row.add(x.surely(thing, n));
            }
        }
        for (int i = 0; i < 7; i++) {
            row.add(x.see(8, 0, false));
        }
        row.add(x.unsee());
        return row.all();
    }

    private static final class Row {
        private final long[] numbers = new long[512];
        private int size = 0;

        void add(long number) {
            numbers[size] = number;
            size++;
        }

        long[] all() {
            return java.util.Arrays.copyOf(numbers, size);
        }
    }
}
