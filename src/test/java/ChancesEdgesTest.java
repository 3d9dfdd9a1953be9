import java.math.BigInteger;

/** The edges of promises 20 to 22: borrow, seed, year. Each sentence has a test of its own. */
public final class ChancesEdgesTest {
    private static final int OUTSIDE = SpoonfulMore.OUTSIDE;
    private static final BigInteger FACTOR = new BigInteger("6364136223846793005");
    private static final BigInteger STEP = new BigInteger("1442695040888963407");
    private static final BigInteger ALL = BigInteger.ONE.shiftLeft(64);

    public static void main(String[] args) {
        borrowOutside();
        gradeUpToCap();
        never();
        always();
        oneDay();
        nothingAtCap();
        leastTerms();
        borrowGreatest();
        borrowOfAnyVillage();
        seedsOfAllKinds();
        yearOutside();
        yearWithoutThings();
        yearOfOneAndForty();
        yearWraps();
        upperBits();
        yearBelowCap();
        yearByHowManyThings();
        yearChangesTheSeedAlone();
        Check.end();
    }

    private static void outside(int sort, int grade, int n, int x) {
        for (boolean upper : new boolean[] {true, false}) {
            String told = "borrow(" + sort + ", " + grade + ", " + n + ", " + x + ", " + upper + ")";
            Twin.refused(told, Twin::busy, y -> y.borrow(sort, grade, n, x, upper), OUTSIDE);
        }
    }

    private static void mean(SpoonfulMore y, int sort, int grade, int n, int x, long above, long below) {
        String told = "borrow(" + sort + ", " + grade + ", " + n + ", " + x + ", ";
        Check.due(told + "true)", y.borrow(sort, grade, n, x, true), above);
        Check.due(told + "false)", y.borrow(sort, grade, n, x, false), below);
    }

    /** "OUTSIDE: sort, grade (0 to CAP), n, x"; "refusals of them are told likewise", above and below. */
    private static void borrowOutside() {
        // CAP is 5 there.
        for (int far : new int[] {Integer.MIN_VALUE, -1, Integer.MAX_VALUE}) {
            outside(far, 0, 1, 5);
            outside(0, far, 1, 5);
            outside(0, 0, far, 5);
            outside(0, 0, 1, far);
            outside(far, far, far, far);
        }
        outside(3, 0, 1, 5);
        outside(0, 6, 1, 5);
        outside(0, 9, 1, 5);
        outside(0, 0, 0, 5);
        outside(0, 0, 9, 5);
        outside(0, 0, 1, 11);
        SpoonfulMore y = Twin.after(Twin::busy);
        mean(y, 0, 0, 1, 0, 0, 1);
        mean(y, 2, 0, 1, 10, 3, 1);
        mean(y, 0, 5, 8, 10, 0, 1);
        mean(y, 0, 0, 8, 10, 15, 1);
    }

    /** "grade (0 to CAP)", for every CAP. */
    private static void gradeUpToCap() {
        SpoonfulMore y = new SpoonfulMore();
        for (int cap = 1; cap <= 9; cap++) {
            y.law(0, cap);
            mean(y, 0, -1, 1, 10, OUTSIDE, OUTSIDE);
            mean(y, 0, 0, 1, 10, 1, 1);
            mean(y, 0, cap - 1, 1, 10, cap, 1);
            mean(y, 0, cap, 1, 10, 0, 1);
            mean(y, 0, cap + 1, 1, 10, OUTSIDE, OUTSIDE);
        }
    }

    /** "by x tenths (0 to 10)": 0 is never. */
    private static void never() {
        SpoonfulMore y = Check.village("V09");
        for (int n = 1; n <= 8; n++) {
            mean(y, 2, 0, n, 0, 0, 1);
        }
    }

    /** 10 tenths are each day. */
    private static void always() {
        SpoonfulMore y = Check.village("V09");
        for (int n = 1; n <= 8; n++) {
            mean(y, 0, 0, n, 10, n * (n + 1) / 2, 1);
            mean(y, 2, 0, n, 10, 3 * n * (n + 1) / 2, 1);
        }
    }

    private static void oneDay() {
        SpoonfulMore y = Check.village("V09");
        long[] above = {0, 1, 1, 3, 2, 1, 3, 7, 4, 9, 1};
        long[] below = {1, 10, 5, 10, 5, 2, 5, 10, 5, 10, 1};
        for (int x = 0; x <= 10; x++) {
            mean(y, 0, 0, 1, x, above[x], below[x]);
        }
    }

    /** "each time it costs a BETTERMENT (nothing at CAP)". */
    private static void nothingAtCap() {
        SpoonfulMore y = Check.village("V03");
        for (int n = 1; n <= 8; n++) {
            mean(y, 1, 3, n, 7, 0, 1);
            mean(y, 1, 2, n, 10, 6, 1);
            mean(y, 1, 1, n, 10, n == 1 ? 4 : 10, 1);
            mean(y, 1, 0, n, 10, n == 1 ? 2 : n == 2 ? 6 : 12, 1);
        }
        // Once at least of two days: 3 of 4; of three: 7 of 8.
        mean(y, 0, 2, 2, 5, 9, 4);
        mean(y, 0, 2, 3, 5, 21, 8);
    }

    /** "above .., below (1 and more), in least terms". */
    private static void leastTerms() {
        for (int sort = 0; sort < 3; sort++) {
            for (int grade = 0; grade <= 9; grade++) {
                SpoonfulMore y = Check.village("V09");
                for (int n = 1; n <= 8; n++) {
                    for (int x = 0; x <= 10; x++) {
                        long above = y.borrow(sort, grade, n, x, true);
                        long below = y.borrow(sort, grade, n, x, false);
                        long common = BigInteger.valueOf(above).gcd(BigInteger.valueOf(below)).longValueExact();
                        Check.due("common divisor of " + above + " and " + below, common, 1);
                        Check.due("below is 1 and more", below >= 1 ? 1 : 0, 1);
                        Check.due("a part of 10 to the n", 100000000L % below, 0);
                    }
                }
            }
        }
    }

    /** Eight days, nine tenths, the dearest betterments that all have room: by hand, as k of 8 times so much each. */
    private static void borrowGreatest() {
        SpoonfulMore y = Check.village("V09");
        for (int x = 1; x <= 9; x++) {
            BigInteger above = BigInteger.ZERO;
            long choose = 1;
            for (int k = 0; k <= 8; k++) {
                long cost = 0;
                for (int i = 0; i < k; i++) {
                    cost += 3L * (1 + i + 1);
                }
                above = above.add(BigInteger.valueOf(x).pow(k).multiply(BigInteger.valueOf(10 - x).pow(8 - k))
                    .multiply(BigInteger.valueOf(choose * cost)));
                choose = choose * (8 - k) / (k + 1);
            }
            BigInteger below = BigInteger.TEN.pow(8);
            BigInteger common = above.gcd(below);
            mean(y, 2, 1, 8, x, above.divide(common).longValueExact(), below.divide(common).longValueExact());
        }
    }

    /** No PERSON and no THING is asked for. */
    private static void borrowOfAnyVillage() {
        mean(new SpoonfulMore(), 0, 0, 1, 5, 1, 2);
        mean(new SpoonfulMore(), 0, 1, 8, 10, 0, 1);
        mean(new SpoonfulMore(), 0, 2, 1, 5, OUTSIDE, OUTSIDE);
    }

    /** "THE SEED is v: what it was", for any long. */
    private static void seedsOfAllKinds() {
        SpoonfulMore y = new SpoonfulMore();
        long was = 0;
        for (long v : new long[] {1, -1, Long.MAX_VALUE, Long.MIN_VALUE, 1L << 32, 0xffffffffL, -1L << 32, 0}) {
            Check.due("seed(" + v + ")", y.seed(v), was);
            was = v;
        }
        Check.due("seed", y.seed(5), 0);
        y.village();
        y.day();
        Check.due("the seed stays", y.seed(0), 5);
    }

    /** "OUTSIDE: m"; "m (1 to 40) times". */
    private static void yearOutside() {
        for (int m : new int[] {0, 41, -1, 42, Integer.MIN_VALUE, Integer.MAX_VALUE}) {
            Twin.refused("year(" + m + ")", Twin::busy, x -> x.year(m), OUTSIDE);
            Twin.refused("year(" + m + ") without things", x -> x.seed(9), x -> x.year(m), OUTSIDE);
        }
    }

    /** "without THINGS not even that: 0". */
    private static void yearWithoutThings() {
        for (int m : new int[] {1, 2, 40}) {
            Twin.refused("year(" + m + ") of nobody", x -> x.seed(9), x -> x.year(m), 0);
            Twin.refused("year(" + m + ") without things", x -> {
                Twin.tell(x, "V09P10P10K01N000");
                x.seed(-9);
            }, x -> x.year(m), 0);
        }
    }

    /** What a year is due to answer, and the seed behind it, with numbers that know no wrapping. */
    private static final class Year {
        BigInteger seed;
        int worth = 0;
        boolean wrapped = false;

        Year(long from, int m, int cap, int[] sorts, int[] from0) {
            int[] grades = from0.clone();
            seed = BigInteger.valueOf(from).mod(ALL);
            for (int i = 0; i < m; i++) {
                BigInteger next = seed.multiply(FACTOR).add(STEP);
                wrapped |= next.compareTo(ALL) >= 0;
                seed = next.mod(ALL);
                int thing = seed.shiftRight(33).mod(BigInteger.valueOf(grades.length)).intValueExact();
                grades[thing] += grades[thing] < cap ? 1 : 0;
            }
            for (int i = 0; i < grades.length; i++) {
                worth += (sorts[i] + 1) * grades[i] * (grades[i] + 1) / 2;
            }
        }
    }

    private static void year(String village, long seed, int m, Year want) {
        SpoonfulMore x = Check.village(village);
        x.seed(seed);
        String told = "year(" + m + ") from " + seed + " of " + village;
        Check.due(told, x.year(m), want.worth);
        Check.due(told + ": seed", x.seed(0), want.seed.longValue());
    }

    private static void yearOfOneAndForty() {
        int[] sorts = {0, 1, 2};
        for (int m : new int[] {1, 2, 39, 40}) {
            for (long seed : new long[] {0, 1, 12345}) {
                year("V09P00T000T010T020", seed, m, new Year(seed, m, 9, sorts, new int[3]));
            }
        }
        // By hand: from 0 the first number is 1442695040888963407, its upper 31 bits 167951807, by 3 that leaves 2.
        Check.due("one from 0", Check.village("V09P00T000T010T020").year(1), 3);
    }

    /** "64 bits, wrapping". */
    private static void yearWraps() {
        int[] sorts = {2, 0, 1, 0, 2};
        for (long seed : new long[] {-1, Long.MAX_VALUE, Long.MIN_VALUE, 1, 2, 3, 1L << 62, 0x5555555555555555L}) {
            for (int m : new int[] {1, 2, 7, 40}) {
                Year want = new Year(seed, m, 9, sorts, new int[5]);
                // 1 stays within 63 bits at first, 2 within 64, 3 is the first that does not.
                Check.due("it wraps", want.wrapped ? 1 : 0, m == 1 && (seed == 1 || seed == 2) ? 0 : 1);
                year("V09P00T020T000T010T000T020", seed, m, want);
            }
        }
    }

    /** "of it the upper 31 bits": also when the highest bit is one, and with none of the 33 below. */
    private static void upperBits() {
        int[] sorts = {0, 1, 2, 0, 1};
        BigInteger inverse = FACTOR.modInverse(ALL);
        String[] wanted = {"0000000000000000", "00000001ffffffff", "0000000200000000", "7fffffffffffffff",
            "8000000000000000", "8000000200000000", "fffffffdffffffff", "ffffffffffffffff", "00000009ffffffff"};
        for (String hex : wanted) {
            long seed = new BigInteger(hex, 16).subtract(STEP).multiply(inverse).mod(ALL).longValue();
            Year want = new Year(seed, 1, 9, sorts, new int[5]);
            Check.due("the seed meant", want.seed.longValue(), new BigInteger(hex, 16).longValue());
            year("V09P00T000T010T020T000T010", seed, 1, want);
        }
    }

    /** "it is a GRADE better, if it is below CAP". */
    private static void yearBelowCap() {
        for (int cap = 1; cap <= 9; cap++) {
            for (int grade = 0; grade <= cap; grade++) {
                SpoonfulMore x = Check.village("V0" + cap + "P00T01" + grade);
                for (int m : new int[] {1, cap, 40}) {
                    int then = Math.min(cap, grade + m);
                    Check.due("year(" + m + ") from grade " + grade, x.year(m), then * (then + 1));
                }
                Check.due("the grade stays", x.thing(0, 2), grade);
            }
        }
        SpoonfulMore x = Check.village("V09P00T000");
        x.law(0, 2);
        Check.due("the cap as it is now", x.year(40), 3);
    }

    /** "by how many THINGS there are what is left tells a THING": from one to six. */
    private static void yearByHowManyThings() {
        StringBuilder village = new StringBuilder("V09P00P00K01");
        int[] all = {0, 1, 2, 2, 1, 0};
        for (int things = 1; things <= 6; things++) {
            village.append("T0").append(all[things - 1]).append('0');
            int[] sorts = java.util.Arrays.copyOf(all, things);
            for (long seed = -5; seed <= 5; seed++) {
                year(village.toString(), seed, 6, new Year(seed, 6, 9, sorts, new int[things]));
            }
        }
        SpoonfulMore x = Check.village("V09P99P99K01T000T010");
        x.lend(0, 1);
        x.back(0, 3);
        x.lend(1, 1);
        x.seed(4);
        Check.due("grades as they are now, out or not", x.year(9),
            new Year(4, 9, 9, new int[] {0, 1}, new int[] {3, 0}).worth);
    }

    /** "(Nothing changes but THE SEED". */
    private static void yearChangesTheSeedAlone() {
        long then = new Year(77, 40, 5, new int[] {0, 1, 2, 0, 0, 1}, new int[6]).seed.longValue();
        Twin.same("year(40)", x -> {
            Twin.busy(x);
            x.seed(then);
        }, x -> {
            Twin.busy(x);
            x.year(40);
        });
    }
}
