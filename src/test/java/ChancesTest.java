/** Promises 20 to 22: borrow, seed, year. */
public final class ChancesTest {
    public static void main(String[] args) {
        wrongInputs();
        means();
        meansOfAllDays();
        seeds();
        years();
        Check.end();
    }

    private static void outside(SpoonfulMore x, int sort, int grade, int n, int t) {
        String call = "borrow(" + sort + ", " + grade + ", " + n + ", " + t + ")";
        Check.due(call, x.borrow(sort, grade, n, t, true), SpoonfulMore.OUTSIDE);
        Check.due(call, x.borrow(sort, grade, n, t, false), SpoonfulMore.OUTSIDE);
    }

    private static void wrongInputs() {
        SpoonfulMore x = Check.village("V05");
        outside(x, -1, 0, 1, 5);
        outside(x, 3, 0, 1, 5);
        outside(x, 0, -1, 1, 5);
        outside(x, 0, 6, 1, 5);
        outside(x, 0, 0, 0, 5);
        outside(x, 0, 0, 9, 5);
        outside(x, 0, 0, 1, -1);
        outside(x, 0, 0, 1, 11);
        outside(x, Integer.MAX_VALUE, Integer.MAX_VALUE, Integer.MAX_VALUE, Integer.MAX_VALUE);
        outside(x, Integer.MIN_VALUE, Integer.MIN_VALUE, Integer.MIN_VALUE, Integer.MIN_VALUE);
    }

    private static void mean(SpoonfulMore x, int[] asked, long above, long below) {
        Check.due("above", x.borrow(asked[0], asked[1], asked[2], asked[3], true), above);
        Check.due("below", x.borrow(asked[0], asked[1], asked[2], asked[3], false), below);
    }

    private static void means() {
        SpoonfulMore x = Check.village("V05");
        mean(x, new int[] {0, 0, 1, 0}, 0, 1);
        mean(x, new int[] {0, 5, 8, 10}, 0, 1);
        mean(x, new int[] {0, 4, 1, 10}, 5, 1);
        mean(x, new int[] {2, 0, 8, 10}, 3 * 15, 1);
        mean(x, new int[] {0, 0, 1, 4}, 2, 5);
        mean(x, new int[] {1, 4, 2, 5}, 15, 2);
        mean(x, new int[] {0, 0, 2, 1}, 21, 100);
        x.law(0, 6);
        mean(x, new int[] {2, 0, 8, 10}, 3 * 21, 1);
        mean(x, new int[] {0, 6, 8, 10}, 0, 1);
    }

    /** Against all ways in which the days may go. */
    private static void meansOfAllDays() {
        SpoonfulMore x = Check.village("V05");
        for (int cap = 1; cap <= 9; cap += 4) {
            x.law(0, cap);
            for (int n = 1; n <= 8; n++) {
                int grade = (n * 5 + cap) % (cap + 1);
                int tenths = (n * 7 + cap) % 11;
                java.math.BigInteger above = java.math.BigInteger.ZERO;
                for (int days = 0; days < 1 << n; days++) {
                    long ways = 1;
                    long cost = 0;
                    int now = grade;
                    for (int day = 0; day < n; day++) {
                        boolean needed = (days >> day & 1) != 0;
                        ways *= needed ? tenths : 10 - tenths;
                        if (needed && now < cap) {
                            now++;
                            cost += 3L * now;
                        }
                    }
                    above = above.add(java.math.BigInteger.valueOf(ways * cost));
                }
                java.math.BigInteger below = java.math.BigInteger.TEN.pow(n);
                java.math.BigInteger divisor = above.gcd(below);
                mean(x, new int[] {2, grade, n, tenths},
                    above.divide(divisor).longValueExact(), below.divide(divisor).longValueExact());
            }
        }
    }

    private static void seeds() {
        SpoonfulMore x = new SpoonfulMore();
        Check.due("seed", x.seed(Long.MIN_VALUE), 0);
        Check.due("seed", x.seed(-1), Long.MIN_VALUE);
        Check.due("seed", x.seed(Long.MAX_VALUE), -1);
        Check.due("seed", x.seed(0), Long.MAX_VALUE);
    }

    private static void years() {
        SpoonfulMore x = new SpoonfulMore();
        x.seed(5);
        Check.due("without things", x.year(40), 0);
        Check.due("not even the seed", x.seed(5), 5);
        Check.due("year 0, without things", x.year(0), SpoonfulMore.OUTSIDE);
        x = Check.village("V02P00T000T020T001");
        Check.due("year 0", x.year(0), SpoonfulMore.OUTSIDE);
        Check.due("year 41", x.year(41), SpoonfulMore.OUTSIDE);
        Check.due("year -1", x.year(-1), SpoonfulMore.OUTSIDE);
        Check.due("the seed stays", x.seed(0), 0);
        int[] sorts = {0, 2, 0};
        for (int m = 1; m <= 40; m++) {
            long seed = m * 0x9e3779b97f4a7c15L;
            x.seed(seed);
            int[] grades = {0, 0, 1};
            for (int i = 0; i < m; i++) {
                seed = seed * 6364136223846793005L + 1442695040888963407L;
                int thing = (int) (Long.divideUnsigned(seed, 1L << 33) % 3);
                grades[thing] = Math.min(2, grades[thing] + 1);
            }
            int worth = 0;
            for (int thing = 0; thing < 3; thing++) {
                worth += (sorts[thing] + 1) * grades[thing] * (grades[thing] + 1) / 2;
            }
            Check.due("year(" + m + ")", x.year(m), worth);
            Check.due("seed", x.seed(0), seed);
            Check.due("nothing else changes", x.count(8), 1);
        }
    }
}
