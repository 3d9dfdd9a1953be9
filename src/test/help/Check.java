/** What every test uses: answers that are compared, and villages made of a text. */
public final class Check {
    private static int wrong = 0;

    private Check() {
    }

    public static void due(String call, long got, long want) {
        if (got != want) {
            wrong++;
            System.out.println(call + " answered " + got + ", due is " + want);
        }
    }

    public static int wrongSoFar() {
        return wrong;
    }

    /** Writes the text, a byte for each sign, and answers what the last write did. */
    public static int write(SpoonfulMore x, String text) {
        int answer = 0;
        for (int from = 0; from < text.length(); from += 8) {
            int n = Math.min(8, text.length() - from);
            long v = 0;
            for (int i = 0; i < n; i++) {
                v = v << 8 | text.charAt(from + i) & 255;
            }
            answer = x.write(n, v);
        }
        return answer;
    }

    public static SpoonfulMore village(String text) {
        SpoonfulMore x = new SpoonfulMore();
        write(x, text);
        due("fault() of " + text, x.fault(), SpoonfulMore.NONE);
        x.village();
        return x;
    }

    public static void end() {
        System.out.println(wrong == 0 ? "all answers are as due" : wrong + " answers are not as due");
        if (wrong != 0) {
            System.exit(1);
        }
    }
}
