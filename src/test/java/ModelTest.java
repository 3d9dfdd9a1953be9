import java.math.BigInteger;
import java.util.ArrayList;
import java.util.Arrays;
import java.util.List;
import java.util.Random;
import java.util.regex.Pattern;

/**
 * Random runs against a model that tries out everything: all plans, all rows, all ways in which a text could go on.
 * No object is used for more than 512 calls, as what later ones answer is free.
 */
public final class ModelTest {
    private static final int NONE = -9, UNKNOWN = -1, OUTSIDE = -2, STATE = -3, FULL = -4;
    private static final Pattern FORM =
        Pattern.compile("V[0-3][1-9](P[0-9][0-9]|K[0-4][0-4]|T[0-4][0-2][0-9]|N[0-4][0-2][0-3])*");
    private static final String SIGNS = "VPKTN0123456789";

    /** What the slots keep, and what an act changes. */
    private static final class Moment {
        int[] coins = new int[0];
        int[] grades = new int[0];
        int[] holders = new int[0];
        int[] out = new int[0];
        int day = 0;

        Moment copy() {
            Moment m = new Moment();
            m.coins = coins.clone();
            m.grades = grades.clone();
            m.holders = holders.clone();
            m.out = out.clone();
            m.day = day;
            return m;
        }
    }

    private static final class Model {
        String text = "";
        int law = 0;
        int cap = 1;
        boolean[][] know = new boolean[0][0];
        int[] owner = new int[0];
        int[] sort = new int[0];
        List<int[]> needs = new ArrayList<>();
        Moment now = new Moment();
        List<Moment> before = new ArrayList<>();
        Moment[] kept = new Moment[2];
        List<int[]> seen = new ArrayList<>();
        long seed = 0;
        int bestCost;
        int[] bestPlan;

        static boolean isVillage(String text) {
            if (!FORM.matcher(text).matches()) {
                return false;
            }
            int people = 0;
            int things = 0;
            List<String> told = new ArrayList<>();
            for (int at = 3; at < text.length(); at += text.charAt(at) == 'P' || text.charAt(at) == 'K' ? 3 : 4) {
                char kind = text.charAt(at);
                int a = text.charAt(at + 1) - '0';
                int b = text.charAt(at + 2) - '0';
                if (kind == 'P') {
                    people++;
                    if (people > 5) {
                        return false;
                    }
                } else if (kind == 'K') {
                    String pair = "K" + Math.min(a, b) + Math.max(a, b);
                    if (a == b || a >= people || b >= people || told.contains(pair)) {
                        return false;
                    }
                    told.add(pair);
                } else if (kind == 'T') {
                    things++;
                    if (things > 6 || a >= people || text.charAt(at + 3) > text.charAt(2)) {
                        return false;
                    }
                } else {
                    String need = text.substring(at, at + 4);
                    if (a >= people || told.contains(need)) {
                        return false;
                    }
                    told.add(need);
                    if (told.stream().filter(t -> t.startsWith("N")).count() > 8) {
                        return false;
                    }
                }
            }
            return true;
        }

        /** No part is longer than four bytes, so a beginning that can go on well does so within three. */
        static boolean canGoOn(String text, int bytes) {
            if (isVillage(text)) {
                return true;
            }
            for (int i = 0; bytes > 0 && i < SIGNS.length(); i++) {
                if (canGoOn(text + SIGNS.charAt(i), bytes - 1)) {
                    return true;
                }
            }
            return false;
        }

        int fault() {
            for (int at = 0; at < text.length(); at++) {
                if (!canGoOn(text.substring(0, at + 1), 3)) {
                    return at;
                }
            }
            return isVillage(text) ? NONE : text.length();
        }

        int village() {
            if (!isVillage(text)) {
                return STATE;
            }
            law = text.charAt(1) - '0';
            cap = text.charAt(2) - '0';
            List<Integer> coins = new ArrayList<>();
            List<int[]> things = new ArrayList<>();
            know = new boolean[5][5];
            needs = new ArrayList<>();
            for (int at = 3; at < text.length(); at += text.charAt(at) == 'P' || text.charAt(at) == 'K' ? 3 : 4) {
                int a = text.charAt(at + 1) - '0';
                int b = text.charAt(at + 2) - '0';
                switch (text.charAt(at)) {
                    case 'P': coins.add(10 * a + b); break;
                    case 'K': know[a][b] = true; know[b][a] = true; break;
                    case 'T': things.add(new int[] {a, b, text.charAt(at + 3) - '0'}); break;
                    default: needs.add(new int[] {a, b, text.charAt(at + 3) - '0'}); break;
                }
            }
            owner = things.stream().mapToInt(t -> t[0]).toArray();
            sort = things.stream().mapToInt(t -> t[1]).toArray();
            now = new Moment();
            now.coins = coins.stream().mapToInt(c -> c).toArray();
            now.grades = things.stream().mapToInt(t -> t[2]).toArray();
            now.holders = owner.clone();
            now.out = new int[owner.length];
            before.clear();
            kept = new Moment[2];
            return 10 * now.coins.length + owner.length;
        }

        int people() {
            return now.coins.length;
        }

        static int bits(int[] row, int value) {
            int bits = 0;
            for (int i = 0; i < row.length; i++) {
                bits += row[i] == value ? 1 << i : 0;
            }
            return bits;
        }

        int person(int p, int what) {
            if (p < 0 || p >= people()) {
                return UNKNOWN;
            }
            int known = 0;
            for (int other = 0; other < people(); other++) {
                known += know[p][other] ? 1 << other : 0;
            }
            int[] answers = {now.coins[p], known, bits(owner, p), bits(now.holders, p)};
            return what < 0 || what >= answers.length ? OUTSIDE : answers[what];
        }

        int due(int t) {
            if (now.holders[t] == owner[t]) {
                return 0;
            }
            int due = law + now.out[t] / 2;
            while (now.grades[t] + due > cap) {
                due--;
            }
            return due;
        }

        int thing(int t, int what) {
            if (t < 0 || t >= owner.length) {
                return UNKNOWN;
            }
            int worth = (sort[t] + 1) * now.grades[t] * (now.grades[t] + 1) / 2;
            int[] answers = {owner[t], sort[t], now.grades[t], now.holders[t], worth, due(t), now.out[t]};
            return what < 0 || what >= answers.length ? OUTSIDE : answers[what];
        }

        int highest() {
            int highest = 0;
            for (int grade : now.grades) {
                highest = Math.max(highest, grade);
            }
            return highest;
        }

        int law(int newLaw, int newCap) {
            if (newLaw < 0 || newLaw > 3 || newCap < 1 || newCap > 9) {
                return OUTSIDE;
            }
            if (highest() > newCap) {
                return STATE;
            }
            int was = 10 * law + cap;
            law = newLaw;
            cap = newCap;
            return was;
        }

        void act() {
            before.add(now.copy());
            if (before.size() > 16) {
                before.remove(0);
            }
        }

        int lend(int t, int p) {
            if (t < 0 || t >= owner.length || p < 0 || p >= people()) {
                return UNKNOWN;
            }
            if (owner[t] == p) {
                return OUTSIDE;
            }
            if (now.holders[t] != owner[t] || !know[p][owner[t]]) {
                return STATE;
            }
            act();
            now.holders[t] = p;
            return Integer.bitCount(bits(now.holders, p));
        }

        int back(int t, int k) {
            if (t < 0 || t >= owner.length) {
                return UNKNOWN;
            }
            if (k < 0 || k > 9) {
                return OUTSIDE;
            }
            if (now.holders[t] == owner[t] || k < due(t) || now.grades[t] + k > cap) {
                return STATE;
            }
            int from = now.grades[t];
            int cost = (sort[t] + 1) * ((from + k) * (from + k + 1) - from * (from + 1)) / 2;
            if (now.coins[now.holders[t]] < cost) {
                return STATE;
            }
            act();
            now.coins[now.holders[t]] -= cost;
            now.grades[t] += k;
            now.holders[t] = owner[t];
            now.out[t] = 0;
            return cost;
        }

        int day() {
            act();
            now.day++;
            for (int t = 0; t < owner.length; t++) {
                now.out[t] += now.holders[t] != owner[t] ? 1 : 0;
            }
            return now.day;
        }

        int undo() {
            if (before.isEmpty()) {
                return STATE;
            }
            now = before.remove(before.size() - 1);
            return before.size();
        }

        List<int[]> needsOf(int ofSort) {
            List<int[]> of = new ArrayList<>();
            for (int day = 0; day < 4; day++) {
                for (int[] need : needs) {
                    if (need[1] == ofSort && need[2] == day) {
                        of.add(need);
                    }
                }
            }
            return of;
        }

        /** All plans, in their order, but for those that are dearer already. */
        void tryAll(List<int[]> of, int i, int[] plan, int[] grades, int cost, int byCap) {
            if (bestPlan != null && cost >= bestCost) {
                return;
            }
            if (i == of.size()) {
                bestCost = cost;
                bestPlan = plan.clone();
                return;
            }
            int[] need = of.get(i);
            for (int t = 0; t < owner.length; t++) {
                boolean free = sort[t] == need[1];
                for (int j = 0; j < i; j++) {
                    free &= of.get(j)[2] != need[2] || plan[j] != t;
                }
                if (!free || owner[t] != need[0] && !know[need[0]][owner[t]]) {
                    continue;
                }
                plan[i] = t;
                if (owner[t] == need[0] || grades[t] == byCap) {
                    tryAll(of, i + 1, plan, grades, cost, byCap);
                } else {
                    grades[t]++;
                    tryAll(of, i + 1, plan, grades, cost + (sort[t] + 1) * grades[t], byCap);
                    grades[t]--;
                }
            }
        }

        int least(int ofSort, int byCap) {
            bestPlan = null;
            bestCost = NONE;
            List<int[]> of = needsOf(ofSort);
            tryAll(of, 0, new int[of.size()], now.grades.clone(), 0, byCap);
            return bestCost;
        }

        int least(int ofSort) {
            return ofSort < 0 || ofSort > 2 ? OUTSIDE : least(ofSort, cap);
        }

        int leastAt(int ofSort, int i) {
            if (ofSort < 0 || ofSort > 2) {
                return OUTSIDE;
            }
            least(ofSort, cap);
            return bestPlan == null || i < 0 || i >= bestPlan.length ? NONE : bestPlan[i];
        }

        int cap(int m) {
            if (m < 0 || m > 9999) {
                return OUTSIDE;
            }
            for (int c = 9; c >= 1 && c >= highest(); c--) {
                int sum = 0;
                boolean can = true;
                for (int s = 0; s < 3 && can; s++) {
                    int cost = least(s, c);
                    can = cost != NONE;
                    sum += cost;
                }
                if (!can) {
                    return NONE;
                }
                if (sum <= m) {
                    return c;
                }
            }
            return NONE;
        }

        int see(int t, int p, boolean had) {
            if (p < 0 || p >= people()) {
                return UNKNOWN;
            }
            if (t < 1 || t > 8) {
                return OUTSIDE;
            }
            if (seen.size() == 6) {
                return FULL;
            }
            seen.add(new int[] {t, p, had ? 1 : 0});
            return seen.size();
        }

        int unsee() {
            int was = seen.size();
            seen.clear();
            return was;
        }

        /** How many rows there are, and who is in all of them. */
        int[] rows(int last, int place, int n, int who) {
            if (place > n) {
                return new int[] {1, who};
            }
            int[] sum = {0, -1};
            for (int p = 0; p < people(); p++) {
                boolean fits = know[last][p];
                for (int[] s : seen) {
                    fits &= s[0] != place || s[1] >= people() || (s[1] == p) == (s[2] == 1);
                }
                if (fits) {
                    int[] more = rows(p, place + 1, n, who | 1 << p);
                    sum[0] += more[0];
                    sum[1] &= more[1];
                }
            }
            return sum;
        }

        int hands(int t, int n, int which) {
            if (t < 0 || t >= owner.length) {
                return UNKNOWN;
            }
            if (n < 1 || n > 8) {
                return OUTSIDE;
            }
            int[] rows = rows(owner[t], 1, n, 0);
            return which == 0 ? rows[0] : rows[0] == 0 ? NONE : rows[1];
        }

        int year(int m) {
            if (m < 1 || m > 40) {
                return OUTSIDE;
            }
            int[] grades = now.grades.clone();
            for (int i = 0; i < m && grades.length > 0; i++) {
                seed = seed * 6364136223846793005L + 1442695040888963407L;
                int t = (int) (Long.divideUnsigned(seed, 1L << 33) % grades.length);
                grades[t] = Math.min(cap, grades[t] + 1);
            }
            return worth(grades);
        }

        int worth(int[] grades) {
            int sum = 0;
            for (int t = 0; t < grades.length; t++) {
                sum += (sort[t] + 1) * grades[t] * (grades[t] + 1) / 2;
            }
            return sum;
        }

        int keep(int slot) {
            if (slot != 0 && slot != 1) {
                return UNKNOWN;
            }
            kept[slot] = now.copy();
            return now.day;
        }

        int again(int slot) {
            if (slot != 0 && slot != 1) {
                return UNKNOWN;
            }
            if (kept[slot] == null) {
                return STATE;
            }
            for (int grade : kept[slot].grades) {
                if (grade > cap) {
                    return STATE;
                }
            }
            now = kept[slot].copy();
            before.clear();
            return now.day;
        }

        int count(int what) {
            int coins = 0;
            for (int c : now.coins) {
                coins += c;
            }
            int out = 0;
            for (int t = 0; t < owner.length; t++) {
                out += now.holders[t] != owner[t] ? 1 : 0;
            }
            int[] answers = {text.length(), people(), owner.length, needs.size(), now.day, before.size(), seen.size(),
                coins, worth(now.grades), out, 10 * law + cap};
            return what < 0 || what >= answers.length ? OUTSIDE : answers[what];
        }
    }

    private static String randomPerson(Random random) {
        return "P" + random.nextInt(10) + random.nextInt(10);
    }

    private static String randomVillage(Random random) {
        StringBuilder text = new StringBuilder("V").append(random.nextInt(4)).append(1 + random.nextInt(9));
        int people = 1 + random.nextInt(5);
        // Some people may be told behind others' parts; parts that name them too early are left out.
        int told = random.nextBoolean() ? people : random.nextInt(people + 1);
        for (int p = 0; p < told; p++) {
            text.append(randomPerson(random));
        }
        int sorts = 1 + random.nextInt(3);
        int parts = random.nextInt(60);
        int knowing = 1 + random.nextInt(4);
        for (int i = 0; i < parts; i++) {
            String part;
            int kind = random.nextInt(2 + knowing);
            if (told < people && random.nextInt(6) == 0) {
                part = randomPerson(random);
                told++;
            } else if (kind == 0) {
                part = "T" + random.nextInt(people) + random.nextInt(sorts)
                    + random.nextInt(text.charAt(2) - '0' + 1);
            } else if (kind == 1) {
                part = "N" + random.nextInt(people) + random.nextInt(sorts) + random.nextInt(4);
            } else {
                part = "K" + random.nextInt(people) + random.nextInt(people);
            }
            if (text.length() + part.length() <= 90 && Model.isVillage(text + part)) {
                text.append(part);
            }
        }
        return text.toString();
    }

    private static String spoiled(Random random, String text) {
        StringBuilder s = new StringBuilder(text);
        for (int i = random.nextInt(3); i >= 0; i--) {
            char sign = random.nextInt(9) == 0 ? (char) random.nextInt(256) : SIGNS.charAt(random.nextInt(15));
            int at = random.nextInt(s.length() + 1);
            if (random.nextBoolean() && at < s.length()) {
                s.setCharAt(at, sign);
            } else if (s.length() < 90) {
                s.insert(at, sign);
            }
        }
        s.setLength(random.nextBoolean() ? s.length() : random.nextInt(s.length() + 1));
        return s.toString();
    }

    private static void tell(SpoonfulMore x, Model model, String text, String run) {
        Check.due(run + " wipe()", x.wipe(), model.text.length());
        model.text = text;
        Check.write(x, text);
        Check.due(run + " count(0)", x.count(0), text.length());
    }

    private static void all(SpoonfulMore x, Model model, String run) {
        for (int what = -1; what <= 11; what++) {
            Check.due(run + " count " + what, x.count(what), model.count(what));
        }
        for (int p = -1; p <= 5; p++) {
            for (int what = -1; what <= 4; what++) {
                Check.due(run + " person " + p + " " + what, x.person(p, what), model.person(p, what));
            }
        }
        for (int t = -1; t <= 6; t++) {
            for (int what = -1; what <= 7; what++) {
                Check.due(run + " thing " + t + " " + what, x.thing(t, what), model.thing(t, what));
            }
        }
    }

    /** What acts change, in 25 calls at most. */
    private static void changing(SpoonfulMore x, Model model, String run) {
        Check.due(run + " day", x.count(4), model.count(4));
        Check.due(run + " acts", x.count(5), model.count(5));
        for (int p = 0; p < model.people(); p++) {
            Check.due(run + " coins of " + p, x.person(p, 0), model.person(p, 0));
        }
        for (int t = 0; t < model.owner.length; t++) {
            Check.due(run + " grade of " + t, x.thing(t, 2), model.thing(t, 2));
            Check.due(run + " holder of " + t, x.thing(t, 3), model.thing(t, 3));
            Check.due(run + " days out of " + t, x.thing(t, 6), model.thing(t, 6));
        }
    }

    private static void acts(SpoonfulMore x, Model model, Random random, String run) {
        int a = random.nextInt(8) - 1;
        int b = random.nextInt(7) - 1;
        switch (random.nextInt(12)) {
            case 0: case 1: case 2: case 3:
                Check.due(run + " lend", x.lend(a, b), model.lend(a, b));
                break;
            case 4: case 5: case 6: {
                int k = random.nextInt(12) - 1;
                Check.due(run + " back", x.back(a, k), model.back(a, k));
                break;
            }
            case 7: case 8:
                Check.due(run + " day", x.day(), model.day());
                break;
            case 9:
                Check.due(run + " undo", x.undo(), model.undo());
                break;
            case 10: {
                int slot = random.nextInt(4) - 1;
                if (random.nextInt(3) > 0) {
                    Check.due(run + " keep", x.keep(slot), model.keep(slot));
                } else {
                    Check.due(run + " again", x.again(slot), model.again(slot));
                }
                break;
            }
            default: {
                int law = random.nextInt(6) - 1;
                int cap = random.nextInt(12) - 1;
                Check.due(run + " law", x.law(law, cap), model.law(law, cap));
                break;
            }
        }
    }

    private static void questions(SpoonfulMore x, Model model, Random random, String run) {
        for (int sort = -1; sort <= 3; sort++) {
            Check.due(run + " least " + sort, x.least(sort), model.least(sort));
            for (int i = -1; i <= 8; i++) {
                Check.due(run + " leastAt " + sort + " " + i, x.leastAt(sort, i), model.leastAt(sort, i));
            }
        }
        for (int i = 0; i < 6; i++) {
            int m = i == 0 ? random.nextInt(10003) - 1 : random.nextInt(30) - 1;
            Check.due(run + " cap " + m, x.cap(m), model.cap(m));
        }
        for (int i = 0; i < 4; i++) {
            int t = random.nextInt(11) - 1;
            int p = random.nextInt(7) - 1;
            boolean had = random.nextInt(3) == 0;
            if (random.nextInt(8) == 0) {
                Check.due(run + " unsee", x.unsee(), model.unsee());
            } else {
                Check.due(run + " see", x.see(t, p, had), model.see(t, p, had));
            }
            int thing = random.nextInt(8) - 1;
            int n = random.nextInt(8);
            Check.due(run + " hands", x.hands(thing, n), model.hands(thing, n, 0));
            Check.due(run + " surely", x.surely(thing, n), model.hands(thing, n, 1));
        }
        int m = random.nextInt(44) - 1;
        Check.due(run + " year " + m, x.year(m), model.year(m));
        long seed = random.nextInt(3) == 0 ? random.nextLong() : model.seed;
        Check.due(run + " seed", x.seed(seed), model.seed);
        model.seed = seed;
    }

    /** A text takes 16 calls at most, so 20 of them leave an object far below its 512th call. */
    private static void texts() {
        Random random = new Random(11);
        SpoonfulMore x = new SpoonfulMore();
        Model model = new Model();
        for (int i = 0; i < 2000 && Check.wrongSoFar() < 20; i++) {
            if (i % 20 == 0) {
                x = new SpoonfulMore();
                model = new Model();
            }
            tell(x, model, spoiled(random, randomVillage(random)), "text " + i);
            Check.due("text " + i + " fault of " + model.text, x.fault(), model.fault());
            Check.due("text " + i + " village", x.village(), model.village());
        }
    }

    private static String newVillage(SpoonfulMore x, Model model, Random random, String told) {
        tell(x, model, randomVillage(random), told);
        String run = told + " of " + model.text;
        Check.due(run + " fault", x.fault(), NONE);
        Check.due(run + " village", x.village(), model.village());
        return run;
    }

    /** Villages one behind the other, acts in each, then whatever can be asked: at most 382 calls. */
    private static void runs() {
        for (int i = 0; i < 1500 && Check.wrongSoFar() < 20; i++) {
            Random random = new Random(1000 + i);
            SpoonfulMore x = new SpoonfulMore();
            Model model = new Model();
            String run = "run " + i;
            int villages = random.nextInt(4);
            for (int village = 0; village < villages; village++) {
                run = newVillage(x, model, random, "run " + i);
                for (int step = random.nextInt(45); step > 0; step--) {
                    acts(x, model, random, run + ", " + step + " steps ahead of the questions");
                }
            }
            if (random.nextBoolean()) {
                questions(x, model, random, run);
                all(x, model, run);
            } else {
                all(x, model, run);
                questions(x, model, random, run);
            }
        }
    }

    /** Acts, each with a look at what it changed; at most 484 calls. */
    private static void steps() {
        for (int i = 0; i < 1500 && Check.wrongSoFar() < 20; i++) {
            Random random = new Random(50000 + i);
            SpoonfulMore x = new SpoonfulMore();
            Model model = new Model();
            String run = newVillage(x, model, random, "steps " + i);
            for (int step = 0; step < 18; step++) {
                acts(x, model, random, run + " step " + step);
                changing(x, model, run + " step " + step);
            }
        }
    }

    /** Many acts, then undone one by one beyond the last one that is known; at most 507 calls. */
    private static void undone() {
        for (int i = 0; i < 1500 && Check.wrongSoFar() < 20; i++) {
            Random random = new Random(90000 + i);
            SpoonfulMore x = new SpoonfulMore();
            Model model = new Model();
            String run = newVillage(x, model, random, "undone " + i);
            for (int step = random.nextInt(50); step > 0; step--) {
                acts(x, model, random, run + ", " + step + " steps ahead of undo");
            }
            for (int undo = 0; undo < 17; undo++) {
                Check.due(run + " undo " + undo, x.undo(), model.undo());
                changing(x, model, run + " undo " + undo);
            }
        }
    }

    /** What n days cost in the mean, times 10 to the n: the first day with a need or without, then the others. */
    private static long meanOf(int sort, int grade, int n, int x, int cap) {
        if (n == 0) {
            return 0;
        }
        long without = meanOf(sort, grade, n - 1, x, cap);
        if (grade == cap) {
            return 10 * without;
        }
        long price = (sort + 1) * (grade + 1) * Math.round(Math.pow(10, n - 1));
        return x * (price + meanOf(sort, grade + 1, n - 1, x, cap)) + (10 - x) * without;
    }

    /** All that borrow can be asked; 177 calls an object at most. */
    private static void means() {
        for (int cap = 1; cap <= 9; cap++) {
            for (int ask = 0; ask < 3 * (cap + 1); ask++) {
                SpoonfulMore y = new SpoonfulMore();
                y.law(0, cap);
                for (int n = 1; n <= 8; n++) {
                    for (int x = 0; x <= 10; x++) {
                        mean(y, new int[] {ask % 3, ask / 3, n, x}, cap);
                    }
                }
            }
        }
    }

    private static void mean(SpoonfulMore y, int[] asked, int cap) {
        BigInteger above = BigInteger.valueOf(meanOf(asked[0], asked[1], asked[2], asked[3], cap));
        BigInteger below = BigInteger.TEN.pow(asked[2]);
        BigInteger common = above.gcd(below);
        String told = "borrow " + Arrays.toString(asked) + " by cap " + cap;
        Check.due(told + ", above", y.borrow(asked[0], asked[1], asked[2], asked[3], true),
            above.divide(common).longValueExact());
        Check.due(told + ", below", y.borrow(asked[0], asked[1], asked[2], asked[3], false),
            below.divide(common).longValueExact());
    }

    public static void main(String[] args) {
        texts();
        runs();
        steps();
        undone();
        means();
        Check.end();
    }
}
