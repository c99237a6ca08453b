import java.util.ArrayList;
import java.util.List;
import java.util.Random;

/**
 * Promises 9 and 10 by their words: every POLICY is tried, in the order in which the earlier HOURS
 * weigh more and not to tell comes first, and the first of least LOSS is BEST.
 */
final class PoliciesTest {
    private static final Due due = new Due();
    private static final int[] LEVELS = {0, 190, 280, 310, 320, 400};
    private static final int MOST_CHOICES = 16;

    private int[][] levels;
    private int[] weights;
    private final int[] rules = new int[8];
    private final int[] rivers = new int[8];
    /** By WORLD and HOUR: which choice of a POLICY it goes by. */
    private int[][] choice;
    private int choices;
    /** By WORLD, HOUR and what is asked. */
    private int[][][] course;

    public static void main(String[] args) {
        Random random = new Random(20261118);
        int tried = 0;
        for (int round = 0; round < 4000 && tried < 400; round++) {
            PoliciesTest test = new PoliciesTest();
            test.draw(random);
            if (test.choices <= MOST_CHOICES) {
                tried++;
                test.compare();
            }
        }
        due.holds("enough was tried", tried >= 100);
        due.end();
    }

    private void draw(Random random) {
        int n = 1 + random.nextInt(4);
        levels = new int[n][8];
        weights = new int[n];
        for (int w = 0; w < n; w++) {
            weights[w] = 1 + random.nextInt(random.nextBoolean() ? 3 : 20);
            int parts = w == 0 ? 0 : 3 + random.nextInt(6);
            int from = w == 0 ? 0 : random.nextInt(w);
            for (int h = 0; h < 8; h++) {
                levels[w][h] = h < parts ? levels[from][h] : LEVELS[random.nextInt(LEVELS.length)];
            }
        }
        int[][] may = {{1, 2, 3}, {1, 2, 3}, {300, 250, 309}, {200, 0, 300}, {50, 0, 10, 100}, {5, 0, 10}, {10, 1, 0}, {3, 1, 0}};
        for (int r = 0; r < 8; r++) {
            rules[r] = may[r][random.nextInt(may[r].length)];
        }
        for (int h = 0; h < 8; h++) {
            rivers[h] = random.nextInt(3) * 10;
        }
        numberChoices();
    }

    private void numberChoices() {
        choice = new int[levels.length][8];
        List<String> seen = new ArrayList<>();
        for (int h = 0; h < 8; h++) {
            for (int w = 0; w < levels.length; w++) {
                StringBuilder shown = new StringBuilder();
                for (int k = 0; k <= h; k++) {
                    shown.append(levels[w][k]).append(' ');
                }
                String key = shown.toString();
                if (!seen.contains(key)) {
                    seen.add(key);
                }
                choice[w][h] = seen.indexOf(key);
            }
        }
        choices = seen.size();
    }

    /** LOSS of a POLICY; choice 0 is its highest bit, so that lesser numbers do not tell earlier. -1: it tells what cannot be told. */
    private long loss(int policy) {
        course = new int[levels.length][8][4];
        long loss = 0;
        for (int w = 0; w < levels.length; w++) {
            int how = 0;
            int left = 0;
            int water = 0;
            for (int h = 0; h < 8; h++) {
                boolean tells = (policy >> (choices - 1 - choice[w][h]) & 1) == 1;
                int told = 0;
                int lost = 0;
                if (tells && how == 0) {
                    told = 1;
                    how = 1;
                    left = rules[0];
                    lost += rules[4];
                } else if (tells && how == 2) {
                    told = 2;
                    how = 3;
                    left = rules[1];
                } else if (tells) {
                    return -1;
                }
                if (how == 2) {
                    water += rivers[h];
                    lost += rules[5] + rules[7] * Math.max(0, water - rules[3]);
                } else {
                    water = levels[w][h];
                    lost += rules[6] * Math.max(0, water - rules[2]);
                }
                course[w][h] = new int[] {told, how, water, lost};
                loss += (long) weights[w] * lost;
                left--;
                if (left == 0) {
                    how = how == 1 ? 2 : 0;
                }
            }
        }
        return loss;
    }

    private void compare() {
        SeaGates x = new SeaGates();
        for (int r = 0; r < 8; r++) {
            x.rule(r, rules[r]);
        }
        for (int h = 0; h < 8; h++) {
            x.river(h, rivers[h]);
        }
        for (int w = 0; w < levels.length; w++) {
            Due.world(x, weights[w], levels[w]);
        }
        long least = Long.MAX_VALUE;
        int first = 0;
        for (int policy = 0; policy < 1 << choices; policy++) {
            long loss = loss(policy);
            if (loss >= 0 && loss < least) {
                least = loss;
                first = policy;
            }
        }
        due.is("best of " + java.util.Arrays.deepToString(levels), x.best(), least);
        loss(first);
        for (int w = 0; w < levels.length; w++) {
            for (int h = 0; h < 8; h++) {
                for (int what = 0; what < 4; what++) {
                    due.is("hour(" + w + ", " + h + ", " + what + ")", x.hour(w, h, what), course[w][h][what]);
                }
            }
        }
    }
}
