/** Promises 14 to 17: power, best, way, odds. */
public final class CouldTest {
    public static void main(String[] args) {
        powers();
        bests();
        bestOfSeveral();
        ways();
        oddsOfAll();
        changesNothing();
        Due.end();
    }

    private static void powers() {
        MudMoot x = Due.told("p0 0 1 4;p1 1 1 3;p2 2 1 2;p3 3 1 0;");
        for (int quota = 1; quota <= 45; quota++) {
            for (int p = 0; p < 4; p++) {
                Due.due("power(" + p + ", " + quota + ")", x.power(p, quota), counted(new int[] {4, 3, 2, 0}, p, quota));
            }
        }
        Due.due("power(0, 5)", x.power(0, 5), 4);
        Due.due("power(1, 5)", x.power(1, 5), 4);
        Due.due("power(2, 5)", x.power(2, 5), 4);
        Due.due("power(3, 5)", x.power(3, 5), 0);
        Due.due("power(0, 9)", x.power(0, 9), 2);
        MudMoot most = Due.told("p0 0 1 9;p0 0 1 9;p0 0 1 9;p0 0 1 9;p0 0 1 9;");
        Due.due("power(4, 45)", most.power(4, 45), 1);
        Due.due("power(4, 27)", most.power(4, 27), 6);
        Due.due("power(4, 1)", most.power(4, 1), 1);
        int[][] bad = {{-1, 1}, {4, 1}, {0, 0}, {0, 46}, {0, -5}, {Integer.MAX_VALUE, 1}, {0, Integer.MIN_VALUE}};
        for (int[] b : bad) {
            Due.due("power(" + b[0] + ", " + b[1] + ")", x.power(b[0], b[1]), -1);
        }
        Due.due("power(0, 1) of nobody", new MudMoot().power(0, 1), -1);
    }

    /** Sets of the others, counted by taking them in one after another. */
    private static int counted(int[] voices, int p, int quota) {
        return counted(voices, p, quota, 0, 0);
    }

    private static int counted(int[] voices, int p, int quota, int next, int sum) {
        if (next == voices.length) {
            return sum < quota && sum + voices[p] >= quota ? 1 : 0;
        }
        int without = counted(voices, p, quota, next + 1, sum);
        return next == p ? without : without + counted(voices, p, quota, next + 1, sum + voices[next]);
    }

    private static void best(MudMoot x, int k, int saves, int... trays) {
        Due.due("best(" + k + ", -1)", x.best(k, -1), saves);
        for (int i = 0; i < 3; i++) {
            Due.due("best(" + k + ", " + i + ")", x.best(k, i), i < trays.length ? trays[i] : -9);
        }
    }

    private static void bests() {
        MudMoot x = Due.told("f1 1 5;f2 2 5;f3 3 5;f4 4 5;f0 5 3;f5 0 2;");
        best(x, 1, 10, 11);
        best(x, 2, 20, 11, 33);
        best(x, 3, 23, 4, 11, 33);
        MudMoot split = Due.told("f2 2 9;f2 3 8;f1 3 4;f3 2 4;");
        best(split, 1, 21, 12);
        best(split, 2, 25, 2, 22);
        best(split, 3, 25, 0, 2, 22);
        MudMoot corner = Due.told("f5 5 9;f0 5 7;f5 0 8;");
        best(corner, 1, 9, 44);
        best(corner, 2, 17, 40, 44);
        best(corner, 3, 24, 4, 40, 44);
        int[][] bad = {{0, 0}, {4, 0}, {-1, 0}, {1, -2}, {3, 3}, {1, 3}, {Integer.MAX_VALUE, 0}, {2, Integer.MIN_VALUE}};
        for (int[] b : bad) {
            Due.due("best(" + b[0] + ", " + b[1] + ")", x.best(b[0], b[1]), -1);
        }
    }

    private static void bestOfSeveral() {
        MudMoot dry = new MudMoot();
        best(dry, 1, 0, 0);
        best(dry, 2, 0, 0, 2);
        best(dry, 3, 0, 0, 2, 4);
        MudMoot one = Due.told("f3 3 6;");
        best(one, 1, 6, 22);
        best(one, 2, 6, 0, 22);
        best(one, 3, 6, 0, 2, 22);
        MudMoot even = Due.told("f1 4 6;f4 1 6;");
        best(even, 1, 6, 3);
        best(even, 2, 12, 3, 30);
        best(even, 3, 12, 0, 3, 30);
    }

    private static void ways() {
        MudMoot x = Due.told("p0 0 1 1;p5 5 1 1;p3 3 2 1;f1 0 1;f1 1 1;f1 2 1;f1 3 1;f1 4 1;f3 3 5;f0 0 1;");
        Due.due("way(0, 0) where he is", x.way(0, 0), 0);
        Due.due("way(0, 5)", x.way(0, 5), 5);
        Due.due("way(0, 20) round the mud", x.way(0, 20), 12);
        Due.due("way(0, 10) into mud", x.way(0, 10), -9);
        Due.due("way(1, 0) into mud", x.way(1, 0), -9);
        Due.due("way(1, 1)", x.way(1, 1), 9);
        Due.due("way(2, 33) where he is", x.way(2, 33), 0);
        Due.due("way(2, 32) out of mud", x.way(2, 32), 1);
        Due.due("way(2, 34)", x.way(2, 34), 1);
        Due.due("way(2, 23)", x.way(2, 23), 1);
        Due.due("way(2, 43)", x.way(2, 43), 1);
        Due.due("way(1, 33) into mud", x.way(1, 33), -9);
        Due.due("way(1, 30)", x.way(1, 30), 7);
        MudMoot dry = Due.told("p5 5 1 1;");
        Due.due("way(0, 0) over a dry field", dry.way(0, 0), 10);
        Due.due("way(0, 55) where he is", dry.way(0, 55), 0);
        MudMoot shut = Due.told("p0 0 1 1;p5 5 1 1;f0 1 1;f1 0 1;");
        Due.due("way(0, 11) shut in", shut.way(0, 11), -9);
        Due.due("way(1, 0) shut out", shut.way(1, 0), -9);
        Due.due("way(1, 11)", shut.way(1, 11), 8);
        int[][] bad = {{3, 0}, {-1, 0}, {0, -1}, {0, 6}, {0, 60}, {0, 56}, {0, Integer.MAX_VALUE}};
        for (int[] b : bad) {
            Due.due("way(" + b[0] + ", " + b[1] + ")", x.way(b[0], b[1]), -1);
        }
    }

    private static void odds(MudMoot x, int cell, int rain, int days, int upper, int lower) {
        String call = "odds(" + cell + ", " + rain + ", " + days + ", ";
        Due.due(call + "0)", x.odds(cell, rain, days, 0), upper);
        Due.due(call + "1)", x.odds(cell, rain, days, 1), lower);
    }

    private static void oddsOfAll() {
        MudMoot x = Due.told("s2;f0 0 5;f1 1 1;f2 2 9;f3 3 2;");
        odds(x, 0, 5, 8, 37, 256);
        odds(x, 0, 3, 2, 1, 1);
        odds(x, 0, 3, 3, 973, 1000);
        odds(x, 11, 3, 1, 7, 10);
        odds(x, 11, 7, 8, 6561, 100000000);
        odds(x, 33, 3, 8, 5764801, 100000000);
        odds(x, 11, 10, 0, 1, 1);
        odds(x, 11, 10, 1, 0, 1);
        odds(x, 22, 10, 4, 1, 1);
        odds(x, 22, 10, 5, 0, 1);
        odds(x, 22, 10, 8, 0, 1);
        odds(x, 22, 0, 8, 1, 1);
        odds(x, 22, 2, 5, 3124, 3125);
        odds(x, 55, 0, 0, 0, 1);
        odds(x, 55, 5, 8, 0, 1);
        int[][] bad = {{6, 0, 0, 0}, {60, 0, 0, 0}, {-1, 0, 0, 0}, {0, -1, 0, 0}, {0, 11, 0, 0}, {0, 0, -1, 0},
            {0, 0, 9, 0}, {0, 0, 0, -1}, {0, 0, 0, 2}};
        for (int[] b : bad) {
            Due.due("odds(" + b[0] + ", " + b[1] + ", " + b[2] + ", " + b[3] + ")",
                x.odds(b[0], b[1], b[2], b[3]), -1);
        }
    }

    private static void changesNothing() {
        MudMoot x = Due.told("p2 2 3 4;f2 2 3;f1 1 1;");
        x.stands(0, 1);
        x.power(0, 3);
        x.best(3, -1);
        x.way(0, 55);
        x.odds(22, 5, 5, 0);
        Due.due("now(0)", x.now(0), 7);
        Due.due("now(1)", x.now(1), 0);
        Due.due("now(2)", x.now(2), 0);
        Due.due("now(7)", x.now(7), 1);
        Due.due("person(0, 0)", x.person(0, 0), 22);
        Due.due("trace()", x.trace(), 0);
    }
}
