import java.math.BigInteger;

/** The edges of promises 14 to 17: quotas, rows of trays, ways through mud, odds from never to always. */
public final class CouldEdgeTest {
    private static final int[] FAR = {Integer.MIN_VALUE, -1000000, -10, -9, -2, 46, 47, 100, 256, Integer.MAX_VALUE - 1,
        Integer.MAX_VALUE};

    public static void main(String[] args) {
        quotas();
        powerOfOne();
        powerAtTheQuota();
        powerOfEach();
        bestArguments();
        bestOfDryAndDeepest();
        bestOfSeveral();
        noCellInTwo();
        bestOfNeighboursInOrder();
        bestOfOneCell();
        wayArguments();
        wayOnDry();
        wayThroughMud();
        longestWay();
        oddsArguments();
        oddsOfAllDays();
        oddsBySoaked();
        oddsGreatest();
        Due.end();
    }

    // ---- promise 14

    private static void quotas() {
        MudMoot x = Due.told("p0 0 1 9;p1 0 1 9;p2 0 1 9;p3 0 1 9;p4 0 1 9;");
        int[] due = {1, 4, 6, 4, 1};
        for (int quota = -1; quota <= 47; quota++) {
            boolean is = quota >= 1 && quota <= 45;
            for (int p = -1; p <= 5; p++) {
                boolean one = p >= 0 && p <= 4;
                Due.due("promise 14: power(" + p + ", " + quota + ") of five with 9", x.power(p, quota),
                    is && one ? due[(quota - 1) / 9] : -1);
            }
        }
        MudMoot fresh = Due.told("p0 0 1 9;");
        for (int far : FAR) {
            Due.due("promise 14: power(0, " + far + ")", fresh.power(0, far), -1);
            Due.due("promise 14: power(" + far + ", 1)", fresh.power(far, 1), -1);
        }
    }

    private static void powerOfOne() {
        for (int voices = 0; voices <= 9; voices++) {
            MudMoot x = Due.told("p0 0 1 " + voices + ";");
            for (int quota = 1; quota <= 45; quota++) {
                Due.due("promise 14: one alone with " + voices + ", quota " + quota, x.power(0, quota),
                    voices >= quota ? 1 : 0);
            }
            Due.due("promise 14: no such person", x.power(1, 1), -1);
        }
    }

    private static void powerAtTheQuota() {
        MudMoot x = Due.told("p0 0 1 4;p0 0 1 5;");
        int[][] due = {{1, 1, 1, 1, 0, 1, 1, 1, 1, 0}, {1, 1, 1, 1, 2, 1, 1, 1, 1, 0}};
        for (int p = 0; p < 2; p++) {
            for (int quota = 1; quota <= 10; quota++) {
                Due.due("promise 14: power(" + p + ", " + quota + ") of 4 and 5", x.power(p, quota), due[p][quota - 1]);
            }
        }
    }

    private static void powerOfEach() {
        MudMoot x = Due.told("p5 5 4 1;p0 0 4 2;p0 0 4 4;p0 0 4 8;p0 0 4 0;");
        int[] voices = {1, 2, 4, 8, 0};
        for (int p = 0; p < 5; p++) {
            for (int quota = 1; quota <= 16; quota++) {
                int due = 0;
                for (int set = 0; set < 32; set++) {
                    // the voices together are the lower four bits of the set itself
                    int with = (set & 15) + voices[p];
                    due += (set >> p & 1) == 0 && (set & 15) < quota && with >= quota ? 1 : 0;
                }
                Due.due("promise 14: power(" + p + ", " + quota + ") of 1, 2, 4, 8, 0", x.power(p, quota), due);
            }
        }
        Due.due("promise 14: all but the last voice", x.power(0, 15), 2);
        Due.due("promise 14: more than all voices", x.power(3, 16), 0);
    }

    // ---- promise 15

    private static void bestArguments() {
        MudMoot x = Due.told("f0 0 1;");
        for (int k = -1; k <= 5; k++) {
            for (int i = -3; i <= 4; i++) {
                boolean is = k >= 1 && k <= 3 && i >= -1 && i <= 2;
                int[] dry = {0, 2, 4};
                Due.due("promise 15: best(" + k + ", " + i + ")", x.best(k, i),
                    !is ? -1 : i == -1 ? 1 : i >= k ? -9 : dry[i]);
            }
        }
        for (int far : FAR) {
            Due.due("promise 15: best(" + far + ", 0)", x.best(far, 0), -1);
            Due.due("promise 15: best(1, " + far + ")", x.best(1, far), -1);
        }
    }

    private static void best(MudMoot x, String what, int k, int saves, int... trays) {
        Due.due("promise 15: best(" + k + ", -1), " + what, x.best(k, -1), saves);
        for (int i = 0; i < 3; i++) {
            Due.due("promise 15: best(" + k + ", " + i + "), " + what, x.best(k, i), i < trays.length ? trays[i] : -9);
        }
    }

    private static void bestOfDryAndDeepest() {
        MudMoot dry = new MudMoot();
        best(dry, "a dry field", 1, 0, 0);
        best(dry, "a dry field", 2, 0, 0, 2);
        best(dry, "a dry field", 3, 0, 0, 2, 4);
        MudMoot deepest = Due.trodden(4, 2);
        best(deepest, "all 9 deep", 1, 36, 0);
        best(deepest, "all 9 deep", 2, 72, 0, 2);
        best(deepest, "all 9 deep", 3, 108, 0, 2, 4);
    }

    private static void bestOfSeveral() {
        MudMoot corners = Due.told("f0 0 5;f0 5 5;f5 0 5;f5 5 5;");
        best(corners, "four corners", 1, 5, 0);
        best(corners, "four corners", 2, 10, 0, 4);
        best(corners, "four corners", 3, 15, 0, 4, 40);
        MudMoot last = Due.told("f5 5 9;f5 2 9;f2 5 9;");
        best(last, "the last trays", 1, 9, 14);
        best(last, "the last trays", 2, 18, 14, 41);
        best(last, "the last trays", 3, 27, 14, 41, 44);
        MudMoot column = Due.told("f5 1 1;f5 3 1;f5 5 1;");
        best(column, "a later row of the same", 1, 1, 40);
        best(column, "a later row of the same", 2, 2, 40, 42);
        best(column, "a later row of the same", 3, 3, 40, 42, 44);
        MudMoot less = Due.told("f0 0 1;f3 3 2;");
        best(less, "a later one saves more", 1, 2, 22);
        best(less, "a later one saves more", 2, 3, 0, 22);
        best(less, "a later one saves more", 3, 3, 0, 2, 22);
    }

    private static void noCellInTwo() {
        MudMoot down = Due.told("f0 0 5;f1 1 1;f2 2 5;");
        best(down, "trays that share a corner", 1, 6, 0);
        best(down, "trays that share a corner", 2, 11, 0, 12);
        MudMoot up = Due.told("f0 2 5;f1 1 1;f2 0 5;");
        best(up, "trays that share another corner", 1, 6, 1);
        best(up, "trays that share another corner", 2, 11, 1, 20);
        MudMoot row = Due.told("f0 0 5;f0 1 9;f0 2 5;");
        best(row, "trays that share an edge", 1, 14, 0);
        best(row, "trays that share an edge", 2, 19, 0, 2);
        MudMoot near = Due.told("f0 0 9;f1 1 9;f0 2 9;f1 3 9;f2 0 9;f3 1 9;");
        best(near, "trays side by side", 1, 18, 0);
        best(near, "trays side by side", 2, 36, 0, 2);
        best(near, "trays side by side", 3, 54, 0, 2, 20);
    }

    /** The last tray of one x and the first of the next are told one behind the other, and are far apart. */
    private static void bestOfNeighboursInOrder() {
        MudMoot two = Due.told("f0 5 9;f1 0 9;f2 0 9;");
        best(two, "0, 4 and 1, 0", 1, 18, 10);
        best(two, "0, 4 and 1, 0", 2, 27, 4, 10);
        MudMoot three = Due.told("f0 2 9;f0 3 9;f0 5 9;f1 0 9;f2 0 9;");
        best(three, "0, 2 and 0, 4 and 1, 0", 3, 45, 2, 4, 10);
        MudMoot last = Due.told("f5 0 9;f4 0 9;f3 5 9;f4 5 9;f0 3 1;");
        best(last, "3, 4 and 4, 0", 2, 36, 34, 40);
        best(last, "3, 4 and 4, 0", 3, 37, 2, 34, 40);
    }

    private static void bestOfOneCell() {
        for (int cell = 0; cell <= 55; cell++) {
            if (cell % 10 < 6) {
                MudMoot x = Due.told("f" + cell / 10 + " " + cell % 10 + " 7;");
                int first = 10 * Math.max(0, cell / 10 - 1) + Math.max(0, cell % 10 - 1);
                Due.due("promise 15: best(1, -1) of " + cell, x.best(1, -1), 7);
                Due.due("promise 15: best(1, 0) of " + cell, x.best(1, 0), first);
                Due.due("promise 11: the best tray of " + cell, x.lifts(first / 10, first % 10), 7);
                Due.due("promise 15: best(1, -1) with all lifted", x.best(1, -1), 0);
            }
        }
    }

    // ---- promise 16

    private static void wayArguments() {
        MudMoot x = Due.told("p0 0 1 0;p5 5 1 0;");
        for (int cell = -12; cell <= 67; cell++) {
            boolean is = cell >= 0 && cell / 10 <= 5 && cell % 10 <= 5;
            Due.due("promise 16: way(0, " + cell + ")", x.way(0, cell), is ? cell / 10 + cell % 10 : -1);
            Due.due("promise 16: way(1, " + cell + ")", x.way(1, cell), is ? 10 - cell / 10 - cell % 10 : -1);
            Due.due("promise 16: way(2, " + cell + ")", x.way(2, cell), -1);
            Due.due("promise 16: way(-1, " + cell + ")", x.way(-1, cell), -1);
        }
        for (int far : FAR) {
            Due.due("promise 16: way(" + far + ", 0)", x.way(far, 0), -1);
            Due.due("promise 16: way(0, " + far + ")", x.way(0, far), -1);
        }
    }

    private static void wayOnDry() {
        for (int from = 0; from <= 55; from++) {
            MudMoot x = Due.told("p" + from / 10 + " " + Math.min(5, from % 10) + " 4 9;");
            for (int to = 0; to <= 55; to++) {
                if (from % 10 < 6 && to % 10 < 6) {
                    int due = Math.abs(from / 10 - to / 10) + Math.abs(from % 10 - to % 10);
                    Due.due("promise 16: way from " + from + " to " + to, x.way(0, to), due);
                }
            }
        }
    }

    private static void wayThroughMud() {
        MudMoot x = Due.told("p2 2 1 0;f2 2 9;f2 1 1;f1 2 1;f3 2 1;");
        Due.due("promise 16: where he is, 9 deep", x.way(0, 22), 0);
        Due.due("promise 16: the one way out", x.way(0, 23), 1);
        Due.due("promise 16: not through a corner", x.way(0, 11), 6);
        Due.due("promise 16: not into mud", x.way(0, 21), -9);
        Due.due("promise 16: round it", x.way(0, 20), 8);
        x.walks(0, 3);
        Due.due("promise 16: his own print may be deep", x.way(0, 24), 1);
        Due.due("promise 16: not back through mud", x.way(0, 22), -9);
        Due.due("promise 16: where he is", x.way(0, 23), 0);
        MudMoot shut = Due.told("p2 2 1 0;p0 0 1 0;f2 1 1;f1 2 1;f3 2 1;f2 3 1;");
        for (int cell = 0; cell <= 55; cell++) {
            if (cell % 10 < 6) {
                Due.due("promise 16: shut in, to " + cell, shut.way(0, cell), cell == 22 ? 0 : -9);
            }
        }
        Due.due("promise 16: shut out", shut.way(1, 22), -9);
        shut.rains();
        Due.due("promise 16: let out by rain", shut.way(0, 0), 4);
        Due.due("promise 16: let in by rain", shut.way(1, 22), 4);
        MudMoot all = Due.trodden(1, 0);
        for (int cell = 0; cell <= 55; cell++) {
            Due.due("promise 16: all mud, to " + cell, all.way(0, cell), cell % 10 > 5 ? -1 : cell == 50 ? 0 : -9);
        }
    }

    /** Walls at x 1 and 3; then one more at x 5 by the boots. */
    private static void longestWay() {
        MudMoot x = Due.told("p0 0 1 0;p5 0 1 0;f1 0 1;f1 1 1;f1 2 1;f1 3 1;f1 4 1;f3 1 1;f3 2 1;f3 3 1;f3 4 1;f3 5 1;");
        Due.due("promise 16: to the end of the first lane", x.way(0, 5), 5);
        Due.due("promise 16: to the end of the second lane", x.way(0, 20), 12);
        Due.due("promise 16: to the end of the third lane", x.way(0, 45), 19);
        Due.due("promise 16: to the last cell", x.way(0, 55), 20);
        Due.due("promise 16: on the way", x.way(0, 25), 7);
        x.stands(1, 0);
        for (int step = 0; step < 4; step++) {
            x.walks(1, 3);
        }
        Due.due("promise 16: to the last cell, round one wall more", x.way(0, 55), 20);
        Due.due("promise 16: not back over his own", x.way(1, 0), 19);
        Due.due("promise 16: into the third wall", x.way(0, 50), -9);
    }

    // ---- promise 17

    private static void oddsArguments() {
        MudMoot x = Due.told("f0 0 1;f5 5 9;");
        for (int what = -2; what <= 3; what++) {
            int[] due = {-1, -1, 1, 1, -1, -1};
            Due.due("promise 17: odds(0, 0, 8, " + what + ")", x.odds(0, 0, 8, what), due[what + 2]);
            Due.due("promise 17: odds(0, 0, 9, " + what + ")", x.odds(0, 0, 9, what), -1);
            Due.due("promise 17: odds(0, 11, 0, " + what + ")", x.odds(0, 11, 0, what), -1);
            Due.due("promise 17: odds(56, 0, 0, " + what + ")", x.odds(56, 0, 0, what), -1);
        }
        for (int n = -3; n <= 11; n++) {
            Due.due("promise 17: odds(55, 0, " + n + ", 0)", x.odds(55, 0, n, 0), n < 0 || n > 8 ? -1 : 1);
            Due.due("promise 17: odds(0, 10, " + n + ", 0)", x.odds(0, 10, n, 0), n < 0 || n > 8 ? -1 : n == 0 ? 1 : 0);
        }
        for (int rain = -3; rain <= 13; rain++) {
            Due.due("promise 17: odds(0, " + rain + ", 0, 1)", x.odds(0, rain, 0, 1), rain < 0 || rain > 10 ? -1 : 1);
        }
        for (int cell = -12; cell <= 67; cell++) {
            boolean is = cell >= 0 && cell / 10 <= 5 && cell % 10 <= 5;
            Due.due("promise 17: odds(" + cell + ", 0, 0, 1)", x.odds(cell, 0, 0, 1), is ? 1 : -1);
        }
        for (int far : FAR) {
            Due.due("promise 17: odds(0, " + far + ", 0, 0)", x.odds(0, far, 0, 0), -1);
            Due.due("promise 17: odds(0, 0, " + far + ", 0)", x.odds(0, 0, far, 0), -1);
            Due.due("promise 17: odds(0, 0, 0, " + far + ")", x.odds(0, 0, 0, far), -1);
        }
    }

    /** Each pattern of days with and without rain, added up. */
    private static void odds(MudMoot x, String what, int deep, int soaked, int rain, int n) {
        long upper = 0;
        long lower = 1;
        for (int day = 0; day < n; day++) {
            lower *= 10;
        }
        for (int days = 0; days < 1 << n; days++) {
            long chance = 1;
            for (int day = 0; day < n; day++) {
                chance *= (days >> day & 1) == 1 ? rain : 10 - rain;
            }
            upper += deep - soaked * Integer.bitCount(days) > 0 ? chance : 0;
        }
        long part = BigInteger.valueOf(upper).gcd(BigInteger.valueOf(lower)).longValue();
        Due.due("promise 17: upper, " + what, x.odds(32, rain, n, 0), upper / part);
        Due.due("promise 17: lower, " + what, x.odds(32, rain, n, 1), lower / part);
    }

    private static void oddsOfAllDays() {
        for (int deep = 0; deep <= 9; deep++) {
            MudMoot x = Due.told("f3 2 " + deep + ";");
            for (int rain = 0; rain <= 10; rain++) {
                for (int n = 0; n <= 8; n++) {
                    odds(x, deep + " deep, " + rain + " of 10, " + n + " days", deep, 1, rain, n);
                }
            }
        }
    }

    private static void oddsBySoaked() {
        for (int soaked = 1; soaked <= 9; soaked++) {
            for (int deep = 0; deep <= 9; deep++) {
                MudMoot x = Due.told("s" + soaked + ";f3 2 " + deep + ";");
                odds(x, deep + " deep by " + soaked + ", 8 days", deep, soaked, 3, 8);
                odds(x, deep + " deep by " + soaked + ", 5 days", deep, soaked, 5, 5);
                odds(x, deep + " deep by " + soaked + ", a day", deep, soaked, 10, 1);
                odds(x, deep + " deep by " + soaked + ", no day", deep, soaked, 10, 0);
            }
        }
    }

    private static void oddsGreatest() {
        MudMoot x = Due.told("f3 2 8;f0 0 1;");
        Due.due("promise 17: the greatest upper number", x.odds(32, 1, 8, 0), 99999999);
        Due.due("promise 17: the greatest lower number", x.odds(32, 1, 8, 1), 100000000);
        Due.due("promise 17: the least odds, upper", x.odds(0, 9, 8, 0), 1);
        Due.due("promise 17: the least odds, lower", x.odds(0, 9, 8, 1), 100000000);
        Due.due("promise 17: of what is dry, upper", x.odds(55, 3, 8, 0), 0);
        Due.due("promise 17: of what is dry, lower", x.odds(55, 3, 8, 1), 1);
    }
}
