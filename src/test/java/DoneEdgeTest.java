/** The edges of promises 8 to 13: the sides of the field, 9 deep, 999 saved, ties, ten acts undone and the eleventh. */
public final class DoneEdgeTest {
    private static final int[] FAR = {Integer.MIN_VALUE, -1000000, -10, -9, -2, -1, 6, 7, 9, 10, 55, 256,
        Integer.MAX_VALUE - 1, Integer.MAX_VALUE};
    private static final int[] DX = {-1, 1, 0, 0};
    private static final int[] DY = {0, 0, -1, 1};

    public static void main(String[] args) {
        walksFromEachCell();
        walksOfEach();
        walksThere();
        printsWalked();
        printsStood();
        standsOfEach();
        rainOnEachDepth();
        rainOnAll();
        trays();
        oneDeepInATray();
        deepestTray();
        savedToTheMost();
        savedBeyondTheMost();
        linesToVoteBy();
        votesOnTheLine();
        votesOfNobody();
        manyVotes();
        eachActUndone();
        tenActsAndEleven();
        eachActAsTheEleventh();
        whatIsNotUndone();
        Due.end();
    }

    // ---- promise 8

    private static void walksFromEachCell() {
        for (int cell = 0; cell <= 55; cell++) {
            for (int side = 0; side < 4 && cell % 10 < 6; side++) {
                int x = cell / 10 + DX[side];
                int y = cell % 10 + DY[side];
                boolean is = x >= 0 && x <= 5 && y >= 0 && y <= 5;
                MudMoot moot = Due.told("p" + cell / 10 + " " + cell % 10 + " 3 0;");
                String call = "promise 8, from " + cell + " to side " + side;
                Due.due(call, moot.walks(0, side), is ? 3 : -2);
                Due.due(call + ": where he is", moot.person(0, 0), is ? 10 * x + y : cell);
                Due.due(call + ": all that is deep", moot.now(0), is ? 3 : 0);
                Due.due(call + ": how deep there", moot.cell(is ? 10 * x + y : cell, 0), is ? 3 : 0);
                Due.due(call + ": toes there", moot.cell(is ? 10 * x + y : cell, 1), is ? side : -9);
                Due.due(call + ": what may be undone", moot.now(7), is ? 1 : 0);
            }
        }
    }

    private static MudMoot five() {
        return Due.told("p2 2 1 0;p2 2 2 0;p2 2 3 0;p2 2 4 0;p2 2 1 0;");
    }

    private static void walksOfEach() {
        int[] weights = {1, 2, 3, 4, 1};
        for (int p = -1; p <= 5; p++) {
            for (int side = -1; side <= 4; side++) {
                MudMoot x = five();
                boolean is = p >= 0 && p < 5 && side >= 0 && side < 4;
                Due.due("promise 8: walks(" + p + ", " + side + ")", x.walks(p, side), is ? weights[p] : -1);
                Due.due("promise 8: who stays", x.cell(22, 2), is ? 31 - (1 << p) : 31);
                Due.due("promise 8: no print left behind", x.cell(22, 0), 0);
            }
        }
        MudMoot x = five();
        for (int far : FAR) {
            Due.due("promise 8: walks(" + far + ", 0)", x.walks(far, 0), -1);
            Due.due("promise 8: walks(0, " + far + ")", x.walks(0, far), -1);
        }
        Due.due("promise 8: nothing to be undone behind refusals", x.now(7), 0);
        MudMoot two = Due.told("p2 2 1 0;p3 3 1 0;");
        Due.due("promise 8: the last of two", two.walks(1, 0), 1);
        Due.due("promise 8: the next of two", two.walks(2, 0), -1);
    }

    private static void walksThere() {
        MudMoot x = Due.told("p0 0 2 0;f0 0 4;f5 0 1;");
        for (int step = 1; step <= 5; step++) {
            Due.due("promise 8: step " + step, x.walks(0, 1), step == 5 ? 3 : 2);
        }
        Due.due("promise 8: no step off the field", x.walks(0, 1), -2);
        Due.due("promise 8: no step round the field", x.person(0, 0), 50);
        Due.due("promise 8: the first step back", x.walks(0, 0), 4);
        Due.due("promise 8: toes of the latest print", x.cell(40, 1), 0);
        Due.due("promise 8: toes of another print", x.cell(30, 1), 1);
        Due.due("promise 8: where he was at first", x.cell(0, 0), 4);
        Due.due("promise 8: no toes where he was at first", x.cell(0, 1), -9);
    }

    private static void printsWalked() {
        for (int weight = 1; weight <= 4; weight++) {
            for (int deep = 0; deep <= 9; deep++) {
                MudMoot x = Due.told("p3 2 " + weight + " 0;f2 2 " + deep + ";f3 2 " + deep + ";");
                int due = deep + weight > 9 ? 9 : deep + weight;
                String call = "promise 8, weight " + weight + " on " + deep;
                Due.due(call, x.walks(0, 0), due);
                Due.due(call + ": cell(22, 0)", x.cell(22, 0), due);
                Due.due(call + ": cell(22, 1)", x.cell(22, 1), 0);
                Due.due(call + ": cell(32, 0)", x.cell(32, 0), deep);
                Due.due(call + ": cell(32, 1)", x.cell(32, 1), -9);
            }
        }
    }

    // ---- promise 9

    private static void printsStood() {
        for (int weight = 1; weight <= 4; weight++) {
            for (int deep = 0; deep <= 9; deep++) {
                MudMoot x = Due.told("p5 0 " + weight + " 0;f5 0 " + deep + ";");
                int due = deep;
                for (int side = 0; side < 4; side++) {
                    due = due + weight > 9 ? 9 : due + weight;
                    String call = "promise 9, weight " + weight + " on " + deep + ", side " + side;
                    Due.due(call, x.stands(0, side), due);
                    Due.due(call + ": cell(50, 0)", x.cell(50, 0), due);
                    Due.due(call + ": cell(50, 1)", x.cell(50, 1), side);
                    Due.due(call + ": where he is", x.person(0, 0), 50);
                    Due.due(call + ": all that is deep", x.now(0), due);
                    Due.due(call + ": now(7)", x.now(7), side + 1);
                }
            }
        }
    }

    private static void standsOfEach() {
        int[] weights = {1, 2, 3, 4, 1};
        for (int p = -1; p <= 5; p++) {
            for (int side = -1; side <= 4; side++) {
                boolean is = p >= 0 && p < 5 && side >= 0 && side < 4;
                Due.due("promise 9: stands(" + p + ", " + side + ")", five().stands(p, side), is ? weights[p] : -1);
            }
        }
        MudMoot x = five();
        for (int far : FAR) {
            Due.due("promise 9: stands(" + far + ", 0)", x.stands(far, 0), -1);
            Due.due("promise 9: stands(0, " + far + ")", x.stands(0, far), -1);
        }
        Due.due("promise 9: nothing to be undone behind refusals", x.now(7), 0);
    }

    // ---- promise 10

    private static void rainOnEachDepth() {
        for (int soaked = 1; soaked <= 9; soaked++) {
            for (int deep = 0; deep <= 9; deep++) {
                String print = deep == 0 ? "" : "f0 5 " + (deep - 1) + ";";
                MudMoot x = Due.told("s" + soaked + ";p0 5 1 0;" + print + "f5 0 " + deep + ";");
                if (deep > 0) {
                    Due.due("promise 9: a print of 1", x.stands(0, 2), deep);
                }
                int left = deep > soaked ? deep - soaked : 0;
                String call = "promise 10, " + deep + " deep by " + soaked;
                Due.due(call, x.rains(), deep > 0 && left == 0 ? 2 : 0);
                Due.due(call + ": cell(5, 0)", x.cell(5, 0), left);
                Due.due(call + ": cell(50, 0)", x.cell(50, 0), left);
                Due.due(call + ": cell(5, 1)", x.cell(5, 1), left > 0 ? 2 : -9);
                Due.due(call + ": now(0)", x.now(0), 2 * left);
            }
        }
    }

    private static void rainOnAll() {
        MudMoot x = Due.trodden(1, 0);
        Due.due("promise 10: all 36 cells", x.rains(), 36);
        Due.due("promise 10: now(0)", x.now(0), 0);
        for (int cell = 0; cell <= 55; cell++) {
            Due.due("promise 10: no toes at " + cell, x.cell(cell, 1), cell % 10 < 6 ? -9 : -1);
        }
        Due.due("promise 10: none is dry by it", x.rains(), 0);
        Due.due("promise 13: that rain undone", x.undo(), 9);
        Due.due("promise 10: dry yet", x.now(0), 0);
        Due.due("promise 13: the rain ahead undone", x.undo(), 8);
        Due.due("promise 10: deep anew", x.now(0), 36);
        MudMoot two = Due.trodden(2, 0);
        Due.due("promise 10: none of 36 is dry by it", two.rains(), 0);
        Due.due("promise 10: each is 1 less", two.now(0), 36);
        Due.due("promise 10: where he is is as it was", two.person(0, 0), 50);
        MudMoot fresh = new MudMoot();
        for (int i = 1; i <= 11; i++) {
            Due.due("promise 10: rain on a new field", fresh.rains(), 0);
            Due.due("promise 10: can be undone, too", fresh.now(7), i > 10 ? 10 : i);
        }
    }

    // ---- promise 11

    private static boolean inTray(int cell, int x, int y) {
        int dx = cell / 10 - x;
        int dy = cell % 10 - y;
        return dx >= 0 && dx <= 1 && dy >= 0 && dy <= 1;
    }

    private static void trays() {
        for (int x = -1; x <= 5; x++) {
            for (int y = -1; y <= 5; y++) {
                MudMoot moot = Due.trodden(1, 0);
                boolean is = x >= 0 && x <= 4 && y >= 0 && y <= 4;
                int[] toes = new int[56];
                for (int cell = 0; cell <= 55; cell++) {
                    toes[cell] = moot.cell(cell, 1);
                }
                String call = "promise 11: lifts(" + x + ", " + y + ")";
                Due.due(call, moot.lifts(x, y), is ? 4 : -1);
                Due.due(call + ", SAVED", moot.now(1), is ? 4 : 0);
                for (int cell = 0; cell <= 55; cell++) {
                    boolean lifted = is && inTray(cell, x, y);
                    int deep = cell % 10 > 5 ? -1 : lifted ? 0 : 1;
                    Due.due(call + ", cell(" + cell + ", 0)", moot.cell(cell, 0), deep);
                    Due.due(call + ", cell(" + cell + ", 1)", moot.cell(cell, 1), lifted && deep == 0 ? -9 : toes[cell]);
                }
                Due.due(call + " again", moot.lifts(x, y), is ? -2 : -1);
                Due.due(call + ", who is where", moot.person(0, 0), 50);
            }
        }
        MudMoot dry = new MudMoot();
        for (int far : FAR) {
            Due.due("promise 11: lifts(" + far + ", 0)", dry.lifts(far, 0), -1);
            Due.due("promise 11: lifts(0, " + far + ")", dry.lifts(0, far), -1);
        }
        Due.due("promise 11: lifts(0, 0), all four dry", dry.lifts(0, 0), -2);
        Due.due("promise 11: lifts(4, 4), all four dry", dry.lifts(4, 4), -2);
        Due.due("promise 11: BAD ahead of STATE, x", dry.lifts(5, 4), -1);
        Due.due("promise 11: BAD ahead of STATE, y", dry.lifts(4, 5), -1);
    }

    private static void oneDeepInATray() {
        for (int cell = 0; cell <= 55; cell++) {
            for (int tray = 0; tray <= 44 && cell % 10 < 6; tray++) {
                if (tray % 10 < 5) {
                    MudMoot x = Due.told("f" + cell / 10 + " " + cell % 10 + " 1;");
                    boolean in = inTray(cell, tray / 10, tray % 10);
                    String call = "promise 11, " + cell + " is deep, " + tray + " is lifted";
                    Due.due(call, x.lifts(tray / 10, tray % 10), in ? 1 : -2);
                    Due.due(call + ": SAVED", x.now(1), in ? 1 : 0);
                    Due.due(call + ": now(0)", x.now(0), in ? 0 : 1);
                    Due.due(call + ": now(7)", x.now(7), in ? 1 : 0);
                }
            }
        }
    }

    private static void deepestTray() {
        MudMoot x = Due.trodden(4, 2);
        int saved = 0;
        for (int tray : new int[] {0, 2, 4, 20, 22, 24, 40, 42, 44}) {
            saved += 36;
            Due.due("promise 11: four cells 9 deep", x.lifts(tray / 10, tray % 10), 36);
            Due.due("promise 11: SAVED", x.now(1), saved);
        }
        Due.due("promise 11: all is saved", x.now(0), 0);
    }

    /** 998 saved, by a ring of twelve steps round a tray, lifted with its four cells 9 deep, 27 times. */
    private static MudMoot nearlyAllSaved() {
        MudMoot x = Due.told("p0 0 4 0;f5 5 9;f4 5 9;f5 4 8;f0 5 1;f5 0 5;");
        int[] ring = {1, 3, 0, 2};
        for (int round = 0; round < 27; round++) {
            for (int step = 0; step < 12; step++) {
                x.walks(0, ring[step % 4]);
            }
            x.lifts(0, 0);
        }
        Due.due("promise 11: lifts(4, 4) to 998", x.lifts(4, 4), 26);
        Due.due("promise 11: SAVED 998", x.now(1), 998);
        return x;
    }

    private static void savedToTheMost() {
        MudMoot x = nearlyAllSaved();
        Due.due("promise 11: lifts(0, 4) to 999", x.lifts(0, 4), 1);
        Due.due("promise 11: SAVED 999", x.now(1), 999);
        Due.due("promise 15: best(1, -1) with all saved", x.best(1, -1), 5);
        Due.due("promise 11: lifts(4, 0) at 999", x.lifts(4, 0), 5);
        Due.due("promise 11: SAVED 999 at most", x.now(1), 999);
        Due.due("promise 11: nothing is deep", x.now(0), 0);
        Due.due("promise 23: keep(0) at 999", x.keep(0), 999);
        x.undo();
        Due.due("promise 13: SAVED 999, a lift undone", x.now(1), 999);
        Due.due("promise 13: deep anew, a lift undone", x.cell(50, 0), 5);
        x.undo();
        Due.due("promise 13: SAVED 998, two lifts undone", x.now(1), 998);
        Due.due("promise 24: back(0) to 999", x.back(0), 999);
        Due.due("promise 24: SAVED 999", x.now(1), 999);
        Due.due("promise 4: field() of nothing", x.field(), 0);
        Due.due("promise 4: SAVED as at first", x.now(1), 0);
    }

    private static void savedBeyondTheMost() {
        MudMoot x = nearlyAllSaved();
        Due.due("promise 11: lifts(4, 0) beyond 999", x.lifts(4, 0), 5);
        Due.due("promise 11: SAVED no more than 999", x.now(1), 999);
        x.undo();
        Due.due("promise 13: SAVED 998 anew", x.now(1), 998);
        Due.due("promise 13: cell(50, 0) anew", x.cell(50, 0), 5);
    }

    // ---- promise 12

    private static void linesToVoteBy() {
        for (int at = 0; at <= 5; at++) {
            for (int line = -1; line <= 6; line++) {
                MudMoot x = Due.told("p" + at + " 2 1 1;");
                boolean is = line >= 0 && line <= 5;
                String call = "promise 12: votes(" + line + ") of one at x " + at;
                Due.due(call, x.votes(line), !is ? -1 : at < line ? 1 : 0);
                Due.due(call + ", VOTED", x.now(2), is ? 1 : 0);
                Due.due(call + ", PASSED", x.now(3), is && at < line ? 1 : 0);
                Due.due(call + ", now(7)", x.now(7), is ? 1 : 0);
            }
        }
        MudMoot x = Due.told("p0 0 1 1;");
        for (int far : FAR) {
            Due.due("promise 12: votes(" + far + ")", x.votes(far), -1);
        }
        Due.due("promise 12: VOTED behind refusals", x.now(2), 0);
    }

    private static void vote(String text, int line, int due) {
        MudMoot x = Due.told(text);
        Due.due("promise 12: votes(" + line + ") of " + text, x.votes(line), due);
        Due.due("promise 7: LINES as votes(" + line + ") of " + text, x.now(4) >> line & 1, due);
    }

    private static void votesOnTheLine() {
        vote("p2 0 1 3;p4 0 1 3;", 3, 0);
        vote("p2 0 1 4;p4 0 1 3;", 3, 1);
        vote("p2 0 1 3;p4 0 1 4;", 3, 0);
        vote("p2 0 1 1;p4 0 1 0;", 3, 1);
        vote("p2 0 1 0;p4 0 1 0;", 3, 0);
        vote("p2 0 1 0;", 3, 0);
        vote("p3 0 1 9;", 3, 0);
        vote("p3 0 1 9;p2 5 1 1;", 3, 1);
        vote("p3 0 1 9;p4 5 1 1;", 3, 0);
        vote("p3 0 1 9;p2 0 1 5;p4 0 1 5;", 3, 0);
        vote("p0 0 1 9;p0 0 1 9;p0 0 1 9;p0 0 1 9;p0 0 1 9;", 5, 1);
        vote("p0 0 1 9;p0 0 1 9;p0 0 1 9;p0 0 1 9;p0 0 1 9;", 1, 1);
        vote("p0 0 1 9;p0 0 1 9;p0 0 1 9;p0 0 1 9;p0 0 1 9;", 0, 0);
        vote("p5 0 1 9;p5 0 1 9;p0 0 1 9;p0 0 1 9;p3 0 1 9;", 3, 0);
        vote("p5 0 1 9;p5 0 1 9;p0 0 1 9;p0 0 1 9;p2 0 1 1;", 3, 1);
        vote("p0 0 1 9;p5 0 4 8;", 5, 1);
        vote("p0 0 4 8;p5 0 1 9;", 4, 0);
    }

    private static void votesOfNobody() {
        MudMoot x = new MudMoot();
        for (int line = -1; line <= 6; line++) {
            Due.due("promise 12: votes(" + line + ") of nobody", x.votes(line), line < 0 || line > 5 ? -1 : 0);
        }
        Due.due("promise 12: VOTED by nobody", x.now(2), 6);
        Due.due("promise 12: PASSED by nobody", x.now(3), 0);
        Due.due("promise 12: votes of nobody can be undone", x.undo(), 5);
    }

    private static void manyVotes() {
        MudMoot x = Due.told("p2 2 1 1;");
        for (int i = 1; i <= 400; i++) {
            x.votes(i % 6);
        }
        Due.due("promise 12: VOTED 400 times", x.now(2), 400);
        Due.due("promise 12: PASSED by lines 3, 4, 5", x.now(3), 200);
        Due.due("promise 22: rate(5, 0) behind them", x.rate(5, 0), 401);
    }

    // ---- promise 13

    private static MudMoot trampled() {
        MudMoot x = Due.told("s2;p1 1 3 2;p5 5 4 1;f1 1 4;f4 4 5;f1 2 1;f0 1 8;");
        x.stands(1, 0);
        x.votes(4);
        x.votes(1);
        x.lifts(4, 4);
        return x;
    }

    private static long act(MudMoot x, int kind) {
        switch (kind) {
            case 0:
                return x.walks(0, 0);
            case 1:
                return x.stands(0, 3);
            case 2:
                return x.rains();
            case 3:
                return x.lifts(0, 0);
            default:
                return x.votes(2);
        }
    }

    private static void eachActUndone() {
        int[] answers = {9, 7, 1, 12, 1};
        for (int kind = 0; kind < 5; kind++) {
            int act = kind;
            Seen.Recipe undone = () -> {
                MudMoot x = trampled();
                Due.due("promise 13: act " + act, act(x, act), answers[act]);
                Due.due("promise 13: now(7) behind act " + act, x.now(7), 5);
                Due.due("promise 13: undo() of act " + act, x.undo(), 4);
                return x;
            };
            Seen.same("promise 13: act " + act + " undone", Seen.whole(undone), Seen.whole(DoneEdgeTest::trampled));
        }
    }

    private static long actInOrder(MudMoot x, int i) {
        switch (i % 5) {
            case 0:
                return x.lifts(3, 3);
            case 1:
                return x.walks(0, i % 4);
            case 2:
                return x.stands(1, i % 4);
            case 3:
                return x.votes(i % 6);
            default:
                return x.rains();
        }
    }

    private static MudMoot acted(int acts, int undone) {
        MudMoot x = Due.told("s2;p2 2 1 2;p3 3 4 3;f1 1 4;f4 4 9;");
        for (int i = 1; i <= acts; i++) {
            Due.due("promise 13: act " + i + " is not refused", actInOrder(x, i) < 0 ? 1 : 0, 0);
            Due.due("promise 13: now(7) behind act " + i, x.now(7), Math.min(i, 10));
        }
        for (int i = 1; i <= undone; i++) {
            Due.due("promise 13: undo() " + i + " of " + acts, x.undo(), Math.min(acts, 10) - i);
        }
        return x;
    }

    private static void tenActsAndEleven() {
        for (int acts = 0; acts <= 14; acts++) {
            int known = Math.min(acts, 10);
            for (int undone = 0; undone <= known; undone++) {
                Seen.same("promise 13: " + undone + " of " + acts + " undone", Seen.things(acted(acts, undone)),
                    Seen.things(acted(acts - undone, 0)));
            }
            MudMoot x = acted(acts, known);
            Due.due("promise 13: nothing more of " + acts, x.undo(), -2);
            Due.due("promise 13: now(7) of nothing more", x.now(7), 0);
            Due.due("promise 13: one act more", x.votes(0), 0);
            Due.due("promise 13: that one undone", x.undo(), 0);
            Due.due("promise 13: nothing more again", x.undo(), -2);
        }
    }

    /** Ten votes are lost one by one when other acts come, of whatever kind. */
    private static void eachActAsTheEleventh() {
        for (int kind = 0; kind < 5; kind++) {
            MudMoot x = Due.told("p1 1 3 2;f1 1 4;f0 1 8;");
            for (int i = 0; i < 10; i++) {
                x.votes(0);
            }
            Due.due("promise 13: now(7) behind ten", x.now(7), 10);
            act(x, kind);
            Due.due("promise 13: now(7) behind eleven", x.now(7), 10);
            for (int left = 9; left >= 0; left--) {
                Due.due("promise 13: undo() to " + left, x.undo(), left);
            }
            Due.due("promise 13: undo() of the oldest", x.undo(), -2);
            Due.due("promise 13: the oldest vote stays", x.now(2), 1);
            Due.due("promise 13: all later is undone", x.now(0), 12);
        }
    }

    private static void whatIsNotUndone() {
        MudMoot x = Due.told("p1 1 3 2;f1 1 4;");
        Due.due("promise 13: undo() of nothing", x.undo(), -2);
        x.stands(0, 0);
        x.found(1, 1);
        x.keep(1);
        x.rate(0, 0);
        x.type('s');
        x.walks(0, 7);
        x.lifts(5, 5);
        x.lifts(4, 4);
        x.votes(6);
        x.stands(1, 0);
        Due.due("promise 13: now(7): one act that was not refused", x.now(7), 1);
        Due.due("promise 13: undo()", x.undo(), 0);
        Due.due("promise 13: found yet", x.count(2), 1);
        Due.due("promise 13: the text yet", x.count(3), 1);
        Due.due("promise 26: trace() goes on behind undo()", x.trace(), 1);
        Due.due("promise 13: cell(11, 0) as told", x.cell(11, 0), 4);
        Due.due("promise 13: the image yet", x.back(1), 0);
        Due.due("promise 13: cell(11, 0) of the image", x.cell(11, 0), 7);
        Due.due("promise 24: nothing can be undone behind back()", x.undo(), -2);
        x.forget();
        Due.due("promise 13: forget() can't be undone", x.undo(), -2);
        x.clear();
        Due.due("promise 13: clear() can't be undone", x.undo(), -2);
    }
}
