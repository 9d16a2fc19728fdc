/** Promises 8 to 13: walks, stands, rains, lifts, votes, undo. */
public final class DoneTest {
    public static void main(String[] args) {
        walked();
        stood();
        rained();
        lifted();
        savedAtMost();
        voted();
        undone();
        undoneTen();
        Due.end();
    }

    private static void walked() {
        MudMoot x = Due.told("p2 2 3 1;p0 0 2 1;p5 5 4 1;f1 2 8;");
        Due.due("walks(0, 0)", x.walks(0, 0), 9);
        Due.due("cell(12, 1)", x.cell(12, 1), 0);
        Due.due("cell(22, 0): no print left behind", x.cell(22, 0), 0);
        Due.due("walks(0, 3)", x.walks(0, 3), 3);
        Due.due("cell(13, 1)", x.cell(13, 1), 3);
        Due.due("walks(0, 1)", x.walks(0, 1), 3);
        Due.due("cell(23, 1)", x.cell(23, 1), 1);
        Due.due("walks(0, 2)", x.walks(0, 2), 3);
        Due.due("cell(22, 1)", x.cell(22, 1), 2);
        Due.due("person(0, 0)", x.person(0, 0), 22);
        Due.due("now(7)", x.now(7), 4);
        Due.due("walks(1, 0)", x.walks(1, 0), -2);
        Due.due("walks(1, 2)", x.walks(1, 2), -2);
        Due.due("walks(2, 1)", x.walks(2, 1), -2);
        Due.due("walks(2, 3)", x.walks(2, 3), -2);
        Due.due("walks(3, 0)", x.walks(3, 0), -1);
        Due.due("walks(-1, 0)", x.walks(-1, 0), -1);
        Due.due("walks(1, -1)", x.walks(1, -1), -1);
        Due.due("walks(1, 4)", x.walks(1, 4), -1);
        Due.due("walks(0, 4)", x.walks(0, 4), -1);
        Due.due("now(7) behind refusals", x.now(7), 4);
        Due.due("cell(0, 0) behind refusals", x.cell(0, 0), 0);
        MudMoot corner = Due.told("p0 1 2 1;p1 0 1 1;p5 4 1 1;");
        Due.due("walks(0, 2) to the first cell", corner.walks(0, 2), 2);
        Due.due("walks(1, 0) to the first cell", corner.walks(1, 0), 3);
        Due.due("cell(0, 2)", corner.cell(0, 2), 3);
        Due.due("walks(2, 3) to the last cell", corner.walks(2, 3), 1);
        Due.due("cell(55, 2)", corner.cell(55, 2), 4);
    }

    private static void stood() {
        MudMoot x = Due.told("p2 2 4 1;p2 2 1 1;");
        Due.due("stands(0, 3)", x.stands(0, 3), 4);
        Due.due("stands(1, 2)", x.stands(1, 2), 5);
        Due.due("cell(22, 1)", x.cell(22, 1), 2);
        Due.due("stands(0, 0)", x.stands(0, 0), 9);
        Due.due("cell(22, 1) later", x.cell(22, 1), 0);
        Due.due("stands(1, 1) at most", x.stands(1, 1), 9);
        Due.due("cell(22, 1) at most", x.cell(22, 1), 1);
        Due.due("person(0, 0) stood", x.person(0, 0), 22);
        Due.due("now(7)", x.now(7), 4);
        Due.due("stands(2, 0)", x.stands(2, 0), -1);
        Due.due("stands(-1, 0)", x.stands(-1, 0), -1);
        Due.due("stands(0, 4)", x.stands(0, 4), -1);
        Due.due("stands(0, -1)", x.stands(0, -1), -1);
        Due.due("now(7) behind refusals", x.now(7), 4);
    }

    private static void rained() {
        MudMoot x = Due.told("s3;p0 0 4 1;p5 5 2 1;f1 1 3;f2 2 2;f3 3 7;");
        x.stands(0, 1);
        x.stands(1, 2);
        Due.due("rains()", x.rains(), 3);
        Due.due("cell(0, 0) rained", x.cell(0, 0), 1);
        Due.due("cell(0, 1) rained", x.cell(0, 1), 1);
        Due.due("cell(55, 0) rained", x.cell(55, 0), 0);
        Due.due("cell(55, 1) rained", x.cell(55, 1), -9);
        Due.due("cell(33, 0) rained", x.cell(33, 0), 4);
        Due.due("cell(11, 0) rained", x.cell(11, 0), 0);
        Due.due("rains() again", x.rains(), 1);
        Due.due("cell(0, 1) gone", x.cell(0, 1), -9);
        Due.due("cell(33, 0) rained again", x.cell(33, 0), 1);
        Due.due("rains() a third time", x.rains(), 1);
        Due.due("rains() on a dry field", x.rains(), 0);
        Due.due("now(7): a rain of nothing, too", x.now(7), 6);
        Due.due("undo() of a rain of nothing", x.undo(), 5);
        Due.due("now(0) dry yet", x.now(0), 0);
        Due.due("undo() of a rain", x.undo(), 4);
        Due.due("cell(33, 0) once more", x.cell(33, 0), 1);
    }

    private static void lifted() {
        MudMoot x = Due.told("p1 1 4 1;f1 2 2;f2 1 3;f2 2 5;f3 3 9;f5 5 1;f0 0 7;");
        x.stands(0, 0);
        Due.due("lifts(1, 1)", x.lifts(1, 1), 14);
        for (int cell : new int[] {11, 12, 21, 22}) {
            Due.due("cell(" + cell + ", 0) lifted", x.cell(cell, 0), 0);
            Due.due("cell(" + cell + ", 1) lifted", x.cell(cell, 1), -9);
        }
        Due.due("cell(33, 0) not lifted", x.cell(33, 0), 9);
        Due.due("cell(0, 0) not lifted", x.cell(0, 0), 7);
        Due.due("now(1)", x.now(1), 14);
        Due.due("lifts(1, 1) again", x.lifts(1, 1), -2);
        Due.due("lifts(4, 4)", x.lifts(4, 4), 1);
        Due.due("lifts(0, 0)", x.lifts(0, 0), 7);
        Due.due("now(1) together", x.now(1), 22);
        Due.due("lifts(0, 4)", x.lifts(0, 4), -2);
        Due.due("lifts(-1, 0)", x.lifts(-1, 0), -1);
        Due.due("lifts(0, -1)", x.lifts(0, -1), -1);
        Due.due("lifts(5, 0)", x.lifts(5, 0), -1);
        Due.due("lifts(0, 5)", x.lifts(0, 5), -1);
        Due.due("now(7)", x.now(7), 4);
    }

    /** Each round of three prints and a lift saves nine. */
    private static void savedAtMost() {
        MudMoot x = Due.told("p2 2 4 1;");
        for (int round = 1; round <= 115; round++) {
            x.stands(0, 0);
            x.stands(0, 0);
            x.stands(0, 0);
            int due = Math.min(999, 9 * round);
            Due.due("lifts(2, 2), round " + round, x.lifts(2, 2), 9);
            if (round > 109) {
                Due.due("now(1), round " + round, x.now(1), due);
            }
        }
        Due.due("keep(0) with all saved", x.keep(0), 999);
        MudMoot odd = Due.told("p2 2 4 1;f0 0 5;");
        Due.due("lifts(0, 0)", odd.lifts(0, 0), 5);
        for (int round = 1; round <= 111; round++) {
            odd.stands(0, 0);
            odd.stands(0, 0);
            odd.stands(0, 0);
            odd.lifts(1, 1);
        }
        Due.due("now(1): 5 and 111 times 9", odd.now(1), 999);
        Due.due("undo() of the last lift", odd.undo(), 9);
        Due.due("now(1): 5 and 110 times 9", odd.now(1), 995);
        Due.due("best(1, -1) is what is deep", odd.best(1, -1), 9);
        Due.due("lifts(1, 1) is what was deep", odd.lifts(1, 1), 9);
    }

    private static void voted() {
        MudMoot x = Due.told("p1 0 1 4;p2 0 1 3;p4 0 1 6;p3 5 1 0;");
        int[] due = {0, 0, 0, 1, 1, 1};
        int bits = 0;
        for (int line = 0; line < 6; line++) {
            bits |= due[line] << line;
            Due.due("votes(" + line + ")", x.votes(line), due[line]);
        }
        Due.due("now(4)", x.now(4), bits);
        Due.due("now(2)", x.now(2), 6);
        Due.due("now(3)", x.now(3), 3);
        Due.due("votes(-1)", x.votes(-1), -1);
        Due.due("votes(6)", x.votes(6), -1);
        Due.due("now(2) behind refusals", x.now(2), 6);
        Due.due("now(7)", x.now(7), 6);
        Due.due("undo()", x.undo(), 5);
        Due.due("now(2) undone", x.now(2), 5);
        Due.due("now(3) undone", x.now(3), 2);
        MudMoot even = Due.told("p1 0 1 4;p3 0 1 4;p2 0 1 9;");
        Due.due("votes(2): as many for as against", even.votes(2), 0);
        Due.due("votes(3): neither", even.votes(3), 1);
        Due.due("now(3)", even.now(3), 1);
        MudMoot on = Due.told("p1 0 1 4;p2 0 1 9;");
        Due.due("now(4): on it neither", on.now(4), 4 + 8 + 16 + 32);
        Due.due("votes(2): on it neither", on.votes(2), 1);
        Due.due("votes(1): on it neither", on.votes(1), 0);
    }

    private static void undone() {
        MudMoot x = Due.told("s2;p1 1 3 2;f1 1 4;f4 4 5;");
        x.found(0, 3);
        x.keep(0);
        Due.due("stands(0, 2)", x.stands(0, 2), 7);
        Due.due("walks(0, 1)", x.walks(0, 1), 3);
        Due.due("lifts(4, 4)", x.lifts(4, 4), 5);
        Due.due("votes(5)", x.votes(5), 1);
        Due.due("rains()", x.rains(), 0);
        x.rate(5, 0);
        Due.due("lifts(0, 3) refused", x.lifts(0, 3), -2);
        Due.due("undo() of rains", x.undo(), 4);
        Due.due("cell(11, 0)", x.cell(11, 0), 7);
        Due.due("cell(21, 1)", x.cell(21, 1), 1);
        Due.due("undo() of votes", x.undo(), 3);
        Due.due("now(2)", x.now(2), 0);
        Due.due("now(3)", x.now(3), 0);
        Due.due("now(1) lifted yet", x.now(1), 5);
        Due.due("undo() of lifts", x.undo(), 2);
        Due.due("now(1)", x.now(1), 0);
        Due.due("cell(44, 0)", x.cell(44, 0), 5);
        Due.due("undo() of walks", x.undo(), 1);
        Due.due("person(0, 0)", x.person(0, 0), 11);
        Due.due("cell(21, 0)", x.cell(21, 0), 0);
        Due.due("cell(21, 1)", x.cell(21, 1), -9);
        Due.due("cell(11, 1) stood yet", x.cell(11, 1), 2);
        Due.due("undo() of stands", x.undo(), 0);
        Due.due("cell(11, 0) as told", x.cell(11, 0), 4);
        Due.due("cell(11, 1) as told", x.cell(11, 1), -9);
        Due.due("undo() of nothing", x.undo(), -2);
        Due.due("trace() goes on", x.trace(), 100001);
        Due.due("count(2): found yet", x.count(2), 1);
        Due.due("back(0): kept yet", x.back(0), 0);
    }

    private static void undoneTen() {
        MudMoot x = Due.told("p0 0 1 1;");
        for (int i = 1; i <= 13; i++) {
            x.votes(i % 6);
            Due.due("now(7) behind " + i, x.now(7), Math.min(i, 10));
        }
        for (int i = 9; i >= 0; i--) {
            Due.due("undo()", x.undo(), i);
            Due.due("now(2) with " + i + " to be undone", x.now(2), i + 3);
        }
        Due.due("undo(): older ones are lost", x.undo(), -2);
        Due.due("now(2): older ones stay", x.now(2), 3);
        Due.due("votes(0)", x.votes(0), 0);
        Due.due("undo() once more", x.undo(), 0);
        Due.due("now(2) once more", x.now(2), 3);
    }
}
