/** Promises 22 to 26: rate, keep, back, count, trace. */
public final class KindsTest {
    public static void main(String[] args) {
        rated();
        refused();
        kept();
        undoneAndKept();
        counted();
        Due.end();
    }

    private static void rated() {
        MudMoot x = Due.told("p1 1 2 7;p2 2 3 5;f1 1 6;f2 2 1;");
        x.votes(0);
        x.votes(5);
        x.votes(3);
        x.undo();
        int[][] rates = {{2, 3}, {9, 8}, {-4, 2}, {18, 16}, {-4, 3}, {4, 5}};
        int[] traces = {1, 11, 101, 1011, 10101, 100001};
        long trace = 0;
        for (int p = 0; p < 2; p++) {
            for (int kind = 0; kind < 6; kind++) {
                Due.due("rate(" + kind + ", " + p + ")", x.rate(kind, p), rates[kind][p]);
                trace += traces[kind];
                Due.due("trace() behind it", x.trace(), trace);
            }
        }
        x.walks(0, 0);
        Due.due("rate(2, 0) walked", x.rate(2, 0), 0);
        Due.due("rate(4, 0) walked", x.rate(4, 0), 0);
    }

    private static void refused() {
        MudMoot x = Due.told("p1 1 2 7;");
        Due.due("rate(-1, 0)", x.rate(-1, 0), -1000000);
        Due.due("rate(6, 0)", x.rate(6, 0), -1000000);
        Due.due("rate(0, -1)", x.rate(0, -1), -1000000);
        Due.due("rate(0, 1)", x.rate(0, 1), -1000000);
        Due.due("rate(5, 5)", x.rate(5, 5), -1000000);
        Due.due("trace() behind refusals", x.trace(), 0);
    }

    private static void kept() {
        MudMoot x = Due.told("s2;p1 1 3 2;f4 4 5;");
        Due.due("back(0) of nothing", x.back(0), -2);
        x.lifts(4, 4);
        x.votes(2);
        x.stands(0, 3);
        Due.due("keep(0)", x.keep(0), 5);
        Due.due("now(7) behind keep(0)", x.now(7), 3);
        Due.due("keep(-1)", x.keep(-1), -1);
        Due.due("keep(2)", x.keep(2), -1);
        Due.due("back(-1)", x.back(-1), -1);
        Due.due("back(2)", x.back(2), -1);
        Due.due("back(1) of nothing", x.back(1), -2);
        Due.due("now(7) behind refusals", x.now(7), 3);
        x.walks(0, 1);
        x.votes(5);
        x.lifts(1, 1);
        x.found(0, 3);
        x.rate(0, 0);
        Due.tell(x, "abc");
        Due.due("keep(1)", x.keep(1), 11);
        Due.due("back(0)", x.back(0), 5);
        Due.due("now(0) back", x.now(0), 3);
        Due.due("now(1) back", x.now(1), 5);
        Due.due("now(2) back", x.now(2), 1);
        Due.due("now(3) back", x.now(3), 1);
        Due.due("now(7) back", x.now(7), 0);
        Due.due("undo() back", x.undo(), -2);
        Due.due("person(0, 0) back", x.person(0, 0), 11);
        Due.due("cell(11, 0) back", x.cell(11, 0), 3);
        Due.due("cell(11, 1) back", x.cell(11, 1), 3);
        Due.due("count(1) as it was", x.count(1), 2);
        Due.due("count(2) as it was", x.count(2), 1);
        Due.due("count(3) as it was", x.count(3), 3);
        Due.due("trace() goes on", x.trace(), 1);
        Due.due("back(1)", x.back(1), 11);
        Due.due("now(2) of the other", x.now(2), 2);
        Due.due("person(0, 0) of the other", x.person(0, 0), 21);
        Due.due("back(0) again", x.back(0), 5);
        Due.due("keep(1) over the other", x.keep(1), 5);
        x.rains();
        Due.due("back(1) again", x.back(1), 5);
        Due.due("now(0) again", x.now(0), 3);
    }

    private static void undoneAndKept() {
        MudMoot x = Due.told("p1 1 3 2;");
        x.stands(0, 1);
        x.keep(0);
        Due.due("undo()", x.undo(), 0);
        Due.due("now(0) undone", x.now(0), 0);
        Due.due("back(0)", x.back(0), 0);
        Due.due("now(0) back", x.now(0), 3);
        x.stands(0, 2);
        Due.due("back(0) again", x.back(0), 0);
        Due.due("cell(11, 1) again", x.cell(11, 1), 1);
        x.stands(0, 2);
        Due.due("undo() behind back()", x.undo(), 0);
        Due.due("now(0) as the image", x.now(0), 3);
    }

    private static void counted() {
        MudMoot x = Due.told("s7;p1 1 3 2;p1 1 3 2;p1 1 3 2;");
        x.found(0, 1);
        x.found(0, 1);
        x.type('z');
        int[] due = {3, 7, 2, 1};
        for (int what = 0; what < due.length; what++) {
            Due.due("count(" + what + ")", x.count(what), due[what]);
        }
        Due.due("count(-1)", x.count(-1), -1);
        Due.due("count(4)", x.count(4), -1);
    }
}
