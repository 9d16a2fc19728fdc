/** The edges of promises 22 to 26: the least and the greatest rates, each kind's trace, images kept or not. */
public final class KindsEdgeTest {
    private static final int[] FAR = {Integer.MIN_VALUE, -1000000, -10, -9, -2, 6, 7, 9, 10, 256, Integer.MAX_VALUE - 1,
        Integer.MAX_VALUE};
    private static final int[] TRACES = {1, 11, 101, 1011, 10101, 100001};

    public static void main(String[] args) {
        rateArguments();
        leastAndGreatest();
        rateOfEachDepth();
        ratesOfEach();
        waverer();
        images();
        imagesKeepAll();
        imagesKeepNothingElse();
        imageOverImage();
        counts();
        traces();
        Due.end();
    }

    // ---- promise 22

    private static void rateArguments() {
        for (int people = 0; people <= 5; people++) {
            MudMoot x = Due.told("p3 3 2 0;".repeat(people));
            long trace = 0;
            for (int kind = -2; kind <= 7; kind++) {
                for (int p = -2; p <= 6; p++) {
                    boolean is = kind >= 0 && kind < 6 && p >= 0 && p < people;
                    int due = kind == 3 ? 4 : kind == 4 ? 2 + p : 2;
                    Due.due("promise 22: rate(" + kind + ", " + p + ") of " + people, x.rate(kind, p), is ? due : -1000000);
                    trace += is ? TRACES[kind] : 0;
                    Due.due("promise 26: trace() behind rate(" + kind + ", " + p + ")", x.trace(), trace);
                }
            }
        }
        MudMoot x = Due.told("p3 3 2 0;");
        for (int far : FAR) {
            Due.due("promise 22: rate(" + far + ", 0)", x.rate(far, 0), -1000000);
            Due.due("promise 22: rate(0, " + far + ")", x.rate(0, far), -1000000);
        }
        Due.due("promise 26: trace() behind refusals", x.trace(), 0);
    }

    private static void rates(MudMoot x, int p, int... due) {
        for (int kind = 0; kind < 6; kind++) {
            long before = x.trace();
            Due.due("promise 22: rate(" + kind + ", " + p + ")", x.rate(kind, p), due[kind]);
            Due.due("promise 26: what rate(" + kind + ", " + p + ") adds", x.trace() - before, TRACES[kind]);
        }
    }

    private static void leastAndGreatest() {
        rates(Due.told("p0 0 1 0;f0 0 9;"), 0, 1, 1, -8, 2, -8, 1);
        rates(Due.told("p0 0 1 0;"), 0, 1, 1, 1, 2, 1, 1);
        rates(Due.told("p5 5 4 9;"), 0, 4, 13, 4, 26, 4, 4);
        rates(Due.told("p5 5 4 9;f5 5 9;"), 0, 4, 13, -5, 26, -5, 4);
        rates(Due.told("p5 5 1 0;p5 5 1 0;p5 5 1 0;p5 5 1 0;p0 5 1 0;f0 5 9;"), 4, 1, 1, -8, 2, -4, 1);
        rates(Due.told("p5 5 1 0;p5 5 1 0;p5 5 1 0;p5 5 1 0;p0 5 4 9;"), 4, 4, 13, 4, 26, 8, 4);
    }

    private static void rateOfEachDepth() {
        for (int deep = 0; deep <= 9; deep++) {
            MudMoot x = Due.told("p1 2 3 5;p2 1 1 1;f1 2 " + deep + ";f2 1 " + (9 - deep) + ";");
            rates(x, 0, 3, 8, 3 - deep, 16, 3 - deep, 3);
            rates(x, 1, 1, 2, deep - 8, 4, deep - 7, 1);
        }
    }

    private static void ratesOfEach() {
        MudMoot x = Due.told("s1;p0 0 1 5;p0 1 2 4;p0 2 3 3;p0 3 4 2;p0 4 1 1;f0 0 1;f0 1 2;f0 2 3;f0 3 4;f0 4 5;");
        rates(x, 0, 1, 6, 0, 12, 0, 1);
        rates(x, 1, 2, 6, 0, 12, 1, 2);
        rates(x, 2, 3, 6, 0, 12, 2, 3);
        rates(x, 3, 4, 6, 0, 12, 3, 4);
        rates(x, 4, 1, 2, -4, 4, 0, 1);
        x.rains();
        rates(x, 4, 1, 2, -3, 4, 1, 1);
        x.walks(4, 1);
        rates(x, 4, 1, 2, 0, 4, 4, 1);
        x.undo();
        rates(x, 4, 1, 2, -3, 4, 1, 1);
    }

    private static void waverer() {
        MudMoot x = Due.told("p2 2 2 3;");
        for (int votes = 0; votes <= 12; votes++) {
            Due.due("promise 22: rate(5, 0) behind " + votes + " votes", x.rate(5, 0), 2 + votes);
            x.votes(votes % 6);
        }
        x.undo();
        Due.due("promise 22: rate(5, 0), a vote undone", x.rate(5, 0), 14);
        x.votes(6);
        Due.due("promise 22: rate(5, 0), a vote refused", x.rate(5, 0), 14);
        x.back(0);
        x.keep(0);
        x.votes(0);
        x.back(0);
        Due.due("promise 22: rate(5, 0) as an image has it", x.rate(5, 0), 14);
        x.field();
        Due.tell(x, "p0 0 1 0;");
        x.field();
        Due.due("promise 22: rate(5, 0) read anew", x.rate(5, 0), 1);
    }

    // ---- promises 23 and 24

    private static void images() {
        MudMoot x = Due.told("f0 0 7;");
        for (int image = -2; image <= 3; image++) {
            boolean is = image >= 0 && image < 2;
            Due.due("promise 24: back(" + image + ") of none", x.back(image), is ? -2 : -1);
        }
        for (int far : FAR) {
            Due.due("promise 23: keep(" + far + ")", x.keep(far), -1);
            Due.due("promise 24: back(" + far + ")", x.back(far), -1);
        }
        Due.due("promise 23: keep(-1)", x.keep(-1), -1);
        Due.due("promise 23: keep(2)", x.keep(2), -1);
        Due.due("promise 24: none was kept by refusals, 0", x.back(0), -2);
        Due.due("promise 24: none was kept by refusals, 1", x.back(1), -2);
        Due.due("promise 23: keep(0)", x.keep(0), 0);
        Due.due("promise 24: back(1): the other was kept", x.back(1), -2);
        x.lifts(0, 0);
        Due.due("promise 23: keep(1)", x.keep(1), 7);
        Due.due("promise 24: back(0)", x.back(0), 0);
        Due.due("promise 24: back(1)", x.back(1), 7);
        Due.due("promise 24: back(2)", x.back(2), -1);
        Due.due("promise 24: back(-1)", x.back(-1), -1);
        Due.due("promise 24: as the image has it yet", x.now(1), 7);
        MudMoot only = Due.told("f0 0 7;");
        Due.due("promise 23: keep(1) alone", only.keep(1), 0);
        Due.due("promise 24: back(0): the other was kept", only.back(0), -2);
    }

    private static MudMoot acted() {
        MudMoot x = Due.told("s2;p1 1 3 5;p4 4 2 1;f1 1 4;f0 0 8;f5 5 9;");
        x.stands(0, 2);
        x.walks(1, 1);
        x.votes(2);
        x.votes(1);
        x.lifts(0, 0);
        x.walks(0, 3);
        return x;
    }

    private static void change(MudMoot x) {
        x.rains();
        x.votes(5);
        x.walks(0, 0);
        x.stands(1, 3);
        x.lifts(4, 4);
    }

    private static void imagesKeepAll() {
        for (int image = 0; image < 2; image++) {
            int kept = image;
            Seen.Recipe back = () -> {
                MudMoot x = acted();
                x.keep(kept);
                change(x);
                Due.due("promise 24: back(" + kept + ")", x.back(kept), 15);
                return x;
            };
            Seen.Recipe at = () -> {
                MudMoot x = acted();
                x.keep(kept);
                // nothing can be undone behind back()
                x.back(kept);
                return x;
            };
            Seen.same("promise 24: all as image " + kept + " has it", Seen.whole(back), Seen.whole(at));
            Seen.same("promise 24: as when it was kept", Seen.things(back.make()), Seen.things(acted()));
            Due.due("promise 24: now(7) behind back()", back.make().now(7), 0);
            Due.due("promise 24: undo() behind back()", back.make().undo(), -2);
            MudMoot x = back.make();
            x.votes(0);
            Due.due("promise 24: an act behind back() can be undone", x.undo(), 0);
            Due.due("promise 24: nothing ahead of back() can", x.undo(), -2);
        }
        MudMoot keeps = acted();
        keeps.keep(0);
        Due.due("promise 23: keep() leaves what can be undone", keeps.now(7), 6);
        Seen.same("promise 23: keep() leaves all as it is", Seen.now(keeps), Seen.now(acted()));
    }

    private static void imagesKeepNothingElse() {
        MudMoot x = acted();
        x.found(1, 2);
        x.type('s');
        x.keep(0);
        x.rate(0, 0);
        x.found(0, 5);
        x.type('1');
        Due.due("promise 24: back(0)", x.back(0), 15);
        Due.due("promise 24: what is found stays", x.count(2), 2);
        Due.due("promise 24: the text stays", x.count(3), 2);
        Due.due("promise 24: the rain stays", x.count(1), 2);
        Due.due("promise 26: trace() goes on behind back()", x.trace(), 1);
        x.forget();
        Due.due("promise 24: back(0) again", x.back(0), 15);
        Due.due("promise 24: what is forgotten stays so", x.count(2), 0);
        Due.tell(x, "x");
        Due.due("promise 4: a fault", x.field(), -12);
        Due.due("promise 4: the image stays behind a fault", x.back(0), 15);
        x.clear();
        Due.due("promise 4: field() of nothing", x.field(), 0);
        Due.due("promise 4: the image is gone", x.back(0), -2);
    }

    private static void imageOverImage() {
        MudMoot x = Due.told("p0 0 1 0;");
        x.keep(0);
        x.walks(0, 1);
        x.keep(1);
        x.walks(0, 1);
        x.keep(0);
        x.walks(0, 1);
        x.back(1);
        Due.due("promise 23: the other image", x.person(0, 0), 10);
        x.back(0);
        Due.due("promise 23: kept later", x.person(0, 0), 20);
        x.walks(0, 3);
        x.undo();
        Due.due("promise 24: undone to the image", x.person(0, 0), 20);
        x.walks(0, 3);
        x.back(0);
        Due.due("promise 24: an image stays behind back()", x.person(0, 0), 20);
        Due.due("promise 24: its toes", x.cell(20, 1), 1);
        Due.due("promise 24: no toes elsewhere", x.cell(21, 1), -9);
    }

    // ---- promises 25 and 26

    private static void counts() {
        MudMoot x = new MudMoot();
        int[] fresh = {-1, -1, 0, 1, 0, 0, -1, -1};
        for (int what = -2; what <= 5; what++) {
            Due.due("promise 25: count(" + what + ") of a new object", x.count(what), fresh[what + 2]);
        }
        for (int far : FAR) {
            Due.due("promise 25: count(" + far + ")", x.count(far), -1);
        }
        Due.due("promise 25: count(-1)", x.count(-1), -1);
        for (int i = 1; i <= 102; i++) {
            x.type(' ');
            Due.due("promise 25: count(3) behind " + i, x.count(3), Math.min(100, i));
        }
        x.clear();
        Due.due("promise 25: count(3) behind clear()", x.count(3), 0);
        for (int people = 0; people <= 5; people++) {
            MudMoot y = Due.told("s" + (9 - people) + ";" + "p0 0 1 0;".repeat(people));
            Due.due("promise 25: count(0)", y.count(0), people);
            Due.due("promise 25: count(1)", y.count(1), 9 - people);
            Due.due("promise 25: count(2)", y.count(2), 0);
            Due.due("promise 25: count(3)", y.count(3), 0);
        }
    }

    private static void traces() {
        MudMoot x = Due.told("p0 0 1 0;");
        Due.due("promise 26: trace() at first", x.trace(), 0);
        Due.due("promise 26: trace() again", x.trace(), 0);
        for (int i = 1; i <= 450; i++) {
            x.rate(5, 0);
        }
        Due.due("promise 26: trace() of 450", x.trace(), 45000450L);
        x.rate(6, 0);
        x.rate(5, 1);
        Due.due("promise 26: trace() behind refusals", x.trace(), 45000450L);
        x.stands(0, 0);
        x.undo();
        Due.due("promise 26: trace() behind undo()", x.trace(), 45000450L);
        x.keep(0);
        x.back(0);
        Due.due("promise 26: trace() behind back()", x.trace(), 45000450L);
        x.field();
        Due.due("promise 26: trace() read anew", x.trace(), 45000450L);
    }
}
