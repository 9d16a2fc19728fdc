/** Promises 1 to 7: a new object, type, clear, field, cell, person, now. */
public final class FieldTest {
    public static void main(String[] args) {
        newObject();
        typed();
        cleared();
        toldWell();
        toldAnew();
        faults();
        cells();
        persons();
        nows();
        Due.end();
    }

    private static void newObject() {
        MudMoot x = new MudMoot();
        Due.due("new: count(0)", x.count(0), 0);
        Due.due("new: count(1)", x.count(1), 1);
        Due.due("new: count(2)", x.count(2), 0);
        Due.due("new: count(3)", x.count(3), 0);
        Due.due("new: trace()", x.trace(), 0);
        Due.due("new: person(0, 0)", x.person(0, 0), -1);
        int[] nows = {0, 0, 0, 0, 0, 6, 0, 0};
        for (int what = 0; what < nows.length; what++) {
            Due.due("new: now(" + what + ")", x.now(what), nows[what]);
        }
        for (int cell = 0; cell <= 55; cell++) {
            if (cell % 10 <= 5) {
                Due.due("new: cell(" + cell + ", 0)", x.cell(cell, 0), 0);
                Due.due("new: cell(" + cell + ", 1)", x.cell(cell, 1), -9);
                Due.due("new: cell(" + cell + ", 2)", x.cell(cell, 2), 0);
                Due.due("new: cell(" + cell + ", 3)", x.cell(cell, 3), 0);
            }
        }
        Due.due("new: undo()", x.undo(), -2);
        Due.due("new: back(0)", x.back(0), -2);
        Due.due("new: back(1)", x.back(1), -2);
    }

    private static void typed() {
        MudMoot x = new MudMoot();
        Due.due("type(-1)", x.type(-1), -1);
        Due.due("type(256)", x.type(256), -1);
        Due.due("type(0)", x.type(0), 1);
        Due.due("type(255)", x.type(255), 2);
        for (int i = 3; i <= 100; i++) {
            Due.due("type(32), number " + i, x.type(32), i);
        }
        Due.due("type(32) beyond 100", x.type(32), -3);
        Due.due("type(256) beyond 100", x.type(256), -1);
        Due.due("count(3) of 100", x.count(3), 100);
    }

    private static void cleared() {
        MudMoot x = new MudMoot();
        Due.due("clear() of none", x.clear(), 0);
        Due.tell(x, "p;$");
        Due.due("clear() of three", x.clear(), 3);
        Due.due("count(3) behind clear()", x.count(3), 0);
        Due.due("field() behind clear()", x.field(), 0);
        Due.due("type behind clear()", x.type('s'), 1);
    }

    private static void toldWell() {
        good("", 0);
        good("   ", 0);
        good("s9;", 1);
        good("  s  1  ; ", 1);
        good("p0 0 1 0;", 1);
        good("p5 5 4 9;", 1);
        good("f 5 5 9 ;f 0 0 0;", 2);
        good("f1 1 5;s3;p1 1 1 1;f1 1 6;", 4);
        good("p0 0 1 0;p0 0 1 0;p0 0 1 0;p0 0 1 0;p0 0 1 0;", 5);
        MudMoot x = Due.told("p1 2 3 4;f1 1 5;s3;p4 5 2 9;f1 1 6;f0 0 2;f0 0 0;");
        Due.due("count(0) as told", x.count(0), 2);
        Due.due("count(1) as told", x.count(1), 3);
        Due.due("count(3) behind field()", x.count(3), 0);
        Due.due("person(0, 0) as told", x.person(0, 0), 12);
        Due.due("person(1, 0) as told", x.person(1, 0), 45);
        Due.due("cell(11, 0): the later", x.cell(11, 0), 6);
        Due.due("cell(0, 0): the later", x.cell(0, 0), 0);
        Due.due("cell(11, 1): no toes", x.cell(11, 1), -9);
        MudMoot full = new MudMoot();
        Due.tell(full, "p0 0 1 1;" + " ".repeat(200));
        Due.due("count(3) of 100", full.count(3), 100);
        Due.due("field() of 100 letters", full.field(), 1);
    }

    private static void good(String text, int items) {
        MudMoot x = new MudMoot();
        Due.tell(x, text);
        Due.due("field() of '" + text + "'", x.field(), items);
        Due.due("count(3) behind '" + text + "'", x.count(3), 0);
    }

    private static MudMoot busy() {
        MudMoot x = Due.told("s4;p1 1 4 3;p2 2 2 1;f5 5 7;");
        x.stands(0, 1);
        x.votes(3);
        x.lifts(4, 4);
        x.found(0, 4);
        x.keep(0);
        x.keep(1);
        x.rate(0, 0);
        return x;
    }

    private static void toldAnew() {
        MudMoot x = busy();
        Due.tell(x, "p3 3 1 1;");
        Due.due("field() anew", x.field(), 1);
        Due.due("anew: count(0)", x.count(0), 1);
        Due.due("anew: count(1)", x.count(1), 1);
        Due.due("anew: count(2)", x.count(2), 0);
        for (int what = 0; what <= 4; what++) {
            Due.due("anew: now(" + what + ")", x.now(what), what == 4 ? 48 : 0);
        }
        Due.due("anew: now(7)", x.now(7), 0);
        Due.due("anew: undo()", x.undo(), -2);
        Due.due("anew: back(0)", x.back(0), -2);
        Due.due("anew: back(1)", x.back(1), -2);
        Due.due("anew: cell(11, 0)", x.cell(11, 0), 0);
        Due.due("anew: cell(11, 1)", x.cell(11, 1), -9);
        Due.due("anew: person(0, 0)", x.person(0, 0), 33);
        Due.due("anew: trace()", x.trace(), 1);
        Due.due("field() of nothing", x.field(), 0);
        Due.due("nothing told: count(0)", x.count(0), 0);
        Due.due("nothing told: trace()", x.trace(), 1);
        faultChangesNothing();
    }

    private static void faultChangesNothing() {
        MudMoot x = busy();
        Due.tell(x, "s1;p0 0 1 1;f0 0 9;x");
        Due.due("field() with a fault", x.field(), -29);
        Due.due("fault: count(0)", x.count(0), 2);
        Due.due("fault: count(1)", x.count(1), 4);
        Due.due("fault: count(2)", x.count(2), 1);
        Due.due("fault: count(3)", x.count(3), 20);
        Due.due("fault: person(0, 0)", x.person(0, 0), 11);
        Due.due("fault: person(0, 1)", x.person(0, 1), 4);
        Due.due("fault: person(0, 2)", x.person(0, 2), 3);
        Due.due("fault: cell(0, 0)", x.cell(0, 0), 0);
        Due.due("fault: cell(11, 0)", x.cell(11, 0), 4);
        Due.due("fault: now(1)", x.now(1), 7);
        Due.due("fault: now(7)", x.now(7), 3);
        Due.due("fault: back(1)", x.back(1), 7);
        Due.due("field() with a fault again", x.field(), -29);
        MudMoot twice = new MudMoot();
        Due.tell(twice, "s3;p0 0 1 1");
        Due.due("field() too early", twice.field(), -21);
        twice.type(';');
        Due.due("field() told on", twice.field(), 2);
        Due.due("told on: count(0)", twice.count(0), 1);
    }

    private static void faults() {
        fault("x", 0);
        fault("P", 0);
        fault(" \t", 1);
        fault(";", 0);
        fault("7", 0);
        fault("s1;;", 3);
        fault("s1;3;", 3);
        fault("p", 1);
        fault("p  ", 3);
        fault("p0 0 1 1", 8);
        fault("p0 0 1 1  ", 10);
        fault("p0 0 1 ;", 7);
        fault("p0 0 1 1 1;", 9);
        fault("p6 0 1 1;", 1);
        fault("p0 6 1 1;", 3);
        fault("p0 0 0 1;", 5);
        fault("p0 0 5 1;", 5);
        fault("p0 0 1 10;", 7);
        fault("p0 00 1 1;", 3);
        fault("p01 0 1 1;", 1);
        fault("p0 0 1 1s1;", 8);
        fault("p p0 0 1 1;", 2);
        fault("s;", 1);
        fault("s0;", 1);
        fault("s10;", 1);
        fault("s100;", 1);
        fault("s 99999999999999999999999;", 2);
        fault("s4294967297;", 1);
        fault("s1;s", 3);
        fault("s1; s2;", 4);
        fault("s1x;", 2);
        fault("s12x", 1);
        fault("f6 0 1;", 1);
        fault("f0 6 1;", 3);
        fault("f0 0 10;", 5);
        fault("f0 0;", 4);
        fault("f0 0 1 1;", 7);
        fault("f0 0 1p", 6);
        fault("s1;q;x", 3);
        fault("p0 0 1 1;p0 0 1 1;p0 0 1 1;p0 0 1 1;p0 0 1 1;p0 0 1 1;", 45);
        fault("s" + (char) 0 + ";", 1);
        fault("s1" + (char) 255, 2);
    }

    private static void fault(String text, int place) {
        MudMoot x = new MudMoot();
        Due.tell(x, text);
        Due.due("field() of '" + text + "'", x.field(), -10 - place);
        Due.due("clear() of '" + text + "'", x.clear(), text.length());
    }

    private static void cells() {
        MudMoot x = Due.told("s2;p1 4 3 1;p1 4 1 1;p4 1 2 1;f1 4 5;f4 1 4;");
        Due.due("cell(14, 0)", x.cell(14, 0), 5);
        Due.due("cell(14, 1)", x.cell(14, 1), -9);
        Due.due("cell(14, 2)", x.cell(14, 2), 3);
        Due.due("cell(14, 3)", x.cell(14, 3), 3);
        Due.due("cell(41, 2)", x.cell(41, 2), 4);
        Due.due("cell(41, 3)", x.cell(41, 3), 2);
        Due.due("cell(55, 3)", x.cell(55, 3), 0);
        x.stands(0, 0);
        Due.due("cell(14, 0) printed", x.cell(14, 0), 8);
        Due.due("cell(14, 1) printed", x.cell(14, 1), 0);
        Due.due("cell(14, 3) printed", x.cell(14, 3), 4);
        int[][] bad = {{-1, 0}, {6, 0}, {9, 1}, {16, 2}, {56, 3}, {60, 0}, {0, -1}, {0, 4}, {-10, 0},
            {Integer.MIN_VALUE, 0}, {Integer.MAX_VALUE, 0}, {0, Integer.MAX_VALUE}};
        for (int[] b : bad) {
            Due.due("cell(" + b[0] + ", " + b[1] + ")", x.cell(b[0], b[1]), -1);
        }
    }

    private static void persons() {
        MudMoot x = Due.told("p1 4 3 0;p5 5 1 9;");
        int[][] due = {{14, 3, 0}, {55, 1, 9}};
        for (int p = 0; p < 2; p++) {
            for (int what = 0; what < 3; what++) {
                Due.due("person(" + p + ", " + what + ")", x.person(p, what), due[p][what]);
            }
        }
        x.walks(0, 1);
        Due.due("person(0, 0) walked", x.person(0, 0), 24);
        Due.due("person(-1, 0)", x.person(-1, 0), -1);
        Due.due("person(2, 0)", x.person(2, 0), -1);
        Due.due("person(0, -1)", x.person(0, -1), -1);
        Due.due("person(0, 3)", x.person(0, 3), -1);
    }

    private static void nows() {
        MudMoot x = Due.told("p1 4 3 5;p5 5 1 4;p3 0 2 0;f0 0 3;f2 3 4;f2 2 1;");
        Due.due("now(0)", x.now(0), 8);
        Due.due("now(4)", x.now(4), 2 * 2 + 8 + 16 + 32);
        Due.due("now(5)", x.now(5), 3);
        Due.due("now(6)", x.now(6), 30);
        x.votes(0);
        x.votes(2);
        x.votes(5);
        Due.due("now(2)", x.now(2), 3);
        Due.due("now(3)", x.now(3), 2);
        x.lifts(2, 2);
        Due.due("now(0) lifted", x.now(0), 3);
        Due.due("now(1) lifted", x.now(1), 5);
        Due.due("now(5) lifted", x.now(5), 5);
        Due.due("now(6) lifted", x.now(6), 1);
        Due.due("now(7)", x.now(7), 4);
        Due.due("now(-1)", x.now(-1), -1);
        Due.due("now(8)", x.now(8), -1);
        narrowClear();
    }

    private static void narrowClear() {
        MudMoot x = Due.told("p0 0 4 0;f0 0 1;f0 2 1;f0 4 1;f2 0 1;f2 2 1;f2 4 1;f4 0 1;f4 2 1;f4 4 1;");
        Due.due("now(5) with single clear cells", x.now(5), 1);
        Due.due("now(6) with single clear cells", x.now(6), 1);
        int[] snake = {1, 1, 1, 1, 1};
        for (int column = 0; column < 6; column++) {
            if (column > 0) {
                x.walks(0, 1);
            }
            for (int step : snake) {
                x.walks(0, column % 2 == 0 ? 3 : 2);
            }
        }
        Due.due("now(5) with no clear cell", x.now(5), 0);
        Due.due("now(6) with no clear cell", x.now(6), -9);
    }
}
