/** The edges of promises 1 to 7: each sentence with a boundary, from the least and the greatest to one beyond. */
public final class FieldEdgeTest {
    private static final int[] FAR = {Integer.MIN_VALUE, Integer.MIN_VALUE + 1, -1000000, -256, -100, -11, -10, -9, -2,
        256, 257, 1000, 65536, 65591, Integer.MAX_VALUE - 1, Integer.MAX_VALUE};

    public static void main(String[] args) {
        newHasNobody();
        objectsAreApart();
        lettersThatMayCome();
        hundredLetters();
        cleared();
        noItems();
        blanks();
        numbersOfItems();
        numbersTooLong();
        eachLetterAlone();
        eachLetterBehindOne();
        endsTooEarly();
        peopleTold();
        soakedTold();
        deepTold();
        firstFaultOfTwo();
        faultLeavesText();
        toldAnewAsAtFirst();
        cellsOfTheField();
        peopleAtACell();
        goneByRains();
        personsAndTheirs();
        nowsThatAre();
        linesAtTheEdges();
        clearSquares();
        Due.end();
    }

    // ---- promise 1

    private static void newHasNobody() {
        MudMoot x = new MudMoot();
        for (int p = -1; p <= 5; p++) {
            Due.due("promise 1, no people: person(" + p + ", 0)", x.person(p, 0), -1);
            Due.due("promise 1, no people: walks(" + p + ", 1)", x.walks(p, 1), -1);
            Due.due("promise 1, no people: stands(" + p + ", 1)", x.stands(p, 1), -1);
            Due.due("promise 1, no people: power(" + p + ", 1)", x.power(p, 1), -1);
            Due.due("promise 1, no people: way(" + p + ", 0)", x.way(p, 0), -1);
            Due.due("promise 1, no people: rate(0, " + p + ")", x.rate(0, p), -1000000);
        }
        Due.due("promise 1: now(7)", x.now(7), 0);
        Due.due("promise 1: clear()", x.clear(), 0);
        Due.due("promise 1: forget()", x.forget(), 0);
        Due.due("promise 1: field()", x.field(), 0);
        Due.due("promise 1: rains()", x.rains(), 0);
        Due.due("promise 1: trace()", x.trace(), 0);
        Seen.same("promise 1: two new objects", Seen.now(new MudMoot()), Seen.now(new MudMoot()));
    }

    private static void objectsAreApart() {
        MudMoot untouched = new MudMoot();
        String before = Seen.now(untouched);
        MudMoot x = Due.told("s2;p0 0 4 4;f1 1 1;");
        x.stands(0, 1);
        x.keep(0);
        x.found(1, 4);
        x.rate(5, 0);
        x.type('p');
        Seen.same("promise 1: an object apart from another", Seen.now(untouched), before);
        Due.due("promise 1: back(0) of another's image", untouched.back(0), -2);
        Due.due("promise 1: undo() of another's act", untouched.undo(), -2);
    }

    // ---- promise 2

    private static void lettersThatMayCome() {
        MudMoot x = new MudMoot();
        for (int far : FAR) {
            Due.due("promise 2: type(" + far + ")", x.type(far), -1);
        }
        Due.due("promise 2: type(-1)", x.type(-1), -1);
        Due.due("promise 2: count(3) behind refusals", x.count(3), 0);
        for (int letter : new int[] {0, 1, 127, 128, 254, 255}) {
            MudMoot y = new MudMoot();
            Due.due("promise 2: type(" + letter + ")", y.type(letter), 1);
            Due.due("promise 2: field() of the letter " + letter, y.field(), -10);
        }
    }

    private static void hundredLetters() {
        MudMoot x = new MudMoot();
        Due.tell(x, "s3;");
        for (int i = 4; i <= 100; i++) {
            Due.due("promise 2: letter " + i, x.type(' '), i);
        }
        Due.due("promise 2: letter 101", x.type(' '), -3);
        Due.due("promise 2: letter 101, another", x.type('x'), -3);
        Due.due("promise 2: letter 101, 0", x.type(0), -3);
        Due.due("promise 2: letter 101, 255", x.type(255), -3);
        Due.due("promise 2: BAD ahead of FULL, 256", x.type(256), -1);
        Due.due("promise 2: BAD ahead of FULL, -1", x.type(-1), -1);
        Due.due("promise 2: count(3) of 100", x.count(3), 100);
        Due.due("promise 4: field() of 100 letters", x.field(), 1);
        Due.due("promise 4: count(1) as 100 letters tell", x.count(1), 3);
        Due.due("promise 2: the text is empty anew", x.type('p'), 1);
        String head = "p0 0 1 1;p5 5 4 9;p1 2 3 4;p2 3 1 0;p4 4 2 5;s9;f0 0 9;f5 5 1;f1 1 1;f2 2 2;f3 3 3;f4 4 4;";
        told(head + "f5 0  1   ", 100, 0);
        told(head + "f5 0   10;", 97, 0);
        told(head + "f5  0  4 p", 99, 0);
        told(head + "f5 0 4;  p", 99, 0);
        told(head + "f5 0 4;  f", 100, 0);
        Due.due("promise 4: what the last letters tell", told(head + "f5  0   4;", -1, 13).cell(50, 0), 4);
    }

    // ---- promise 3

    private static void cleared() {
        MudMoot x = new MudMoot();
        x.type('p');
        Due.due("promise 3: clear() of one", x.clear(), 1);
        Due.due("promise 3: clear() of none", x.clear(), 0);
        Due.tell(x, "s1;" + " ".repeat(100));
        Due.due("promise 3: clear() of 100", x.clear(), 100);
        Due.due("promise 3: type behind clear() of 100", x.type('s'), 1);
        Due.tell(x, "2;");
        Due.due("promise 3: field() behind clear()", x.field(), 1);
        MudMoot busy = busy();
        String before = Seen.now(busy);
        Due.due("promise 3: clear() of no letters", busy.clear(), 0);
        Seen.same("promise 3: clear() leaves all else", Seen.now(busy), before);
    }

    // ---- promise 4

    /** FAULT is the place of a fault, or -1: then the text has that many items. */
    private static MudMoot told(String text, int fault, int items) {
        MudMoot x = new MudMoot();
        Due.tell(x, text);
        Due.due("promise 4: field() of '" + text + "'", x.field(), fault < 0 ? items : -10 - fault);
        Due.due("promise 4: count(3) behind '" + text + "'", x.count(3), fault < 0 ? 0 : Math.min(100, text.length()));
        return x;
    }

    private static void noItems() {
        told("", -1, 0);
        told(" ", -1, 0);
        told(" ".repeat(99), -1, 0);
        told(" ".repeat(100), -1, 0);
        told(" ".repeat(99) + ";", 99, 0);
        told(" ".repeat(99) + "p", 100, 0);
        told(";", 0, 0);
        told(" ;", 1, 0);
        told("s1; ;", 4, 0);
    }

    private static void blanks() {
        told("p0 0 1 0;s1;f0 0 0;", -1, 3);
        told("   p   0   0   1   0   ;   s   1   ;   f   0   0   0   ;   ", -1, 3);
        told("p0  0 1 0;", -1, 1);
        told("p00 1 0;", 1, 0);
        told("p0 01 0;", 3, 0);
        told("p0 0 10;", 5, 0);
        told("p5 5 44;", 5, 0);
        told("f55 9;", 1, 0);
        told("f5 59;", 3, 0);
        told("s 1 2;", 4, 0);
        for (char other : new char[] {0, 9, 10, 13, 31, 33, 160, '_', 255}) {
            told("s1;" + other, 3, 0);
            told("s" + other + "1;", 1, 0);
            told("p1 1" + other + "1 1;", 4, 0);
        }
    }

    /** Each number of each item, from 0 to 101, with all others as they may be. */
    private static void numbersOfItems() {
        number("p", " 3 2 4;", 0, 5);
        number("p3 ", " 2 4;", 0, 5);
        number("p3 3 ", " 4;", 1, 4);
        number("p3 3 2 ", ";", 0, 9);
        number("s", ";", 1, 9);
        number("f", " 3 4;", 0, 5);
        number("f3 ", " 4;", 0, 5);
        number("f3 3 ", ";", 0, 9);
    }

    private static void number(String ahead, String behind, int least, int most) {
        for (int n = 0; n <= 101; n++) {
            told(ahead + n + behind, n >= least && n <= most ? -1 : ahead.length(), 1);
            told(ahead + "0" + n + behind, ahead.length(), 0);
        }
    }

    private static void numbersTooLong() {
        String[] numbers = {"99", "100", "101", "256", "257", "999", "65537", "2147483648", "4294967297", "4294967298",
            "18446744073709551617", "00", "000", "01", "001", "0000000001", "9".repeat(90)};
        for (String n : numbers) {
            told("s" + n + ";", 1, 0);
            told("s " + n + " ;", 2, 0);
            told("s" + n, 1, 0);
            told("p1 1 1 " + n, 7, 0);
            told("f1 " + n, 3, 0);
            told("s1;" + n, 3, 0);
            told("s1 " + n, 3, 0);
        }
    }

    private static void eachLetterAlone() {
        for (int letter = 0; letter <= 255; letter++) {
            boolean begins = letter == 'p' || letter == 's' || letter == 'f';
            told("" + (char) letter, letter == ' ' ? -1 : begins ? 1 : 0, 0);
        }
    }

    private static void eachLetterBehindOne() {
        for (int letter = 0; letter <= 255; letter++) {
            boolean goesOn = letter == ' ' || letter >= '1' && letter <= '9';
            told("s" + (char) letter, goesOn ? 2 : 1, 0);
            told("s1" + (char) letter, letter == ' ' ? 3 : letter == ';' ? -1 : letter >= '0' && letter <= '9' ? 1 : 2, 1);
            told("s1;" + (char) letter, letter == ' ' ? -1 : letter == 'p' || letter == 'f' ? 4 : 3, 1);
        }
    }

    /** Each text that is cut off behind some letters: told whole if an item has just ended. */
    private static void endsTooEarly() {
        String text = " s 9 ; p0 5 4 9;f5  0 0;  p 5 0 1 0 ;f 1 1 1 ; ";
        int items = 0;
        boolean whole = true;
        for (int length = 0; length <= text.length(); length++) {
            char last = length == 0 ? ' ' : text.charAt(length - 1);
            whole = last == ';' || whole && last == ' ';
            items += last == ';' ? 1 : 0;
            told(text.substring(0, length), whole ? -1 : length, items);
        }
    }

    private static void peopleTold() {
        String one = "p4 5 1 2;";
        for (int people = 0; people <= 5; people++) {
            MudMoot x = told(one.repeat(people), -1, people);
            Due.due("promise 4: count(0) of " + people, x.count(0), people);
            Due.due("promise 4: the last of " + people, x.person(people - 1, 0), people == 0 ? -1 : 45);
            Due.due("promise 4: the next of " + people, x.person(people, 0), -1);
            Due.due("promise 4: all at one cell", x.cell(45, 2), (1 << people) - 1);
        }
        told(one.repeat(6), 45, 0);
        told(one.repeat(5) + "p", 45, 0);
        told(one.repeat(5) + "  p9", 47, 0);
        told(one.repeat(5) + "s1;p", 48, 0);
        told(one.repeat(5) + "s1;f1 1 1;", -1, 7);
        MudMoot x = told("p0 0 1 0;s2;p0 5 2 9;f1 1 1;p5 0 3 1;p5 5 4 8;f1 1 2;p2 3 1 7;", -1, 8);
        int[][] due = {{0, 1, 0}, {5, 2, 9}, {50, 3, 1}, {55, 4, 8}, {23, 1, 7}};
        for (int p = 0; p < 5; p++) {
            for (int what = 0; what < 3; what++) {
                Due.due("promise 4: person(" + p + ", " + what + ")", x.person(p, what), due[p][what]);
            }
        }
    }

    private static void soakedTold() {
        for (int n = 1; n <= 9; n++) {
            Due.due("promise 4: count(1) of s" + n, told("s" + n + ";", -1, 1).count(1), n);
        }
        Due.due("promise 4: count(1), not told", told("f1 1 1;", -1, 1).count(1), 1);
        told("s1;s1;", 3, 0);
        told("s1;s", 3, 0);
        told("s1;p1 1 1 1;f1 1 1; s 9;", 20, 0);
        told("s1;s0;", 3, 0);
    }

    private static void deepTold() {
        for (int n = 0; n <= 9; n++) {
            MudMoot x = told("f5 0 " + n + ";f0 5 " + (9 - n) + ";", -1, 2);
            Due.due("promise 4: cell(50, 0) of " + n, x.cell(50, 0), n);
            Due.due("promise 4: cell(5, 0) of " + (9 - n), x.cell(5, 0), 9 - n);
            Due.due("promise 4: cell(50, 1): no toes", x.cell(50, 1), -9);
            Due.due("promise 4: now(0): 0 else", x.now(0), 9);
        }
        Due.due("promise 4: told again, less", told("f1 1 9;f1 1 2;", -1, 2).cell(11, 0), 2);
        Due.due("promise 4: told again, more", told("f1 1 2;f1 1 9;", -1, 2).cell(11, 0), 9);
        Due.due("promise 4: told again, 0", told("f1 1 9;p1 1 1 1;f1 1 0;", -1, 3).cell(11, 0), 0);
        Due.due("promise 4: told three times", told("f1 1 9;f1 1 0;f1 1 3;", -1, 3).cell(11, 0), 3);
        MudMoot most = told("f0 0 9;f0 1 9;f0 2 9;f0 3 9;f0 4 9;f0 5 9;f1 0 9;f1 1 9;f1 2 9;f1 3 9;f1 4 9;f1 5 9;f2 0 9;f2 1 9;",
            -1, 14);
        Due.due("promise 4: fourteen cells", most.now(0), 126);
    }

    private static void firstFaultOfTwo() {
        told("s0x", 1, 0);
        told("sx0", 1, 0);
        told("p6 6 5 10;", 1, 0);
        told("p5 6 5 10;", 3, 0);
        told("p5 5 5 10;", 5, 0);
        told("p5 5 4 10;", 7, 0);
        told("f6 6 10;", 1, 0);
        told("f5 6 10;", 3, 0);
        told("f5 5 10;", 5, 0);
        told("s1;s1;s1;", 3, 0);
        told("1 x", 0, 0);
        told("x 1", 0, 0);
        told("p p100", 2, 0);
        told("s 10 00", 2, 0);
        told("f1 ; x", 3, 0);
        told("s1 p100", 3, 0);
    }

    private static void faultLeavesText() {
        MudMoot x = told("p1 1 1 1;s", 10, 0);
        Due.due("promise 4: field() of the same text", x.field(), -20);
        Due.due("promise 4: type behind a fault", x.type('4'), 11);
        Due.due("promise 4: field() ends too early yet", x.field(), -21);
        Due.due("promise 4: type behind another fault", x.type(';'), 12);
        Due.due("promise 4: field() of the whole", x.field(), 2);
        Due.due("promise 4: count(1)", x.count(1), 4);
        Due.due("promise 4: count(0)", x.count(0), 1);
        Due.due("promise 4: field() of nothing", x.field(), 0);
        Due.due("promise 4: count(0) of nothing", x.count(0), 0);
        MudMoot y = told("s1;p0 0 1 1;x", 12, 0);
        Due.due("promise 4: a fault leaves no people", y.count(0), 0);
        Due.due("promise 3: clear() behind a fault", y.clear(), 13);
        Due.tell(y, "s5;p1 1 1 1;");
        Due.due("promise 4: s once, p the first, behind a fault", y.field(), 2);
        Due.due("promise 4: count(1) behind a fault", y.count(1), 5);
        Due.due("promise 4: person(0, 0) behind a fault", y.person(0, 0), 11);
        Due.due("promise 4: person(1, 0) behind a fault", y.person(1, 0), -1);
    }

    private static MudMoot busy() {
        MudMoot x = Due.told("s4;p1 1 4 3;p2 2 2 1;f5 5 7;f4 3 9;");
        x.stands(0, 1);
        x.votes(3);
        x.lifts(4, 4);
        x.walks(1, 2);
        x.found(0, 4);
        x.keep(0);
        x.keep(1);
        return x;
    }

    private static void toldAnewAsAtFirst() {
        for (String text : new String[] {"", "  ", "s7;", "p3 4 1 2;", "f1 1 3;f1 1 2;", "s2;p0 0 4 9;p0 0 1 0;f5 5 9;"}) {
            Seen.Recipe first = () -> Due.told(text);
            Seen.Recipe anew = () -> {
                MudMoot x = busy();
                Due.tell(x, text);
                x.field();
                return x;
            };
            Seen.same("promise 4: all anew by '" + text + "'", Seen.whole(anew), Seen.whole(first));
        }
        MudMoot x = busy();
        x.rate(3, 0);
        Due.due("promise 4: field() of nothing", x.field(), 0);
        Due.due("promise 26: trace() goes on behind field()", x.trace(), 1011);
        Due.due("promise 4: back(0): images are gone", x.back(0), -2);
        Due.due("promise 4: back(1): images are gone", x.back(1), -2);
        Due.due("promise 4: undo(): nothing can be undone", x.undo(), -2);
        x.keep(1);
        Due.due("promise 4: back(0): one image is kept anew", x.back(0), -2);
        Due.due("promise 4: back(1): one image is kept anew", x.back(1), 0);
    }

    // ---- promise 5

    private static void cellsOfTheField() {
        MudMoot x = new MudMoot();
        for (int cell = -70; cell <= 170; cell++) {
            boolean is = cell >= 0 && cell / 10 <= 5 && cell % 10 <= 5;
            Due.due("promise 5: cell(" + cell + ", 1)", x.cell(cell, 1), is ? -9 : -1);
        }
        for (int far : FAR) {
            Due.due("promise 5: cell(" + far + ", 0)", x.cell(far, 0), -1);
            Due.due("promise 5: cell(0, " + far + ")", x.cell(0, far), -1);
        }
        int[] due = {-1, 0, -9, 0, 0, -1, -1};
        for (int what = -1; what <= 5; what++) {
            Due.due("promise 5: cell(55, " + what + ")", x.cell(55, what), due[what + 1]);
            Due.due("promise 5: cell(56, " + what + ")", x.cell(56, what), -1);
        }
    }

    private static void peopleAtACell() {
        for (int people = 0; people <= 5; people++) {
            MudMoot told = Due.told("p3 5 1 0;".repeat(people));
            for (int cell = 0; cell <= 55; cell++) {
                int due = cell % 10 > 5 ? -1 : cell == 35 ? (1 << people) - 1 : 0;
                Due.due("promise 5: who of " + people + " is at " + cell, told.cell(cell, 2), due);
            }
        }
        MudMoot x = Due.told("p5 5 1 0;p5 5 1 0;p5 5 1 0;p5 5 1 0;p5 5 1 0;");
        int there = 31;
        Due.due("promise 5: all five", x.cell(55, 2), 31);
        for (int p = 4; p >= 0; p--) {
            there -= 1 << p;
            x.walks(p, 0);
            Due.due("promise 5: without " + p, x.cell(55, 2), there);
            Due.due("promise 5: with " + p, x.cell(45, 2), 31 - there);
        }
        for (int side = 0; side < 4; side++) {
            x.stands(0, side);
            Due.due("promise 5: toes to side " + side, x.cell(45, 1), side);
        }
    }

    private static void goneByRains() {
        for (int soaked = 1; soaked <= 9; soaked++) {
            for (int deep = 0; deep <= 9; deep++) {
                MudMoot x = Due.told("s" + soaked + ";f2 3 " + deep + ";");
                int gone = x.cell(23, 3);
                for (int rains = 0; rains < 9; rains++) {
                    Due.due("promise 5: gone, " + deep + " deep by " + soaked + ", " + rains + " rains",
                        gone > rains ? 1 : 0, x.cell(23, 0) > 0 ? 1 : 0);
                    x.rains();
                }
                Due.due("promise 5: at most nine rains", gone <= 9 && gone >= 0 ? 1 : 0, 1);
                Due.due("promise 5: gone behind them", x.cell(23, 3), 0);
            }
        }
        Due.due("promise 5: gone, 9 by 1", Due.told("f0 0 9;").cell(0, 3), 9);
        Due.due("promise 5: gone, 9 by 9", Due.told("s9;f0 0 9;").cell(0, 3), 1);
        Due.due("promise 5: gone, 9 by 8", Due.told("s8;f0 0 9;").cell(0, 3), 2);
        Due.due("promise 5: gone, 1 by 9", Due.told("s9;f0 0 1;").cell(0, 3), 1);
    }

    // ---- promise 6

    private static void personsAndTheirs() {
        MudMoot x = Due.told("p0 0 1 0;p0 5 4 9;p5 0 2 1;p5 5 3 8;p3 2 1 5;");
        int[][] due = {{0, 1, 0}, {5, 4, 9}, {50, 2, 1}, {55, 3, 8}, {32, 1, 5}};
        for (int p = -2; p <= 6; p++) {
            for (int what = -2; what <= 4; what++) {
                boolean is = p >= 0 && p < 5 && what >= 0 && what < 3;
                Due.due("promise 6: person(" + p + ", " + what + ")", x.person(p, what), is ? due[p][what] : -1);
            }
        }
        for (int far : FAR) {
            Due.due("promise 6: person(" + far + ", 0)", x.person(far, 0), -1);
            Due.due("promise 6: person(0, " + far + ")", x.person(0, far), -1);
        }
    }

    // ---- promise 7

    private static void nowsThatAre() {
        MudMoot x = Due.told("p2 2 4 9;");
        for (int far : FAR) {
            Due.due("promise 7: now(" + far + ")", x.now(far), -1);
        }
        int[] due = {-1, 0, 0, 0, 0, 8 + 16 + 32, 6, 0, 0, -1};
        for (int what = -1; what <= 8; what++) {
            Due.due("promise 7: now(" + what + ")", x.now(what), due[what + 1]);
        }
        MudMoot deepest = Due.trodden(4, 2);
        Due.due("promise 7: all cells 9 deep", deepest.now(0), 324);
        Due.due("promise 7: no clear cell", deepest.now(5), 0);
        Due.due("promise 7: no lowest cell", deepest.now(6), -9);
        Due.due("promise 7: ten acts to be undone of many", deepest.now(7), 10);
        Due.due("promise 7: all cells 1 deep", Due.trodden(1, 0).now(0), 36);
    }

    private static void linesAtTheEdges() {
        int[] from = {62, 60, 56, 48, 32, 0};
        for (int at = 0; at <= 5; at++) {
            Due.due("promise 7: lines of one at x " + at, Due.told("p" + at + " 3 1 1;").now(4), from[at]);
            Due.due("promise 7: lines of one without voices", Due.told("p" + at + " 3 1 0;").now(4), 0);
        }
        Due.due("promise 7: lines of nobody", new MudMoot().now(4), 0);
        Due.due("promise 7: as many on both sides", Due.told("p0 0 1 5;p5 0 1 5;").now(4), 32);
        Due.due("promise 7: one voice more for it", Due.told("p0 0 1 6;p5 0 1 5;").now(4), 62);
        Due.due("promise 7: one voice more against it", Due.told("p0 0 1 5;p5 0 1 6;").now(4), 32);
        Due.due("promise 7: 36 voices against 9", Due.told("p1 0 1 9;p4 0 1 9;p4 0 1 9;p4 0 1 9;p4 0 1 9;").now(4), 48);
    }

    private static void clearSquare(String text, int wide, int lowest) {
        MudMoot x = Due.told(text);
        Due.due("promise 7: how wide, " + text, x.now(5), wide);
        Due.due("promise 7: lowest cell, " + text, x.now(6), lowest);
    }

    private static void clearSquares() {
        clearSquare("", 6, 0);
        clearSquare("f0 0 1;", 5, 1);
        clearSquare("f5 5 9;", 5, 0);
        clearSquare("f0 0 1;f0 5 1;", 5, 10);
        clearSquare("f0 0 1;f0 5 1;f5 0 1;", 5, 11);
        clearSquare("f0 0 1;f0 5 1;f5 0 1;f5 5 1;", 4, 1);
        clearSquare("f1 1 1;f4 4 1;", 4, 2);
        clearSquare("f2 2 1;", 3, 3);
        clearSquare("f3 3 1;", 3, 0);
        clearSquare("f2 2 1;f2 3 1;f3 2 1;f3 3 1;", 2, 0);
        clearSquare("f1 0 1;f2 2 1;f2 3 1;f3 2 1;f3 3 1;", 2, 1);
        clearSquare("f1 1 1;f1 3 1;f1 4 1;f3 1 1;f3 3 1;f3 4 1;f4 1 1;f4 3 1;f4 4 1;", 1, 0);
        clearSquare("f0 0 1;f1 1 1;f1 3 1;f1 4 1;f3 1 1;f3 3 1;f3 4 1;f4 1 1;f4 3 1;f4 4 1;", 1, 1);
        MudMoot last = Due.trodden(1, 0);
        last.undo();
        Due.due("promise 7: one clear cell, how wide", last.now(5), 1);
        Due.due("promise 7: one clear cell, the last", last.now(6), 50);
        for (int tray : new int[] {0, 4, 22, 31, 40, 44}) {
            MudMoot x = Due.trodden(1, 0);
            x.lifts(tray / 10, tray % 10);
            Due.due("promise 7: one clear tray, how wide", x.now(5), 2);
            Due.due("promise 7: one clear tray, lowest cell", x.now(6), tray);
        }
    }
}
