/** Promises 18 to 21: found, forget, can, ask. */
public final class FoundTest {
    public static void main(String[] args) {
        foundAndForgotten();
        fewer();
        nineAtMost();
        nobody();
        asked();
        Due.end();
    }

    private static void can(MudMoot x, String when, int many, int all, int some, int ask) {
        Due.due(when + ": can(0)", x.can(0), many);
        Due.due(when + ": can(1)", x.can(1), all);
        Due.due(when + ": can(2)", x.can(2), some);
        Due.due(when + ": ask()", x.ask(), ask);
    }

    private static void foundAndForgotten() {
        MudMoot x = Due.told("p0 0 1 1;p0 0 2 1;p0 0 3 1;");
        Due.due("found(8, 1): not people", x.found(8, 1), -1);
        Due.due("found(-1, 1)", x.found(-1, 1), -1);
        Due.due("found(0, 0)", x.found(0, 0), -1);
        Due.due("found(0, 10)", x.found(0, 10), -1);
        Due.due("count(2)", x.count(2), 0);
        for (int i = 1; i <= 6; i++) {
            Due.due("found(0, 6), number " + i, x.found(0, 6), i);
        }
        Due.due("found(0, 6) beyond six", x.found(0, 6), -3);
        Due.due("found(8, 6) beyond six", x.found(8, 6), -1);
        Due.due("found(0, 10) beyond six", x.found(0, 10), -1);
        Due.due("count(2) of six", x.count(2), 6);
        can(x, "six found", 1, 7, 7, -9);
        Due.due("forget()", x.forget(), 6);
        Due.due("count(2) forgotten", x.count(2), 0);
        can(x, "forgotten", 8, 0, 7, 0);
        Due.due("forget() of nothing", x.forget(), 0);
        Due.due("found(7, 1): all elsewhere", x.found(7, 1), 1);
        can(x, "found with all elsewhere", 0, -9, 0, -9);
        Due.due("can(-1)", x.can(-1), -1);
        Due.due("can(3)", x.can(3), -1);
        Due.due("now(7): nothing to be undone", x.now(7), 0);
    }

    private static void fewer() {
        MudMoot x = Due.told("p0 0 1 1;p0 0 2 1;p0 0 3 1;p0 0 4 1;");
        x.found(0, 5);
        // {0, 3} and {1, 2}
        can(x, "five deep", 2, 0, 15, 0);
        x.found(1, 4);
        can(x, "four without him", 1, 9, 9, -9);
        x.found(8, 2);
        can(x, "two without the other", 0, -9, 0, -9);
        x.forget();
        x.found(4, 3);
        // {0, 1} and {0, 1, 2}
        can(x, "three without the third", 2, 3, 7, 2);
    }

    private static void nineAtMost() {
        MudMoot x = Due.told("p0 0 4 1;p0 0 4 1;p0 0 4 1;p0 0 1 1;");
        x.found(0, 9);
        // 0 1 2 and 0 1 2 3, and each two of them with 3
        can(x, "nine deep", 5, 0, 15, 0);
        x.found(4, 9);
        can(x, "nine without one", 2, 11, 15, 2);
        x.found(3, 4);
        can(x, "four without two", 0, -9, 0, -9);
        MudMoot eight = Due.told("p0 0 4 1;p0 0 4 1;p0 0 4 1;p0 0 1 1;");
        eight.found(0, 8);
        can(eight, "eight deep", 3, 0, 7, 0);
    }

    private static void nobody() {
        MudMoot x = new MudMoot();
        can(x, "nobody", 1, 0, 0, -9);
        Due.due("found(1, 1) of nobody", x.found(1, 1), -1);
        Due.due("found(0, 1) of nobody", x.found(0, 1), 1);
        can(x, "nobody's print", 0, -9, 0, -9);
        x.forget();
        can(x, "nobody forgotten", 1, 0, 0, -9);
    }

    private static void asked() {
        MudMoot x = Due.told("p0 0 4 1;p0 0 1 1;p0 0 1 1;p0 0 1 1;p0 0 2 1;");
        x.found(0, 2);
        // {4}, {1, 2}, {1, 3}, {2, 3}: two of four have 1
        can(x, "two deep", 4, 0, 30, 1);
        x.forget();
        x.found(0, 1);
        // {1}, {2}, {3}
        can(x, "one deep", 3, 0, 14, 1);
        x.forget();
        x.found(16, 4);
        // {0} and {0, 4}: 4 tells them
        can(x, "four without the last", 2, 1, 17, 4);
        MudMoot five = Due.told("p0 0 1 1;p0 0 1 1;p0 0 1 1;p0 0 1 1;p0 0 1 1;");
        can(five, "five free", 32, 0, 31, 0);
        Due.due("found(31, 9)", five.found(31, 9), 1);
        Due.due("found(32, 9)", five.found(32, 9), -1);
    }
}
