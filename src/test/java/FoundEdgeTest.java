/** The edges of promises 18 to 21: sets with others than people, the sixth and the seventh found, no set and one. */
public final class FoundEdgeTest {
    private static final int[] FAR = {Integer.MIN_VALUE, -1000000, -32, -9, -2, -1, 32, 33, 63, 64, 256, 1 << 30,
        Integer.MAX_VALUE - 1, Integer.MAX_VALUE};

    public static void main(String[] args) {
        foundArguments();
        sixAndSeven();
        forgotten();
        nothingFound();
        depthsOfSets();
        nineOrMore();
        elsewhereOfAll();
        severalFound();
        canArguments();
        askedOfFew();
        askedOfTies();
        askedEitherWay();
        nothingElse();
        Due.end();
    }

    private static String people(int... weights) {
        StringBuilder s = new StringBuilder();
        for (int weight : weights) {
            s.append("p0 0 ").append(weight).append(" 0;");
        }
        return s.toString();
    }

    private static MudMoot withPeople(int people) {
        return Due.told("p0 0 1 0;".repeat(people));
    }

    // ---- promise 18

    private static void foundArguments() {
        for (int people = 0; people <= 5; people++) {
            for (int n = -1; n <= 11; n++) {
                Due.due("promise 18: found(0, " + n + ")", withPeople(people).found(0, n), n < 1 || n > 9 ? -1 : 1);
            }
            for (int elsewhere = -2; elsewhere <= 34; elsewhere++) {
                boolean is = elsewhere >= 0 && elsewhere < 1 << people;
                Due.due("promise 18: found(" + elsewhere + ", 1) of " + people, withPeople(people).found(elsewhere, 1),
                    is ? 1 : -1);
                Due.due("promise 18: found(" + elsewhere + ", 10)", withPeople(people).found(elsewhere, 10), -1);
            }
            for (int far : FAR) {
                Due.due("promise 18: found(" + far + ", 1)", withPeople(people).found(far, 1), -1);
                Due.due("promise 18: found(0, " + far + ")", withPeople(people).found(0, far), -1);
            }
        }
    }

    private static void sixAndSeven() {
        MudMoot x = Due.told(people(4, 4, 2));
        for (int i = 1; i <= 6; i++) {
            Due.due("promise 18: found " + i, x.found(0, 8), i);
            Due.due("promise 25: count(2) of " + i, x.count(2), i);
        }
        for (int i = 7; i <= 9; i++) {
            Due.due("promise 18: found " + i, x.found(1, 1), -3);
        }
        Due.due("promise 18: BAD ahead of FULL, a set below 0", x.found(-1, 1), -1);
        Due.due("promise 18: BAD ahead of FULL, a set with others", x.found(8, 1), -1);
        Due.due("promise 18: BAD ahead of FULL, 0 deep", x.found(0, 0), -1);
        Due.due("promise 18: BAD ahead of FULL, 10 deep", x.found(0, 10), -1);
        Due.due("promise 18: six yet", x.count(2), 6);
        Due.due("promise 20: can(0) by the six alone", x.can(0), 1);
        Due.due("promise 20: can(1) by the six alone", x.can(1), 3);
        MudMoot y = Due.told(people(1, 2, 4, 4, 4));
        int[] elsewhere = {0, 1, 2, 4, 8, 16};
        int[] sets = {32, 3, 3, 3, 2, 1, 1};
        int[] deep = {7, 6, 5, 7, 7, 3};
        for (int i = 0; i <= 6; i++) {
            Due.due("promise 20: can(0) of " + i + " found", y.can(0), sets[i]);
            if (i < 6) {
                y.found(elsewhere[i], deep[i]);
            }
        }
        Due.due("promise 18: a seventh that nobody could be", y.found(0, 1), -3);
        Due.due("promise 20: can(1) of six found", y.can(1), 19);
    }

    // ---- promise 19

    private static void forgotten() {
        for (int found = 0; found <= 7; found++) {
            MudMoot x = withPeople(2);
            for (int i = 0; i < found; i++) {
                x.found(3, 1);
            }
            Due.due("promise 19: forget() of " + found, x.forget(), Math.min(6, found));
            Due.due("promise 19: count(2) behind it", x.count(2), 0);
            Due.due("promise 19: forget() again", x.forget(), 0);
            Due.due("promise 20: can(0) behind it", x.can(0), 4);
            for (int i = 1; i <= 7; i++) {
                Due.due("promise 19: found anew, " + i, x.found(0, 2), i > 6 ? -3 : i);
            }
            Due.due("promise 20: can(1) of what is found anew", x.can(1), 3);
        }
    }

    // ---- promise 20

    private static void can(MudMoot x, String what, int many, int all, int some, int ask) {
        Due.due("promise 20: can(0), " + what, x.can(0), many);
        Due.due("promise 20: can(1), " + what, x.can(1), all);
        Due.due("promise 20: can(2), " + what, x.can(2), some);
        Due.due("promise 21: ask(), " + what, x.ask(), ask);
    }

    private static void nothingFound() {
        for (int people = 0; people <= 5; people++) {
            MudMoot x = withPeople(people);
            can(x, people + " people, nothing found", 1 << people, 0, (1 << people) - 1, people == 0 ? -9 : 0);
        }
    }

    private static void depthsOfSets() {
        for (int weight = 1; weight <= 4; weight++) {
            for (int n = 1; n <= 9; n++) {
                MudMoot x = Due.told(people(weight));
                x.found(0, n);
                boolean is = n == weight;
                can(x, "one of " + weight + ", " + n + " deep", is ? 1 : 0, is ? 1 : -9, is ? 1 : 0, -9);
            }
        }
        for (int n = 1; n <= 9; n++) {
            MudMoot x = Due.told(people(1, 2, 4));
            x.found(0, n);
            boolean is = n <= 7;
            can(x, "1, 2 and 4, " + n + " deep", is ? 1 : 0, is ? n : -9, is ? n : 0, -9);
        }
    }

    private static void nineOrMore() {
        MudMoot exact = Due.told(people(4, 4, 1));
        exact.found(0, 9);
        can(exact, "9 together", 1, 7, 7, -9);
        MudMoot ten = Due.told(people(4, 4, 2));
        ten.found(0, 9);
        can(ten, "10 together", 1, 7, 7, -9);
        MudMoot eight = Due.told(people(4, 4, 2));
        eight.found(0, 8);
        can(eight, "8 of 10 together", 1, 3, 3, -9);
        MudMoot eightAtMost = Due.told(people(4, 4));
        eightAtMost.found(0, 9);
        can(eightAtMost, "8 at most, 9 deep", 0, -9, 0, -9);
        MudMoot twenty = Due.told(people(4, 4, 4, 4, 4));
        twenty.found(0, 9);
        can(twenty, "3, 4 or 5 of 4 each", 16, 0, 31, 0);
        twenty.found(3, 9);
        can(twenty, "9 without two", 4, 28, 31, 0);
        MudMoot bare = Due.told(people(1, 1, 1, 1, 4));
        bare.found(0, 8);
        can(bare, "all five are 8", 1, 31, 31, -9);
        bare.forget();
        bare.found(0, 9);
        can(bare, "all five are no 9", 0, -9, 0, -9);
    }

    private static void elsewhereOfAll() {
        for (int people = 0; people <= 5; people++) {
            for (int n = 1; n <= 9; n += 4) {
                MudMoot x = withPeople(people);
                Due.due("promise 18: all elsewhere", x.found((1 << people) - 1, n), 1);
                can(x, "all " + people + " elsewhere", 0, -9, 0, -9);
            }
        }
        MudMoot x = Due.told(people(3, 3));
        x.found(1, 3);
        can(x, "the first elsewhere", 2, 2, 3, 0);
        x.found(2, 3);
        can(x, "each elsewhere once", 1, 3, 3, -9);
        x.found(0, 3);
        can(x, "each elsewhere once, and neither", 0, -9, 0, -9);
    }

    private static void severalFound() {
        MudMoot x = Due.told(people(2, 2, 2, 2, 2));
        x.found(0, 4);
        can(x, "two of five", 10, 0, 31, 0);
        x.found(1, 2);
        can(x, "with the first", 4, 1, 31, 1);
        x.found(2, 4);
        can(x, "without the second", 3, 1, 29, 2);
        x.found(4, 4);
        can(x, "without the third", 2, 1, 25, 3);
        x.found(8, 4);
        can(x, "with the last", 1, 17, 17, -9);
        x.found(16, 4);
        can(x, "with nobody", 0, -9, 0, -9);
    }

    private static void canArguments() {
        MudMoot x = withPeople(3);
        int[] due = {-1, -1, 8, 0, 7, -1, -1};
        for (int what = -2; what <= 4; what++) {
            Due.due("promise 20: can(" + what + ")", x.can(what), due[what + 2]);
        }
        for (int far : FAR) {
            Due.due("promise 20: can(" + far + ")", x.can(far), -1);
        }
        x.found(7, 9);
        Due.due("promise 20: can(3) of no set", x.can(3), -1);
        Due.due("promise 20: can(-1) of no set", x.can(-1), -1);
    }

    // ---- promise 21

    private static void askedOfFew() {
        MudMoot nobody = new MudMoot();
        Due.due("promise 21: ask() of nobody", nobody.ask(), -9);
        MudMoot one = Due.told(people(2));
        Due.due("promise 21: two sets of one", one.ask(), 0);
        one.found(0, 2);
        Due.due("promise 21: one set", one.ask(), -9);
        one.found(0, 1);
        Due.due("promise 21: no set", one.ask(), -9);
        MudMoot last = Due.told(people(1, 1, 1, 1, 4));
        last.found(15, 4);
        Due.due("promise 21: all sets with the last", last.can(1), 16);
        Due.due("promise 21: the first of the others", last.ask(), 0);
        MudMoot two = Due.told(people(4, 4, 4, 4, 1));
        two.found(16, 9);
        two.found(1, 8);
        can(two, "8 without the first, 9 with him", 3, 1, 15, 1);
    }

    private static void askedOfTies() {
        MudMoot x = Due.told(people(3, 1, 1, 1));
        x.found(1, 1);
        // one of the last three, and the first or not: 6 sets; the first tells 3 of 6
        can(x, "one of three", 6, 0, 15, 0);
        x.found(0, 4);
        // the first surely; then each of three tells 2 of 3
        can(x, "one of three, and the first", 3, 1, 15, 1);
        x.found(2, 4);
        can(x, "one of the last two", 2, 1, 13, 2);
        MudMoot y = Due.told(people(1, 2, 3, 4));
        y.found(0, 5);
        // {0, 3}, {1, 2}: each of four tells
        can(y, "two ways to 5", 2, 0, 15, 0);
    }

    /** By one who is in most sets as by one who is in few: the greater part counts. */
    private static void askedEitherWay() {
        MudMoot few = Due.told(people(4, 2, 2, 1, 1));
        few.found(0, 4);
        // {0}, {1, 2}, {1, 3, 4}, {2, 3, 4}: 0 is in 1 of 4, the others in 2
        can(few, "4 by four ways", 4, 0, 31, 1);
        MudMoot most = Due.told(people(4, 2, 2, 1, 1));
        most.found(0, 6);
        // {0, 1}, {0, 2}, {0, 3, 4}, {1, 2, 3, 4}: 0 is in 3 of 4, the others in 2
        can(most, "6 by four ways", 4, 0, 31, 1);
        MudMoot later = Due.told(people(4, 4, 1, 1, 2));
        later.found(0, 4);
        // {0}, {1}, {2, 3, 4}: each tells 2 of 3
        can(later, "4 by three ways", 3, 0, 31, 0);
        later.found(1, 4);
        // {1}, {2, 3, 4}: 0 tells nothing
        can(later, "4 by two ways", 2, 0, 30, 1);
    }

    private static void nothingElse() {
        Seen.Recipe fresh = () -> Due.told("s2;p1 1 2 3;f1 1 4;f5 5 5;");
        Seen.Recipe asked = () -> {
            MudMoot x = fresh.make();
            x.found(1, 4);
            x.can(0);
            x.can(1);
            x.can(2);
            x.ask();
            x.forget();
            return x;
        };
        Seen.same("promise 19: found and forgotten", Seen.whole(asked), Seen.whole(fresh));
    }
}
