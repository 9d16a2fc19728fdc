import java.util.Random;

/** Long runs of calls, the same each time, held against the model; odd arguments are among them. */
public final class ModelTest {
    private static final int[] ODD = {-1, 6, 10, 55, 56, 60, 100, 256, -9, -10, Integer.MIN_VALUE, Integer.MAX_VALUE};
    private static final String[] TEXTS = {"p", "s", "f", ";", " ", "0", "1", "5", "9", "10", "00", "100", "x"};

    /** Behind its 512th call nothing is promised of an object. */
    private static final int MOST_CALLS = 512;
    private static final int CALLS_OF_A_LOOK = 200;
    private static final int CALLS_OF_A_TEXT = 106;
    private static final String[] WHOLE = {"s2;p0 5 4 9; f5 0 9;p1 1 1 0;f 2 3 4 ;", " f1 2 3;p 5 5 2 7 ;s 9 ;",
        "p0 0 1 1;p1 1 1 1;p2 2 1 1;p3 3 1 1;p4 4 1 1;s1;"};
    private static final String LETTERS = " ;psf0123456789x";

    private final Random random;
    private final MudMoot moot = new MudMoot();
    private final Model model = new Model();
    private int calls;

    private ModelTest(int seed) {
        random = new Random(seed);
    }

    public static void main(String[] args) {
        for (int seed = 0; seed < 2500; seed++) {
            ModelTest run = new ModelTest(seed);
            while (run.calls < MOST_CALLS - CALLS_OF_A_LOOK - CALLS_OF_A_TEXT) {
                if (run.random.nextInt(60) == 0 || run.calls == 0) {
                    run.tell(run.text());
                } else {
                    run.call(run.random.nextInt(24));
                }
            }
            run.look();
            Due.due("calls of one run are " + run.calls + ", " + MOST_CALLS + " at most", Math.max(MOST_CALLS, run.calls),
                MOST_CALLS);
        }
        eachLetterChanged();
        Due.end();
    }

    private void due(String call, long got, long want) {
        Due.due(call, got, want);
        calls++;
    }

    private int upTo(int most) {
        return random.nextInt(40) == 0 ? ODD[random.nextInt(ODD.length)] : random.nextInt(most + 1);
    }

    private int cell() {
        return random.nextInt(40) == 0 ? upTo(60) : 10 * random.nextInt(6) + random.nextInt(6);
    }

    private String blanks() {
        return random.nextInt(6) == 0 ? " ".repeat(random.nextInt(3)) : "";
    }

    private String item(String head, int... numbers) {
        StringBuilder s = new StringBuilder(head);
        for (int i = 0; i < numbers.length; i++) {
            s.append(i > 0 ? " " : "").append(blanks()).append(numbers[i]);
        }
        return s.append(blanks()).append(";").append(blanks()).toString();
    }

    /** Mostly a text that can be read; now and then with a letter that is not as it was. */
    private String text() {
        StringBuilder s = new StringBuilder(blanks());
        int people = random.nextInt(6);
        for (int p = 0; p < people; p++) {
            s.append(item("p", random.nextInt(6), random.nextInt(6), 1 + random.nextInt(4), random.nextInt(10)));
        }
        if (random.nextInt(3) > 0) {
            s.append(item("s", 1 + random.nextInt(random.nextBoolean() ? 9 : 3)));
        }
        int deeps = random.nextInt(7);
        for (int i = 0; i < deeps; i++) {
            s.append(item("f", random.nextInt(6), random.nextInt(6), random.nextInt(10)));
        }
        if (random.nextInt(3) == 0 && s.length() > 0) {
            int at = random.nextInt(s.length());
            s.replace(at, at + random.nextInt(2), TEXTS[random.nextInt(TEXTS.length)]);
        }
        s.setLength(Math.min(s.length(), 104));
        return s.toString();
    }

    /** Each letter of some texts left out, put in another one's place, and put in. */
    private static void eachLetterChanged() {
        for (String whole : WHOLE) {
            for (int at = 0; at <= whole.length(); at++) {
                int behind = Math.min(at + 1, whole.length());
                field(whole.substring(0, at) + whole.substring(behind));
                for (int i = 0; i < LETTERS.length(); i++) {
                    field(whole.substring(0, at) + LETTERS.charAt(i) + whole.substring(behind));
                    field(whole.substring(0, at) + LETTERS.charAt(i) + whole.substring(at));
                }
            }
        }
    }

    private static void field(String text) {
        ModelTest run = new ModelTest(0);
        run.tell(text);
        run.look();
    }

    private void tell(String text) {
        if (random.nextInt(5) > 0) {
            due("clear()", moot.clear(), model.clear());
        }
        for (int i = 0; i < text.length(); i++) {
            due("type", moot.type(text.charAt(i)), model.type(text.charAt(i)));
        }
        due("field() of " + text, moot.field(), model.field());
    }

    private void call(int which) {
        int people = model.count(0);
        int p = upTo(Math.max(0, people - 1));
        switch (which) {
            case 0, 1, 2, 3 -> { int side = upTo(3); due("walks", moot.walks(p, side), model.walks(p, side)); }
            case 4, 5 -> { int side = upTo(3); due("stands", moot.stands(p, side), model.stands(p, side)); }
            case 6 -> due("rains", moot.rains(), model.rains());
            case 7 -> { int x = upTo(4); int y = upTo(4); due("lifts", moot.lifts(x, y), model.lifts(x, y)); }
            case 8 -> { int line = upTo(5); due("votes", moot.votes(line), model.votes(line)); }
            case 9, 10 -> due("undo", moot.undo(), model.undo());
            case 11 -> { int q = 1 + upTo(44); due("power", moot.power(p, q), model.power(p, q)); }
            case 12 -> { int k = 1 + upTo(2); int i = upTo(3) - 1; due("best", moot.best(k, i), model.best(k, i)); }
            case 13 -> { int c = cell(); due("way", moot.way(p, c), model.way(p, c)); }
            case 14 -> odds();
            case 15 -> found((1 << people) - 1);
            case 16 -> { if (random.nextInt(4) == 0) { due("forget", moot.forget(), model.forget()); } }
            case 17 -> { int what = upTo(2); due("can", moot.can(what), model.can(what)); }
            case 18 -> due("ask", moot.ask(), model.ask());
            case 19 -> { int kind = upTo(5); due("rate", moot.rate(kind, p), model.rate(kind, p)); }
            case 20 -> { int image = upTo(1); due("keep", moot.keep(image), model.keep(image)); }
            case 21 -> { int image = upTo(1); due("back", moot.back(image), model.back(image)); }
            case 22 -> { int c = cell(); int what = upTo(3); due("cell", moot.cell(c, what), model.cell(c, what)); }
            default -> { int what = upTo(7); due("now", moot.now(what), model.now(what)); }
        }
    }

    private void odds() {
        int c = cell();
        int x = upTo(10);
        int n = upTo(8);
        int what = upTo(1);
        due("odds", moot.odds(c, x, n, what), model.odds(c, x, n, what));
    }

    private void found(int all) {
        int elsewhere = random.nextInt(3) == 0 ? 0 : upTo(all);
        int n = 1 + upTo(8);
        due("found", moot.found(elsewhere, n), model.found(elsewhere, n));
    }

    /** All that can be seen without a change. */
    private void look() {
        for (int c = 0; c <= 55; c++) {
            for (int what = 0; what < 4 && c % 10 < 6; what++) {
                due("cell(" + c + ", " + what + ")", moot.cell(c, what), model.cell(c, what));
            }
        }
        for (int what = 0; what < 8; what++) {
            due("now(" + what + ")", moot.now(what), model.now(what));
            due("count(" + what + ")", moot.count(what), model.count(what));
            due("person(0, " + what + ")", moot.person(0, what), model.person(0, what));
            due("can(" + what + ")", moot.can(what), model.can(what));
        }
        due("ask()", moot.ask(), model.ask());
        due("trace()", moot.trace(), model.trace());
    }
}
