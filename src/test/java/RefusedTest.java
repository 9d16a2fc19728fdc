import java.util.LinkedHashMap;
import java.util.Map;

/** A refused call changes nothing, of two reasons the first is told, and calls that only look change nothing. */
public final class RefusedTest {
    private static final String FIVE = "s3;p0 0 1 9;p5 5 2 8;p0 5 3 7;p5 0 4 0;p2 3 4 1;f1 1 9;f2 3 5;";

    public static void main(String[] args) {
        for (Map.Entry<String, Seen.Recipe> recipe : recipes().entrySet()) {
            for (Map.Entry<String, Seen.Call> call : bad().entrySet()) {
                boolean rate = call.getKey().contains("rate");
                String what = call.getKey() + " of " + recipe.getKey();
                Seen.changesNothing(what, recipe.getValue(), call.getValue(), rate ? -1000000 : -1);
            }
        }
        state();
        full();
        faults();
        firstOfTwoReasons();
        onlyLooking();
        Due.end();
    }

    private static Map<String, Seen.Recipe> recipes() {
        Map<String, Seen.Recipe> all = new LinkedHashMap<>();
        all.put("a new object", MudMoot::new);
        all.put("five people", RefusedTest::five);
        all.put("all full", RefusedTest::full100);
        return all;
    }

    /** Twelve acts, images, found, and a text that could be read. */
    private static MudMoot five() {
        MudMoot x = Due.told(FIVE);
        x.keep(1);
        for (int i = 0; i < 3; i++) {
            x.walks(4, i);
            x.stands(i, 3);
            x.votes(i + 2);
            x.rains();
        }
        x.lifts(1, 2);
        x.keep(0);
        x.votes(3);
        x.found(0, 9);
        x.found(16, 5);
        x.rate(3, 2);
        Due.tell(x, "s2; p3 3 1 1;");
        return x;
    }

    /** A text of 100 letters, six found. */
    private static MudMoot full100() {
        MudMoot x = Due.told(FIVE);
        x.stands(0, 2);
        for (int i = 0; i < 6; i++) {
            x.found(i, 9);
        }
        Due.tell(x, "f5 5 1;" + " ".repeat(93));
        return x;
    }

    /** Calls that are BAD of whatever object. */
    private static Map<String, Seen.Call> bad() {
        Map<String, Seen.Call> all = new LinkedHashMap<>();
        all.put("promise 2: type(-1)", x -> x.type(-1));
        all.put("promise 2: type(256)", x -> x.type(256));
        all.put("promise 5: cell(-1, 0)", x -> x.cell(-1, 0));
        all.put("promise 5: cell(6, 0)", x -> x.cell(6, 0));
        all.put("promise 5: cell(60, 0)", x -> x.cell(60, 0));
        all.put("promise 5: cell(0, 4)", x -> x.cell(0, 4));
        all.put("promise 6: person(-1, 0)", x -> x.person(-1, 0));
        all.put("promise 6: person(5, 0)", x -> x.person(5, 0));
        all.put("promise 6: person(0, 3)", x -> x.person(0, 3));
        all.put("promise 7: now(-1)", x -> x.now(-1));
        all.put("promise 7: now(8)", x -> x.now(8));
        badActs(all);
        all.put("promise 14: power(5, 1)", x -> x.power(5, 1));
        all.put("promise 14: power(0, 0)", x -> x.power(0, 0));
        all.put("promise 14: power(0, 46)", x -> x.power(0, 46));
        all.put("promise 15: best(0, 0)", x -> x.best(0, 0));
        all.put("promise 15: best(4, 0)", x -> x.best(4, 0));
        all.put("promise 15: best(1, -2)", x -> x.best(1, -2));
        all.put("promise 15: best(3, 3)", x -> x.best(3, 3));
        all.put("promise 16: way(5, 0)", x -> x.way(5, 0));
        all.put("promise 16: way(0, 56)", x -> x.way(0, 56));
        all.put("promise 17: odds(6, 0, 0, 0)", x -> x.odds(6, 0, 0, 0));
        all.put("promise 17: odds(0, 11, 0, 0)", x -> x.odds(0, 11, 0, 0));
        all.put("promise 17: odds(0, 0, 9, 0)", x -> x.odds(0, 0, 9, 0));
        all.put("promise 17: odds(0, 0, 0, 2)", x -> x.odds(0, 0, 0, 2));
        all.put("promise 18: found(-1, 1)", x -> x.found(-1, 1));
        all.put("promise 18: found(32, 1)", x -> x.found(32, 1));
        all.put("promise 18: found(0, 0)", x -> x.found(0, 0));
        all.put("promise 18: found(0, 10)", x -> x.found(0, 10));
        all.put("promise 20: can(-1)", x -> x.can(-1));
        all.put("promise 20: can(3)", x -> x.can(3));
        all.put("promise 22: rate(-1, 0)", x -> x.rate(-1, 0));
        all.put("promise 22: rate(6, 0)", x -> x.rate(6, 0));
        all.put("promise 22: rate(0, -1)", x -> x.rate(0, -1));
        all.put("promise 22: rate(5, 5)", x -> x.rate(5, 5));
        all.put("promise 23: keep(-1)", x -> x.keep(-1));
        all.put("promise 23: keep(2)", x -> x.keep(2));
        all.put("promise 24: back(-1)", x -> x.back(-1));
        all.put("promise 24: back(2)", x -> x.back(2));
        all.put("promise 25: count(-1)", x -> x.count(-1));
        all.put("promise 25: count(4)", x -> x.count(4));
        return all;
    }

    private static void badActs(Map<String, Seen.Call> all) {
        all.put("promise 8: walks(-1, 0)", x -> x.walks(-1, 0));
        all.put("promise 8: walks(5, 0)", x -> x.walks(5, 0));
        all.put("promise 8: walks(0, -1)", x -> x.walks(0, -1));
        all.put("promise 8: walks(0, 4)", x -> x.walks(0, 4));
        all.put("promise 9: stands(-1, 0)", x -> x.stands(-1, 0));
        all.put("promise 9: stands(5, 0)", x -> x.stands(5, 0));
        all.put("promise 9: stands(0, -1)", x -> x.stands(0, -1));
        all.put("promise 9: stands(0, 4)", x -> x.stands(0, 4));
        all.put("promise 11: lifts(-1, 0)", x -> x.lifts(-1, 0));
        all.put("promise 11: lifts(0, -1)", x -> x.lifts(0, -1));
        all.put("promise 11: lifts(5, 0)", x -> x.lifts(5, 0));
        all.put("promise 11: lifts(0, 5)", x -> x.lifts(0, 5));
        all.put("promise 12: votes(-1)", x -> x.votes(-1));
        all.put("promise 12: votes(6)", x -> x.votes(6));
    }

    private static void state() {
        Seen.Recipe five = RefusedTest::full100;
        Seen.changesNothing("promise 8: walks(0, 0) off the field", five, x -> x.walks(0, 0), -2);
        Seen.changesNothing("promise 8: walks(0, 2) off the field", five, x -> x.walks(0, 2), -2);
        Seen.changesNothing("promise 8: walks(1, 1) off the field", five, x -> x.walks(1, 1), -2);
        Seen.changesNothing("promise 8: walks(1, 3) off the field", five, x -> x.walks(1, 3), -2);
        Seen.changesNothing("promise 11: lifts(4, 4), all four dry", five, x -> x.lifts(4, 4), -2);
        Seen.changesNothing("promise 24: back(0) of none", five, x -> x.back(0), -2);
        Seen.changesNothing("promise 24: back(1) of none", five, x -> x.back(1), -2);
        Seen.Recipe told = () -> {
            MudMoot x = Due.told(FIVE);
            x.keep(0);
            x.found(3, 3);
            Due.tell(x, "s4;");
            return x;
        };
        Seen.changesNothing("promise 13: undo() of nothing", told, x -> x.undo(), -2);
        Seen.changesNothing("promise 24: back(1) with the other kept", told, x -> x.back(1), -2);
        Seen.changesNothing("promise 13: undo() of a new object", MudMoot::new, x -> x.undo(), -2);
        Seen.changesNothing("promise 11: lifts(0, 0) of a new object", MudMoot::new, x -> x.lifts(0, 0), -2);
        Seen.changesNothing("promise 24: back(0) of a new object", MudMoot::new, x -> x.back(0), -2);
    }

    private static void full() {
        Seen.changesNothing("promise 2: letter 101", RefusedTest::full100, x -> x.type('f'), -3);
        Seen.changesNothing("promise 2: letter 101, a blank", RefusedTest::full100, x -> x.type(' '), -3);
        Seen.changesNothing("promise 18: found 7", RefusedTest::full100, x -> x.found(0, 9), -3);
        Seen.changesNothing("promise 18: found 7, all elsewhere", RefusedTest::full100, x -> x.found(31, 1), -3);
    }

    private static void faults() {
        String[] texts = {"x", "s5;p9", "p1 1 1 1;p2 2 2 2;x", "f0 0 9;f1 1 0;s0;", "s5", ";", "p1 1 1 1;s7;f5 5 10;", "s7;s7;"};
        int[] places = {0, 4, 18, 15, 2, 0, 17, 3};
        for (int i = 0; i < texts.length; i++) {
            String text = texts[i];
            Seen.Recipe typed = () -> {
                MudMoot x = five();
                x.clear();
                Due.tell(x, text);
                return x;
            };
            Seen.changesNothing("promise 4: field() of '" + text + "'", typed, x -> x.field(), -10 - places[i]);
        }
    }

    private static void firstOfTwoReasons() {
        MudMoot full = full100();
        Due.due("promise 2: 256 as letter 101: BAD ahead of FULL", full.type(256), -1);
        Due.due("promise 2: -1 as letter 101: BAD ahead of FULL", full.type(-1), -1);
        Due.due("promise 18: others as found 7: BAD ahead of FULL", full.found(32, 1), -1);
        Due.due("promise 18: 0 deep as found 7: BAD ahead of FULL", full.found(0, 0), -1);
        Due.due("promise 18: 10 deep as found 7: BAD ahead of FULL", full.found(0, 10), -1);
        Due.due("promise 18: others, 10 deep, as found 7", full.found(-1, 10), -1);
        Due.due("promise 8: side 4 at the side: BAD ahead of STATE", full.walks(0, 4), -1);
        Due.due("promise 8: side -1 at the side: BAD ahead of STATE", full.walks(0, -1), -1);
        Due.due("promise 8: nobody to side 0: BAD ahead of STATE", full.walks(5, 0), -1);
        Due.due("promise 8: nobody to side 2: BAD ahead of STATE", full.walks(-1, 2), -1);
        Due.due("promise 11: a dry tray off the field: BAD ahead of STATE", full.lifts(5, 4), -1);
        Due.due("promise 11: another: BAD ahead of STATE", full.lifts(4, 5), -1);
        Due.due("promise 11: another: BAD ahead of STATE", full.lifts(4, -1), -1);
        Due.due("promise 24: image 2, none kept: BAD ahead of STATE", full.back(2), -1);
        Due.due("promise 24: image -1, none kept: BAD ahead of STATE", full.back(-1), -1);
        Due.due("promise 22: no kind, nobody", full.rate(6, 5), -1000000);
        Due.due("promise 15: four trays, the third of them", full.best(4, 3), -1);
        Due.due("promise 15: one tray, not so many and above 2", full.best(1, 3), -1);
        Due.due("promise 15: one tray, not so many", full.best(1, 2), -9);
        Due.due("promise 16: nobody to no cell", full.way(5, 66), -1);
        Due.due("promise 4: 100 letters yet", full.field(), 1);
    }

    private static void onlyLooking() {
        Map<String, Seen.Call> looks = new LinkedHashMap<>();
        looks.put("promise 5: cell(22, 3)", x -> x.cell(22, 3));
        looks.put("promise 6: person(4, 0)", x -> x.person(4, 0));
        looks.put("promise 7: now(4), now(5), now(6)", x -> x.now(4) + x.now(5) + x.now(6));
        looks.put("promise 14: power(0, 9)", x -> x.power(0, 9));
        looks.put("promise 15: best(3, -1), best(3, 2)", x -> x.best(3, -1) + x.best(3, 2));
        looks.put("promise 16: way(0, 55)", x -> x.way(0, 55));
        looks.put("promise 17: odds(23, 5, 8, 0)", x -> x.odds(23, 5, 8, 0));
        looks.put("promise 20: can(0), can(1), can(2)", x -> x.can(0) + x.can(1) + x.can(2));
        looks.put("promise 21: ask()", x -> x.ask());
        looks.put("promise 25: count(0)", x -> x.count(0));
        looks.put("promise 26: trace()", x -> x.trace());
        for (Map.Entry<String, Seen.Call> look : looks.entrySet()) {
            Seen.changesNothing(look.getKey(), RefusedTest::five, look.getValue());
        }
        Seen.Recipe kept = () -> {
            MudMoot x = five();
            x.keep(0);
            return x;
        };
        Seen.changesNothing("promise 23: keep(0) of what it has", kept, x -> x.keep(0));
    }
}
