/**
 * All that can be seen of an object, as one text. What calls hide (what could be undone, the images, the text) is seen
 * by making the object again and opening one thing of it at a time, so that no object is used for 512 calls.
 */
final class Seen {
    /** Makes the same object each time. */
    interface Recipe {
        MudMoot make();
    }

    interface Call {
        long of(MudMoot x);
    }

    static String now(MudMoot x) {
        return things(x) + x.now(7) + '\n';
    }

    /** All that can be seen but for how many acts may be undone. */
    static String things(MudMoot x) {
        StringBuilder s = new StringBuilder();
        for (int cell = 0; cell <= 55; cell++) {
            for (int what = 0; what < 4 && cell % 10 < 6; what++) {
                s.append(x.cell(cell, what)).append(' ');
            }
        }
        for (int p = 0; p < 5; p++) {
            for (int what = 0; what < 3; what++) {
                s.append(x.person(p, what)).append(' ');
            }
        }
        for (int what = 0; what < 7; what++) {
            s.append(x.now(what)).append(' ').append(what < 4 ? x.count(what) : x.can(what - 4)).append(' ');
        }
        return s.append(x.ask()).append(' ').append(x.trace()).append(' ').toString();
    }

    static String whole(Recipe recipe) {
        StringBuilder s = new StringBuilder();
        for (int undos = 0; undos <= 10; undos++) {
            MudMoot x = recipe.make();
            for (int i = 0; i < undos; i++) {
                s.append(x.undo()).append(' ');
            }
            s.append(now(x));
        }
        for (int image = 0; image < 2; image++) {
            MudMoot x = recipe.make();
            s.append(x.back(image)).append(' ').append(now(x));
        }
        MudMoot x = recipe.make();
        s.append(x.field()).append(' ').append(now(x));
        return s.append(x.clear()).toString();
    }

    /** The call answers what is due, and all is as it would be without it. */
    static void changesNothing(String what, Recipe recipe, Call call, long due) {
        Due.due(what, call.of(recipe.make()), due);
        changesNothing(what, recipe, call);
    }

    /** All is as it would be without the call, whatever it answers. */
    static void changesNothing(String what, Recipe recipe, Call call) {
        Recipe behind = () -> {
            MudMoot x = recipe.make();
            call.of(x);
            return x;
        };
        same(what + " changes nothing", whole(behind), whole(recipe));
    }

    static void same(String what, String got, String due) {
        Due.due(what + " (1: as due)", got.equals(due) ? 1 : 0, 1);
    }

    private Seen() {
    }
}
