/** What is due against what was answered, for all tests of the project. */
final class Due {
    private static int right = 0;
    private static int wrong = 0;

    static void due(String call, long got, long want) {
        if (got == want) {
            right++;
        } else {
            wrong++;
            System.out.println(call + " answered " + got + ", due is " + want);
        }
    }

    /** A whole text typed, letter by letter. */
    static void tell(MudMoot moot, String text) {
        for (int i = 0; i < text.length(); i++) {
            moot.type(text.charAt(i));
        }
    }

    static MudMoot told(String text) {
        MudMoot moot = new MudMoot();
        tell(moot, text);
        if (moot.field() < 0) {
            due("field() of " + text, -1, 0);
        }
        return moot;
    }

    /** One of that weight has walked over the whole field, and has stood on each cell as often as told. */
    static MudMoot trodden(int weight, int stands) {
        MudMoot x = told("p0 0 " + weight + " 0;");
        x.stands(0, 3);
        for (int step = 0; step < 36; step++) {
            if (step > 0) {
                x.walks(0, step % 6 == 0 ? 1 : step / 6 % 2 == 0 ? 3 : 2);
            }
            for (int i = 0; i < stands; i++) {
                x.stands(0, 3);
            }
        }
        return x;
    }

    static void end() {
        System.out.println(right + " answers as due, " + wrong + " not");
        if (wrong != 0 || right == 0) {
            System.exit(1);
        }
    }

    private Due() {
    }
}
