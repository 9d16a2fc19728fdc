import java.util.Arrays;

/** An old moot in a field of mud: people leave prints, rain takes them, and all of it can be undone. */
public final class MudMoot {
    public static final int BAD = -1, STATE = -2, FULL = -3, NONE = -9;
    public static final int NO = -1000000;

    private static final int WIDE = 6;
    private static final int PLACES = WIDE * WIDE;
    private static final int SIDES = 4;
    private static final int MOST_DEEP = 9;
    private static final int MOST_PEOPLE = 5;
    private static final int MOST_LETTERS = 100;
    private static final int MOST_SAVED = 999;
    private static final int MOST_UNDONE = 10;
    private static final int MOST_FOUND = 6;
    private static final int MOST_QUOTA = 45;
    private static final int MOST_DAYS = 8;
    private static final int TENTHS = 10;
    private static final int IMAGES = 2;
    private static final int KINDS = 6;
    private static final int TRAYS_WIDE = WIDE - 1;
    private static final int TRAYS = TRAYS_WIDE * TRAYS_WIDE;
    private static final int MOST_TRAYS = 3;

    private final Reader reader = new Reader();
    private final Roll roll = new Roll();
    private final Moment moment = new Moment();
    private final Past past = new Past();
    private final Findings findings = new Findings();
    private final Moment[] images = new Moment[IMAGES];
    private final boolean[] imageKept = new boolean[IMAGES];
    private final One[] kinds = new One[KINDS];
    private final int[] traySaves = new int[TRAYS];
    private final int[] bestTrays = new int[MOST_TRAYS];
    private int bestSaves;
    private final int[] steps = new int[PLACES];
    private final int[] queue = new int[PLACES];
    private long traced;

    public MudMoot() {
        for (int i = 0; i < images.length; i++) {
            images[i] = new Moment();
        }
        kinds[0] = new One();
        kinds[1] = new Clerk();
        kinds[2] = new Liar();
        kinds[3] = new Thin();
        kinds[4] = new Widow();
        kinds[5] = new Waverer();
    }

    // ---- the field

    public int type(int letter) {
        if (letter < 0 || letter > 255) {
            return BAD;
        }
        return reader.add((char) letter) ? reader.length : FULL;
    }

    public int clear() {
        int had = reader.length;
        reader.length = 0;
        return had;
    }

    public int field() {
        int items = reader.readAll();
        if (items < 0) {
            return items;
        }
        roll.copyFrom(reader.roll);
        moment.copyFrom(reader.first);
        reader.length = 0;
        past.lose();
        findings.size = 0;
        loseImages();
        return items;
    }

    public int cell(int cell, int what) {
        int place = placeOfCell(cell);
        if (place < 0) {
            return BAD;
        }
        switch (what) {
            case 0:
                return moment.deepAt(place);
            case 1:
                return moment.toesAt(place);
            case 2:
                return peopleAt(place);
            case 3:
                return rainsUntilGone(place);
            default:
                return BAD;
        }
    }

    public int person(int p, int what) {
        if (!roll.has(p)) {
            return BAD;
        }
        switch (what) {
            case 0:
                return cellOfPlace(moment.placeOf(p));
            case 1:
                return roll.weightOf(p);
            case 2:
                return roll.voicesOf(p);
            default:
                return BAD;
        }
    }

    public int now(int what) {
        switch (what) {
            case 0:
                return moment.deepTogether();
            case 1:
                return moment.saved;
            case 2:
                return moment.voted;
            case 3:
                return moment.passed;
            case 4:
                return passingLines();
            case 5:
                return widestClear();
            case 6:
                return clearSquare(widestClear());
            case 7:
                return past.known;
            default:
                return BAD;
        }
    }

    // ---- what is done

    public int walks(int p, int side) {
        if (!roll.has(p) || !isSide(side)) {
            return BAD;
        }
        int next = placeBeside(moment.placeOf(p), side);
        if (next < 0) {
            return STATE;
        }
        past.remember(moment);
        moment.put(p, next);
        return moment.print(next, roll.weightOf(p), side);
    }

    public int stands(int p, int side) {
        if (!roll.has(p) || !isSide(side)) {
            return BAD;
        }
        past.remember(moment);
        return moment.print(moment.placeOf(p), roll.weightOf(p), side);
    }

    public int rains() {
        past.remember(moment);
        return moment.soak(roll.soaked);
    }

    public int lifts(int x, int y) {
        if (!isTray(x, y)) {
            return BAD;
        }
        int saves = moment.trayDeep(x, y);
        if (saves == 0) {
            return STATE;
        }
        past.remember(moment);
        moment.lift(x, y);
        return saves;
    }

    public int votes(int line) {
        if (!isCoordinate(line)) {
            return BAD;
        }
        boolean passes = wouldPass(line);
        past.remember(moment);
        moment.voted++;
        if (passes) {
            moment.passed++;
        }
        return passes ? 1 : 0;
    }

    public int undo() {
        if (past.known == 0) {
            return STATE;
        }
        past.recall(moment);
        return past.known;
    }

    // ---- what could be

    public int power(int p, int quota) {
        if (!roll.has(p) || quota < 1 || quota > MOST_QUOTA) {
            return BAD;
        }
        int sets = 0;
        for (int set = 0; set < roll.sets(); set++) {
            if ((set & (1 << p)) == 0) {
                int voices = roll.voicesTogether(set);
                if (voices < quota && voices + roll.voicesOf(p) >= quota) {
                    sets++;
                }
            }
        }
        return sets;
    }

    public int best(int k, int i) {
        if (k < 1 || k > MOST_TRAYS || i < -1 || i >= MOST_TRAYS) {
            return BAD;
        }
        if (i >= k) {
            return NONE;
        }
        seekBest(k);
        if (i < 0 || i >= bestTrays.length) {
            return bestSaves;
        }
        return 10 * (bestTrays[i] / TRAYS_WIDE) + bestTrays[i] % TRAYS_WIDE;
    }

    public int way(int p, int cell) {
        int to = placeOfCell(cell);
        if (!roll.has(p) || to < 0 || to >= steps.length) {
            return BAD;
        }
        measureSteps(moment.placeOf(p));
        return steps[to];
    }

    public int odds(int cell, int x, int n, int what) {
        int place = placeOfCell(cell);
        if (place < 0 || x < 0 || x > TENTHS || n < 0 || n > MOST_DAYS || what < 0 || what > 1) {
            return BAD;
        }
        long upper = chancesToStay(rainsUntilGone(place), x, n);
        long lower = powerOf(TENTHS, n);
        long part = commonPart(upper, lower);
        if (part < 1) {
            return BAD;
        }
        return (int) ((what == 0 ? upper : lower) / part);
    }

    // ---- what was found

    public int found(int elsewhere, int n) {
        if (elsewhere < 0 || elsewhere >= roll.sets() || n < 1 || n > MOST_DEEP) {
            return BAD;
        }
        return findings.add(elsewhere, n) ? findings.size : FULL;
    }

    public int forget() {
        int had = findings.size;
        findings.size = 0;
        return had;
    }

    public int can(int what) {
        switch (what) {
            case 0:
                return setsThatCan(0);
            case 1:
                return peopleInAll();
            case 2:
                return peopleInSome();
            default:
                return BAD;
        }
    }

    public int ask() {
        int all = setsThatCan(0);
        int chosen = NONE;
        int least = all;
        for (int p = 0; p < roll.people && all > 1; p++) {
            int with = setsThatCan(1 << p);
            int greater = Math.max(with, all - with);
            if (greater < least) {
                least = greater;
                chosen = p;
            }
        }
        return chosen;
    }

    // ---- kinds, images

    public int rate(int kind, int p) {
        if (kind < 0 || kind >= kinds.length || !roll.has(p)) {
            return NO;
        }
        One asked = kinds[kind];
        return asked == null ? NO : asked.rated(this, p);
    }

    public int keep(int image) {
        if (image < 0 || image >= IMAGES) {
            return BAD;
        }
        Moment kept = images[image];
        if (kept == null) {
            return BAD;
        }
        kept.copyFrom(moment);
        imageKept[image] = true;
        return moment.saved;
    }

    public int back(int image) {
        if (image < 0 || image >= IMAGES) {
            return BAD;
        }
        Moment kept = images[image];
        if (kept == null || !imageKept[image]) {
            return STATE;
        }
        moment.copyFrom(kept);
        past.lose();
        return moment.saved;
    }

    public int count(int what) {
        switch (what) {
            case 0:
                return roll.people;
            case 1:
                return roll.soaked;
            case 2:
                return findings.size;
            case 3:
                return reader.length;
            default:
                return BAD;
        }
    }

    public long trace() {
        return traced;
    }

    private void loseImages() {
        for (int i = 0; i < imageKept.length; i++) {
            imageKept[i] = false;
        }
    }

    // ---- places: the cells in order, x first, then y

    private static boolean isCoordinate(int c) {
        return c >= 0 && c < WIDE;
    }

    private static boolean isSide(int side) {
        return side >= 0 && side < SIDES;
    }

    private static boolean isTray(int x, int y) {
        return x >= 0 && x < TRAYS_WIDE && y >= 0 && y < TRAYS_WIDE;
    }

    private static int placeAt(int x, int y) {
        return isCoordinate(x) && isCoordinate(y) ? x * WIDE + y : NONE;
    }

    private static int placeOfCell(int cell) {
        return cell < 0 ? NONE : placeAt(cell / 10, cell % 10);
    }

    private static int cellOfPlace(int place) {
        return 10 * (place / WIDE) + place % WIDE;
    }

    private static int placeBeside(int place, int side) {
        int x = place / WIDE;
        int y = place % WIDE;
        switch (side) {
            case 0:
                return placeAt(x - 1, y);
            case 1:
                return placeAt(x + 1, y);
            case 2:
                return placeAt(x, y - 1);
            default:
                return placeAt(x, y + 1);
        }
    }

    private int peopleAt(int place) {
        int bits = 0;
        for (int p = 0; p < roll.people; p++) {
            if (moment.placeOf(p) == place) {
                bits |= 1 << p;
            }
        }
        return bits;
    }

    private int rainsUntilGone(int place) {
        int soaked = roll.soaked;
        if (soaked < 1) {
            return 0;
        }
        return (moment.deepAt(place) + soaked - 1) / soaked;
    }

    // ---- lines

    private boolean wouldPass(int line) {
        int ahead = 0;
        for (int p = 0; p < roll.people; p++) {
            int x = moment.placeOf(p) / WIDE;
            if (x < line) {
                ahead += roll.voicesOf(p);
            } else if (x > line) {
                ahead -= roll.voicesOf(p);
            }
        }
        return ahead > 0;
    }

    private int passingLines() {
        int bits = 0;
        for (int line = 0; line < WIDE; line++) {
            if (wouldPass(line)) {
                bits |= 1 << line;
            }
        }
        return bits;
    }

    // ---- the widest clear square

    private int widestClear() {
        for (int width = WIDE; width > 0; width--) {
            if (clearSquare(width) != NONE) {
                return width;
            }
        }
        return 0;
    }

    /** The lowest cell of the first clear square of that width. */
    private int clearSquare(int width) {
        if (width < 1) {
            return NONE;
        }
        for (int x = 0; x + width <= WIDE; x++) {
            for (int y = 0; y + width <= WIDE; y++) {
                if (moment.isClear(x, y, width)) {
                    return 10 * x + y;
                }
            }
        }
        return NONE;
    }

    // ---- the best trays

    private void seekBest(int k) {
        for (int tray = 0; tray < traySaves.length; tray++) {
            traySaves[tray] = moment.trayDeep(tray / TRAYS_WIDE, tray % TRAYS_WIDE);
        }
        bestSaves = -1;
        for (int first = 0; first < TRAYS; first++) {
            if (k == 1) {
                weigh(first, NONE, NONE);
            } else {
                seekBehind(k, first);
            }
        }
    }

    private void seekBehind(int k, int first) {
        for (int second = first + 1; second < TRAYS; second++) {
            if (!areApart(first, second)) {
                continue;
            }
            if (k == 2) {
                weigh(first, second, NONE);
                continue;
            }
            for (int third = second + 1; third < TRAYS; third++) {
                if (areApart(first, third) && areApart(second, third)) {
                    weigh(first, second, third);
                }
            }
        }
    }

    private static boolean areApart(int tray, int other) {
        return Math.abs(tray / TRAYS_WIDE - other / TRAYS_WIDE) > 1
            || Math.abs(tray % TRAYS_WIDE - other % TRAYS_WIDE) > 1;
    }

    /** Only more than before counts, since rows come in order and the first of several is due. */
    private void weigh(int first, int second, int third) {
        int saves = saveOf(first) + saveOf(second) + saveOf(third);
        if (saves > bestSaves) {
            bestSaves = saves;
            bestTrays[0] = first;
            bestTrays[1] = second;
            bestTrays[2] = third;
        }
    }

    private int saveOf(int tray) {
        return tray >= 0 && tray < traySaves.length ? traySaves[tray] : 0;
    }

    // ---- the way

    private void measureSteps(int from) {
        Arrays.fill(steps, NONE);
        if (from < 0 || from >= steps.length) {
            return;
        }
        steps[from] = 0;
        queue[0] = from;
        int waiting = 1;
        for (int i = 0; i < waiting && i < queue.length; i++) {
            int here = queue[i];
            for (int side = 0; side < SIDES; side++) {
                int next = placeBeside(here, side);
                if (isOpen(next) && waiting < queue.length) {
                    steps[next] = stepsAt(here) + 1;
                    queue[waiting] = next;
                    waiting++;
                }
            }
        }
    }

    private boolean isOpen(int place) {
        return place >= 0 && place < steps.length && steps[place] == NONE && moment.deepAt(place) == 0;
    }

    private int stepsAt(int place) {
        return place >= 0 && place < steps.length ? steps[place] : NONE;
    }

    // ---- the odds

    /** Of 10 to the n equal chances, those by which it rains on fewer days than take the print. */
    private static long chancesToStay(int gone, int x, int n) {
        long chances = 0;
        long ways = 1;
        for (int rained = 0; rained <= n && rained < gone; rained++) {
            chances += ways * powerOf(x, rained) * powerOf(TENTHS - x, n - rained);
            ways = ways * (n - rained) / (rained + 1);
        }
        return chances;
    }

    private static long powerOf(int base, int times) {
        long result = 1;
        for (int i = 0; i < times; i++) {
            result *= base;
        }
        return result;
    }

    private static long commonPart(long a, long b) {
        long larger = b;
        long smaller = a;
        // Euclid's steps on numbers up to 10 to the 8 are fewer than 40
        for (int i = 0; i < 100 && smaller != 0; i++) {
            long rest = larger % smaller;
            larger = smaller;
            smaller = rest;
        }
        return larger;
    }

    // ---- sets of people that can have stood there

    /** How many sets can have stood there and hold all of the given bits. */
    private int setsThatCan(int bits) {
        int sets = 0;
        for (int set = 0; set < roll.sets(); set++) {
            if ((set & bits) == bits && findings.fit(roll, set)) {
                sets++;
            }
        }
        return sets;
    }

    private int peopleInAll() {
        int bits = NONE;
        for (int set = 0; set < roll.sets(); set++) {
            if (findings.fit(roll, set)) {
                bits = bits == NONE ? set : bits & set;
            }
        }
        return bits;
    }

    private int peopleInSome() {
        int bits = 0;
        for (int set = 0; set < roll.sets(); set++) {
            if (findings.fit(roll, set)) {
                bits |= set;
            }
        }
        return bits;
    }

    /** What the text tells of the people, and of the rain; it stays until the text tells anew. */
    private static final class Roll {
        private final int[] weights = new int[MOST_PEOPLE];
        private final int[] voices = new int[MOST_PEOPLE];
        private int people;
        private int soaked = 1;

        void reset() {
            people = 0;
            soaked = 1;
        }

        void copyFrom(Roll other) {
            System.arraycopy(other.weights, 0, weights, 0, MOST_PEOPLE);
            System.arraycopy(other.voices, 0, voices, 0, MOST_PEOPLE);
            people = other.people;
            soaked = other.soaked;
        }

        void add(int weight, int voice) {
            if (people >= 0 && people < MOST_PEOPLE) {
                weights[people] = weight;
                voices[people] = voice;
                people++;
            }
        }

        boolean has(int p) {
            return p >= 0 && p < people;
        }

        int sets() {
            return 1 << people;
        }

        int weightOf(int p) {
            return p >= 0 && p < weights.length ? weights[p] : 0;
        }

        int voicesOf(int p) {
            return p >= 0 && p < voices.length ? voices[p] : 0;
        }

        int weightTogether(int set) {
            return together(weights, set);
        }

        int voicesTogether(int set) {
            return together(voices, set);
        }

        private int together(int[] shares, int set) {
            int sum = 0;
            for (int p = 0; p < people && p < shares.length; p++) {
                if ((set & (1 << p)) != 0) {
                    sum += shares[p];
                }
            }
            return sum;
        }
    }

    /** All that what is done changes: it is what an image keeps and what undoing brings again. */
    private static final class Moment {
        private final int[] where = new int[MOST_PEOPLE];
        private final int[] deep = new int[PLACES];
        private final int[] toes = new int[PLACES];
        private int saved;
        private int voted;
        private int passed;

        Moment() {
            reset();
        }

        void reset() {
            Arrays.fill(where, 0);
            Arrays.fill(deep, 0);
            Arrays.fill(toes, NONE);
            saved = 0;
            voted = 0;
            passed = 0;
        }

        void copyFrom(Moment other) {
            System.arraycopy(other.where, 0, where, 0, MOST_PEOPLE);
            System.arraycopy(other.deep, 0, deep, 0, PLACES);
            System.arraycopy(other.toes, 0, toes, 0, PLACES);
            saved = other.saved;
            voted = other.voted;
            passed = other.passed;
        }

        int placeOf(int p) {
            return p >= 0 && p < where.length ? where[p] : 0;
        }

        void put(int p, int place) {
            if (p >= 0 && p < where.length) {
                where[p] = place;
            }
        }

        int deepAt(int place) {
            return place >= 0 && place < deep.length ? deep[place] : 0;
        }

        int toesAt(int place) {
            return place >= 0 && place < toes.length ? toes[place] : NONE;
        }

        void setDeep(int place, int much) {
            if (place >= 0 && place < deep.length) {
                deep[place] = much;
            }
        }

        int deepTogether() {
            int sum = 0;
            for (int place = 0; place < deep.length; place++) {
                sum += deep[place];
            }
            return sum;
        }

        int print(int place, int weight, int side) {
            if (place < 0 || place >= PLACES) {
                return BAD;
            }
            deep[place] = Math.min(MOST_DEEP, deep[place] + weight);
            toes[place] = side;
            return deep[place];
        }

        int soak(int soaked) {
            int dried = 0;
            for (int place = 0; place < PLACES; place++) {
                if (deep[place] > soaked) {
                    deep[place] -= soaked;
                } else if (deep[place] > 0) {
                    dry(place);
                    dried++;
                }
            }
            return dried;
        }

        private void dry(int place) {
            if (place >= 0 && place < PLACES) {
                deep[place] = 0;
                toes[place] = NONE;
            }
        }

        int trayDeep(int x, int y) {
            return deepAt(placeAt(x, y)) + deepAt(placeAt(x + 1, y))
                + deepAt(placeAt(x, y + 1)) + deepAt(placeAt(x + 1, y + 1));
        }

        void lift(int x, int y) {
            saved = Math.min(MOST_SAVED, saved + trayDeep(x, y));
            dry(placeAt(x, y));
            dry(placeAt(x + 1, y));
            dry(placeAt(x, y + 1));
            dry(placeAt(x + 1, y + 1));
        }

        boolean isClear(int lowX, int lowY, int width) {
            for (int x = lowX; x < lowX + width; x++) {
                for (int y = lowY; y < lowY + width; y++) {
                    if (deepAt(placeAt(x, y)) != 0) {
                        return false;
                    }
                }
            }
            return true;
        }
    }

    /** The latest moments, in a ring: the oldest is written over. */
    private static final class Past {
        private final Moment[] ring = new Moment[MOST_UNDONE];
        private int next;
        private int known;

        Past() {
            for (int i = 0; i < ring.length; i++) {
                ring[i] = new Moment();
            }
        }

        void lose() {
            known = 0;
        }

        void remember(Moment moment) {
            Moment slot = next >= 0 && next < ring.length ? ring[next] : null;
            if (slot != null) {
                slot.copyFrom(moment);
                next = (next + 1) % MOST_UNDONE;
                known = Math.min(MOST_UNDONE, known + 1);
            }
        }

        void recall(Moment moment) {
            int latest = (next + MOST_UNDONE - 1) % MOST_UNDONE;
            Moment slot = latest >= 0 && latest < ring.length ? ring[latest] : null;
            if (slot != null && known > 0) {
                moment.copyFrom(slot);
                next = latest;
                known--;
            }
        }
    }

    /** How deep one cell was found, each time with some people elsewhere. */
    private static final class Findings {
        private final int[] elsewhere = new int[MOST_FOUND];
        private final int[] deep = new int[MOST_FOUND];
        private int size;

        boolean add(int people, int n) {
            if (size < 0 || size >= MOST_FOUND) {
                return false;
            }
            elsewhere[size] = people;
            deep[size] = n;
            size++;
            return true;
        }

        boolean fit(Roll roll, int set) {
            for (int i = 0; i < size && i < MOST_FOUND; i++) {
                if (Math.min(MOST_DEEP, roll.weightTogether(set & ~elsewhere[i])) != deep[i]) {
                    return false;
                }
            }
            return true;
        }
    }

    /** The text, and what it tells; what it tells is taken over only when all of it can be read. */
    private static final class Reader {
        private static final int NUMBER = 1;
        private static final int WRONG = 2;
        private static final int END = 3;
        private static final int MOST_NUMBERS = 4;
        private static final int[] PERSON_LEAST = {0, 0, 1, 0};
        private static final int[] PERSON_MOST = {5, 5, 4, 9};
        private static final int[] SOAKED_LEAST = {1};
        private static final int[] SOAKED_MOST = {9};
        private static final int[] DEEP_LEAST = {0, 0, 0};
        private static final int[] DEEP_MOST = {5, 5, 9};

        private final char[] letters = new char[MOST_LETTERS];
        private int length;
        private final Roll roll = new Roll();
        private final Moment first = new Moment();
        private boolean soakedTold;
        private int at;
        private int tokenStart;
        private int token;
        private int number;
        private final int[] numbers = new int[MOST_NUMBERS];

        boolean add(char letter) {
            if (length < 0 || length >= letters.length) {
                return false;
            }
            letters[length] = letter;
            length++;
            return true;
        }

        /** How many items there are, or -10 less the place of the fault. */
        int readAll() {
            roll.reset();
            first.reset();
            soakedTold = false;
            at = 0;
            for (int items = 0; items <= MOST_LETTERS; items++) {
                nextToken();
                if (token == END) {
                    return items;
                }
                if (!readItem()) {
                    break;
                }
            }
            return -10 - tokenStart;
        }

        private boolean readItem() {
            switch (token) {
                case 'p':
                    return roll.people < MOST_PEOPLE && readNumbers(PERSON_LEAST, PERSON_MOST) && tellPerson();
                case 's':
                    return !soakedTold && readNumbers(SOAKED_LEAST, SOAKED_MOST) && tellSoaked();
                case 'f':
                    return readNumbers(DEEP_LEAST, DEEP_MOST) && tellDeep();
                default:
                    return false;
            }
        }

        /** The numbers of one item and the sign that ends it. */
        private boolean readNumbers(int[] least, int[] most) {
            for (int i = 0; i < least.length && i < most.length && i < numbers.length; i++) {
                nextToken();
                if (token != NUMBER || number < least[i] || number > most[i]) {
                    return false;
                }
                numbers[i] = number;
            }
            nextToken();
            return token == ';';
        }

        private boolean tellPerson() {
            first.put(roll.people, placeAt(numbers[0], numbers[1]));
            roll.add(numbers[2], numbers[3]);
            return true;
        }

        private boolean tellSoaked() {
            soakedTold = true;
            roll.soaked = numbers[0];
            return true;
        }

        private boolean tellDeep() {
            first.setDeep(placeAt(numbers[0], numbers[1]), numbers[2]);
            return true;
        }

        private char letterAt(int i) {
            return i >= 0 && i < length && i < letters.length ? letters[i] : ' ';
        }

        private static boolean isDigit(char letter) {
            return letter >= '0' && letter <= '9';
        }

        private void nextToken() {
            while (at < length && letterAt(at) == ' ') {
                at++;
            }
            tokenStart = at;
            if (at >= length) {
                token = END;
            } else if (isDigit(letterAt(at))) {
                nextNumber();
            } else {
                char letter = letterAt(at);
                at++;
                token = letter == 'p' || letter == 's' || letter == 'f' || letter == ';' ? letter : WRONG;
            }
        }

        private void nextNumber() {
            number = 0;
            while (at < length && isDigit(letterAt(at))) {
                number = Math.min(100, 10 * number + (letterAt(at) - '0'));
                at++;
            }
            boolean zeroAhead = letterAt(tokenStart) == '0' && at - tokenStart > 1;
            token = zeroAhead || number > 99 ? WRONG : NUMBER;
        }
    }

    /** The kind above all others; each kind adds its mark to the trace as often as it is asked. */
    private static class One {
        int rated(MudMoot moot, int p) {
            moot.traced += 1;
            return moot.roll.weightOf(p);
        }
    }

    private static class Clerk extends One {
        int rated(MudMoot moot, int p) {
            moot.traced += 10;
            return super.rated(moot, p) + moot.roll.voicesOf(p);
        }
    }

    private static class Liar extends One {
        int rated(MudMoot moot, int p) {
            moot.traced += 100;
            return super.rated(moot, p) - moot.moment.deepAt(moot.moment.placeOf(p));
        }
    }

    private static final class Thin extends Clerk {
        int rated(MudMoot moot, int p) {
            moot.traced += 1000;
            return 2 * super.rated(moot, p);
        }
    }

    private static final class Widow extends Liar {
        int rated(MudMoot moot, int p) {
            moot.traced += 10000;
            return super.rated(moot, p) + p;
        }
    }

    private static final class Waverer extends One {
        int rated(MudMoot moot, int p) {
            moot.traced += 100000;
            return super.rated(moot, p) + moot.moment.voted;
        }
    }
}
