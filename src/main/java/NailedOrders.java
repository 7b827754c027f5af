/**
 * A door on which orders are nailed over orders. What each call does and answers is said by the document's promises;
 * the comments here only say why the code is as it is.
 */
public final class NailedOrders {
    public static final int UNKNOWN = -1;
    public static final int BAD_VALUE = -2;
    public static final int FULL = -3;
    public static final int NOT_POSSIBLE = -4;
    public static final int NONE = -5;

    private static final int PERSONS = 6;
    private static final int GREATEST_RANK = 5;
    private static final int WORDS = 16;
    private static final int ORDERS = 40;
    private static final int MOST_HANGING = 24;
    private static final int STATES = 4;
    private static final int SIGNS = 60;
    private static final int FAULT = -100;
    private static final int MOST_STORMS = 200;
    private static final int MOST_STEPS = 16;

    private static final int HANGS = 1;
    private static final int FELL = 2;
    private static final int TORN = 3;

    private final Door door;
    private final Door kept;
    private boolean hasKept;
    private final History history;
    private final Text text;
    private final Reader reader;
    private final Weather weather;
    private final Reckoning now;
    private final Reckoning without;

    public NailedOrders() {
        door = new Door();
        kept = new Door();
        hasKept = false;
        history = new History();
        text = new Text();
        reader = new Reader(text);
        weather = new Weather();
        now = new Reckoning(door);
        without = new Reckoning(door);
    }

    // ---- persons

    public int addPerson(int rank) {
        if (!isRank(rank)) {
            return BAD_VALUE;
        }
        if (door.persons >= PERSONS) {
            return FULL;
        }
        history.record(door);
        return door.admit(rank);
    }

    public int setRank(int person, int rank) {
        if (!door.isPerson(person)) {
            return UNKNOWN;
        }
        if (!isRank(rank)) {
            return BAD_VALUE;
        }
        int previous = door.ranks[person];
        if (previous == rank) {
            return NONE;
        }
        history.record(door);
        door.ranks[person] = rank;
        return previous;
    }

    public int setTolerance(int bits) {
        if (!Bits.areTolerance(bits)) {
            return BAD_VALUE;
        }
        if (bits == door.toleranceBits) {
            return NONE;
        }
        history.record(door);
        door.toleranceBits = bits;
        door.tolerance = Bits.toFloat(bits);
        return 1;
    }

    // ---- orders

    public int nail(int person, int word, int bits, int strength) {
        if (!door.isPerson(person) || !isWord(word)) {
            return UNKNOWN;
        }
        if (!Bits.areNumber(bits) || !Bits.areStrength(strength)) {
            return BAD_VALUE;
        }
        if (!door.hasRoomAfter(0)) {
            return FULL;
        }
        history.record(door);
        return door.hang(person, word, NONE, 1.0f, Bits.toFloat(bits), Bits.toFloat(strength));
    }

    public int nailLink(int person, int word, int other, int factor, int number, int strength) {
        if (!door.isPerson(person) || !isWord(word) || !isWord(other)) {
            return UNKNOWN;
        }
        if (!Bits.areNumber(factor) || !Bits.areNumber(number) || !Bits.areStrength(strength) || word == other) {
            return BAD_VALUE;
        }
        if (!door.hasRoomAfter(0)) {
            return FULL;
        }
        history.record(door);
        return door.hang(person, word, other, Bits.toFloat(factor), Bits.toFloat(number), Bits.toFloat(strength));
    }

    public int tear(int order) {
        if (!door.isOrder(order)) {
            return UNKNOWN;
        }
        if (!door.hangs(order)) {
            return NONE;
        }
        history.record(door);
        door.fates[order] = TORN;
        return door.hangingFor(door.words[order]);
    }

    public int hammer(int order) {
        if (!door.isOrder(order)) {
            return UNKNOWN;
        }
        if (!door.hangs(order)) {
            return NOT_POSSIBLE;
        }
        history.record(door);
        float strength = door.strengths[order];
        door.strengths[order] = strength + (10.0f - strength) * 0.5f;
        return door.hundredthsOfStrength(order);
    }

    public int storm(int bits) {
        if (!Bits.areForce(bits)) {
            return BAD_VALUE;
        }
        history.record(door);
        return weather.blow(door, Bits.toFloat(bits));
    }

    // ---- texts

    public int type(char character) {
        if (text.length >= SIGNS) {
            return FULL;
        }
        text.add(character);
        return text.length;
    }

    public int clearText() {
        int length = text.length;
        text.length = 0;
        return length;
    }

    public int readOrders(int person, int strength) {
        if (!door.isPerson(person)) {
            return UNKNOWN;
        }
        if (!Bits.areStrength(strength)) {
            return BAD_VALUE;
        }
        if (!reader.readsAll()) {
            return FAULT - reader.at;
        }
        int error = firstErrorOfRead();
        if (error != NONE) {
            return error;
        }
        history.record(door);
        hangRead(person, Bits.toFloat(strength));
        return reader.found;
    }

    // ---- history

    public int undo() {
        if (history.states == 0) {
            return NONE;
        }
        history.takeLatestInto(door);
        return history.states;
    }

    public int keep() {
        kept.become(door);
        hasKept = true;
        return door.hanging();
    }

    public int restore() {
        if (!hasKept) {
            return NONE;
        }
        history.record(door);
        door.become(kept);
        return door.hanging();
    }

    // ---- what is told

    public float value(int word) {
        if (!isWord(word)) {
            return noFloat();
        }
        now.settle(NONE);
        return now.known[word] ? now.values[word] : noFloat();
    }

    public float valueOf(int order) {
        if (!door.isOrder(order)) {
            return noFloat();
        }
        now.settle(NONE);
        return now.orderHasValue(order) ? now.orderValue(order) : noFloat();
    }

    public int word(int word, int what) {
        if (!isWord(word)) {
            return UNKNOWN;
        }
        now.settle(NONE);
        switch (what) {
            case 0: return now.rulers[word];
            case 1: return door.hangingAt(word, 0);
            case 2: return door.hangingFor(word);
            case 3: return oneIf(now.known[word]);
            case 4: return now.topmostRival(word);
            case 5: return now.dependents(word);
            case 6: return now.linksToEnd(word);
            default: return BAD_VALUE;
        }
    }

    public int hangsAt(int word, int place) {
        if (!isWord(word)) {
            return UNKNOWN;
        }
        if (place < 0) {
            return BAD_VALUE;
        }
        return door.hangingAt(word, place);
    }

    public int order(int order, int what) {
        if (!door.isOrder(order)) {
            return UNKNOWN;
        }
        switch (what) {
            case 0: return door.owners[order];
            case 1: return door.words[order];
            case 2: return door.links[order];
            case 3: return oneIf(door.hangs(order));
            case 4: return door.hangs(order) ? door.over(order) : NONE;
            case 5: return door.hangs(order) ? door.beneath(order) : NONE;
            case 6: return door.hundredthsOfStrength(order);
            case 7: return oneIf(rules(order));
            default: return BAD_VALUE;
        }
    }

    public float real(int order, int what) {
        if (!door.isOrder(order)) {
            return noFloat();
        }
        switch (what) {
            case 0: return door.numbers[order];
            case 1: return door.factors[order];
            case 2: return door.strengths[order];
            default: return noFloat();
        }
    }

    public int reason(int word, int step) {
        if (!isWord(word)) {
            return UNKNOWN;
        }
        if (step < 0 || step > MOST_STEPS) {
            return BAD_VALUE;
        }
        now.settle(NONE);
        return now.rulerAfter(word, step);
    }

    public int changesWithout(int order) {
        if (!door.isOrder(order)) {
            return UNKNOWN;
        }
        if (!door.hangs(order)) {
            return NONE;
        }
        now.settle(NONE);
        without.settle(order);
        return now.wordsThatDiffer(without);
    }

    public int stormsLeft(int order, int bits) {
        if (!door.isOrder(order)) {
            return UNKNOWN;
        }
        if (!Bits.areForce(bits)) {
            return BAD_VALUE;
        }
        if (!door.hangs(order)) {
            return NONE;
        }
        return weather.stormsUntilFall(door, order, Bits.toFloat(bits));
    }

    public int person(int person, int what) {
        if (!door.isPerson(person)) {
            return UNKNOWN;
        }
        switch (what) {
            case 0: return door.ranks[person];
            case 1: return door.nailedBy(person);
            case 2: return door.hangingBy(person);
            case 3: return wordsRuledBy(person);
            case 4: return door.wordsOf(person);
            default: return BAD_VALUE;
        }
    }

    public int count(int what) {
        now.settle(NONE);
        switch (what) {
            case 0: return door.persons;
            case 1: return door.orders;
            case 2: return door.hanging();
            case 3: return door.withFate(FELL);
            case 4: return door.withFate(TORN);
            case 5: return now.wordsWithValue();
            case 6: return now.wordsRuledWithoutValue();
            case 7: return now.wordsInConflict();
            case 8: return now.wordsInRings();
            case 9: return door.storms;
            case 10: return door.toleranceBits;
            case 11: return history.states;
            case 12: return text.length;
            default: return BAD_VALUE;
        }
    }

    // ---- helpers of the face

    private static boolean isRank(int rank) {
        return rank >= 1 && rank <= GREATEST_RANK;
    }

    private static boolean isWord(int word) {
        return word >= 0 && word < WORDS;
    }

    private static int oneIf(boolean so) {
        return so ? 1 : 0;
    }

    /** The document asks for this very NaN; no float in the class is ever reckoned from it. */
    private static float noFloat() {
        return 0.0f / 0.0f;
    }

    private boolean rules(int order) {
        now.settle(NONE);
        return now.rulers[door.words[order]] == order;
    }

    private int wordsRuledBy(int person) {
        now.settle(NONE);
        int ruled = 0;
        for (int word = 0; word < WORDS; word++) {
            int ruler = now.rulers[word];
            if (ruler >= 0 && door.owners[ruler] == person) {
                ruled++;
            }
        }
        return ruled;
    }

    /** All orders are judged before the first is nailed, so that none has to be taken off again. */
    private int firstErrorOfRead() {
        for (int i = 0; i < reader.found; i++) {
            int error = errorOfRead(i);
            if (error != NONE) {
                return error;
            }
        }
        return NONE;
    }

    /** The numbers need no test: what the text can say lies from -999.9 to 999.9. */
    private int errorOfRead(int place) {
        int word = reader.words[place];
        int other = reader.others[place];
        boolean isLink = other != NONE;
        if (!isWord(word) || isLink && !isWord(other)) {
            return UNKNOWN;
        }
        if (isLink && word == other) {
            return BAD_VALUE;
        }
        return door.hasRoomAfter(place) ? NONE : FULL;
    }

    private void hangRead(int person, float strength) {
        for (int i = 0; i < reader.found; i++) {
            door.hang(person, reader.words[i], reader.others[i], reader.factors[i], reader.numbers[i], strength);
        }
    }

    /** Floats by their bits; made with plain arithmetic, as the language has no call that turns one into the other. */
    private static final class Bits {
        /** With this exponent a float is just its digits, taken as a whole number. */
        private static final int EXPONENT_OF_DIGITS = 150;

        static boolean areNumber(int bits) {
            return areFrom(bits, -1000.0f, 1000.0f);
        }

        static boolean areStrength(int bits) {
            return areFrom(bits, 0.1f, 10.0f);
        }

        static boolean areForce(int bits) {
            return areFrom(bits, 0.1f, 10.0f);
        }

        /** Bits below 0 are those of a float with a sign: -0.0f is not wanted though it equals 0.0f. */
        static boolean areTolerance(int bits) {
            return bits >= 0 && areFrom(bits, 0.0f, 100.0f);
        }

        /** The exponents left out are those of no numbers, or of numbers far beyond every range of the document. */
        private static boolean areFrom(int bits, float least, float most) {
            if (exponent(bits) > EXPONENT_OF_DIGITS) {
                return false;
            }
            float number = toFloat(bits);
            return number >= least && number <= most;
        }

        private static int exponent(int bits) {
            return (bits >>> 23) & 255;
        }

        /**
         * The float of bits that are from some range. Each halving only moves the point of at most 24 digits, so nothing is
         * rounded on the way.
         */
        static float toFloat(int bits) {
            int exponent = exponent(bits);
            int digits = bits & 0x7fffff;
            if (exponent > 0) {
                digits += 0x800000;
            } else {
                exponent = 1;
            }
            float number = (float) digits;
            for (int i = exponent; i < EXPONENT_OF_DIGITS; i++) {
                number = number * 0.5f;
            }
            return bits < 0 ? -number : number;
        }
    }

    /** A state: all that undo() and restore() bring back. */
    private static final class Door {
        int persons;
        final int[] ranks = new int[PERSONS];
        int toleranceBits;
        float tolerance;
        int storms;

        /** How many orders there have been; a later one has a greater number, so numbers also tell what is over what. */
        int orders;
        final int[] owners = new int[ORDERS];
        final int[] words = new int[ORDERS];
        final int[] links = new int[ORDERS];
        final float[] factors = new float[ORDERS];
        final float[] numbers = new float[ORDERS];
        final float[] strengths = new float[ORDERS];
        final int[] fates = new int[ORDERS];

        void become(Door other) {
            persons = other.persons;
            toleranceBits = other.toleranceBits;
            tolerance = other.tolerance;
            storms = other.storms;
            orders = other.orders;
            System.arraycopy(other.ranks, 0, ranks, 0, PERSONS);
            System.arraycopy(other.owners, 0, owners, 0, ORDERS);
            System.arraycopy(other.words, 0, words, 0, ORDERS);
            System.arraycopy(other.links, 0, links, 0, ORDERS);
            System.arraycopy(other.factors, 0, factors, 0, ORDERS);
            System.arraycopy(other.numbers, 0, numbers, 0, ORDERS);
            System.arraycopy(other.strengths, 0, strengths, 0, ORDERS);
            System.arraycopy(other.fates, 0, fates, 0, ORDERS);
        }

        boolean isPerson(int person) {
            return person >= 0 && person < persons;
        }

        boolean isOrder(int order) {
            return order >= 0 && order < orders;
        }

        int admit(int rank) {
            int person = persons;
            ranks[person] = rank;
            persons++;
            return person;
        }

        /** Whether one more order could be nailed when so many more had been nailed already. */
        boolean hasRoomAfter(int more) {
            return hanging() + more < MOST_HANGING && orders + more < ORDERS;
        }

        int hang(int person, int word, int link, float factor, float number, float strength) {
            int order = orders;
            owners[order] = person;
            words[order] = word;
            links[order] = link;
            factors[order] = factor;
            numbers[order] = number;
            strengths[order] = strength;
            fates[order] = HANGS;
            orders++;
            return order;
        }

        boolean hangs(int order) {
            return fates[order] == HANGS;
        }

        boolean hangsFor(int order, int word) {
            return hangs(order) && words[order] == word;
        }

        int rankOf(int order) {
            return ranks[owners[order]];
        }

        /** Drops what is behind the point, also of the strength below 0.0f that a storm may leave. */
        int hundredthsOfStrength(int order) {
            return (int) (strengths[order] * 100.0f);
        }

        int over(int order) {
            return hangingBetween(order + 1, orders, words[order]);
        }

        int beneath(int order) {
            return hangingBetween(0, order, words[order]);
        }

        int hangingFor(int word) {
            return hangingBetween(0, orders, word);
        }

        private int hangingBetween(int first, int end, int word) {
            int found = 0;
            for (int order = first; order < end; order++) {
                if (hangsFor(order, word)) {
                    found++;
                }
            }
            return found;
        }

        int hangingAt(int word, int place) {
            int left = place;
            for (int order = orders - 1; order >= 0; order--) {
                if (hangsFor(order, word)) {
                    if (left == 0) {
                        return order;
                    }
                    left--;
                }
            }
            return NONE;
        }

        int hanging() {
            return withFate(HANGS);
        }

        int withFate(int fate) {
            int found = 0;
            for (int order = 0; order < orders; order++) {
                if (fates[order] == fate) {
                    found++;
                }
            }
            return found;
        }

        int nailedBy(int person) {
            int found = 0;
            for (int order = 0; order < orders; order++) {
                if (owners[order] == person) {
                    found++;
                }
            }
            return found;
        }

        int hangingBy(int person) {
            int found = 0;
            for (int order = 0; order < orders; order++) {
                if (hangs(order) && owners[order] == person) {
                    found++;
                }
            }
            return found;
        }

        int wordsOf(int person) {
            int bits = 0;
            for (int order = 0; order < orders; order++) {
                if (hangs(order) && owners[order] == person) {
                    bits |= 1 << words[order];
                }
            }
            return bits;
        }
    }

    /** The latest states, the oldest first; the rows are made once, and their states written over. */
    private static final class History {
        private final Door[] doors = new Door[STATES];
        int states;

        History() {
            for (int i = 0; i < STATES; i++) {
                doors[i] = new Door();
            }
        }

        void record(Door door) {
            if (states == STATES) {
                dropOldest();
            }
            doors[states].become(door);
            states++;
        }

        private void dropOldest() {
            Door oldest = doors[0];
            for (int i = 1; i < STATES; i++) {
                doors[i - 1] = doors[i];
            }
            doors[STATES - 1] = oldest;
            states--;
        }

        void takeLatestInto(Door door) {
            if (states > 0) {
                states--;
                door.become(doors[states]);
            }
        }
    }

    private static final class Text {
        private final char[] signs = new char[SIGNS];
        int length;

        void add(char sign) {
            signs[length] = sign;
            length++;
        }

        /** The sign at a place, or -1, which is no sign, where the text has ended. */
        int signAt(int place) {
            return place >= 0 && place < length ? signs[place] : -1;
        }
    }

    /** Reads the orders of a text; where a reading fails, it stays at the fault. */
    private static final class Reader {
        /** Eight orders fill 55 signs at least, so a ninth may begin but never ends. */
        private static final int MOST_READ = 9;

        private final Text text;
        int at;
        int found;
        final int[] words = new int[MOST_READ];
        final int[] others = new int[MOST_READ];
        final float[] factors = new float[MOST_READ];
        final float[] numbers = new float[MOST_READ];

        /** Ten times the number that was read last. */
        private int tenths;

        Reader(Text text) {
            this.text = text;
        }

        boolean readsAll() {
            at = 0;
            found = 0;
            while (found < MOST_READ && readsOrder(found)) {
                found++;
                if (at == text.length) {
                    return true;
                }
                if (!takes(';')) {
                    return false;
                }
            }
            return false;
        }

        private boolean readsOrder(int place) {
            if (!takes('w')) {
                return false;
            }
            int word = readWord();
            if (word == NONE || !takes('=')) {
                return false;
            }
            words[place] = word;
            return takes('w') ? readsLink(place) : readsFixed(place);
        }

        private boolean readsFixed(int place) {
            if (!readsNumber()) {
                return false;
            }
            others[place] = NONE;
            factors[place] = 1.0f;
            numbers[place] = numberRead();
            return true;
        }

        private boolean readsLink(int place) {
            int other = readWord();
            if (other == NONE || !takes('*') || !readsNumber()) {
                return false;
            }
            others[place] = other;
            factors[place] = numberRead();
            numbers[place] = 0.0f;
            if (!takes('+')) {
                return true;
            }
            if (!readsNumber()) {
                return false;
            }
            numbers[place] = numberRead();
            return true;
        }

        /** The word may be one that is not on the door, as 16: that is no fault of the text. */
        private int readWord() {
            if (!isAtDigit()) {
                return NONE;
            }
            int word = takeDigit();
            if (word > 0 && isAtDigit()) {
                word = word * 10 + takeDigit();
            }
            return word;
        }

        private boolean readsNumber() {
            boolean isNegative = takes('-');
            if (!isAtDigit()) {
                return false;
            }
            int digits = takeDigit();
            boolean mayGoOn = digits > 0;
            for (int more = 0; more < 2 && mayGoOn && isAtDigit(); more++) {
                digits = digits * 10 + takeDigit();
            }
            if (!takes('.') || !isAtDigit()) {
                return false;
            }
            digits = digits * 10 + takeDigit();
            tenths = isNegative ? -digits : digits;
            return true;
        }

        private float numberRead() {
            return (float) tenths / 10.0f;
        }

        private boolean takes(char sign) {
            if (text.signAt(at) != sign) {
                return false;
            }
            at++;
            return true;
        }

        private boolean isAtDigit() {
            int sign = text.signAt(at);
            return sign >= '0' && sign <= '9';
        }

        private int takeDigit() {
            int digit = text.signAt(at) - '0';
            at++;
            return digit;
        }
    }

    /** Storms, those that come and those that are only thought of. */
    private static final class Weather {
        private final Door trial = new Door();
        private final int[] over = new int[WORDS];

        /** From the latest order to the first, so that what is over each one is counted, as all hang before the storm. */
        int blow(Door door, float force) {
            int fallen = 0;
            for (int word = 0; word < WORDS; word++) {
                over[word] = 0;
            }
            for (int order = door.orders - 1; order >= 0; order--) {
                if (door.hangs(order)) {
                    int word = door.words[order];
                    door.strengths[order] = door.strengths[order] - force / (float) (1 + over[word]);
                    over[word]++;
                    if (!(door.strengths[order] > 0.0f)) {
                        door.fates[order] = FELL;
                        fallen++;
                    }
                }
            }
            door.storms++;
            return fallen;
        }

        int stormsUntilFall(Door door, int order, float force) {
            trial.become(door);
            for (int storms = 1; storms <= MOST_STORMS; storms++) {
                blow(trial, force);
                if (!trial.hangs(order)) {
                    return storms;
                }
            }
            return NONE;
        }
    }

    /** Which order rules each word of a door, and the values that come of it. */
    private static final class Reckoning {
        private final Door door;
        final int[] rulers = new int[WORDS];
        final boolean[] known = new boolean[WORDS];
        final float[] values = new float[WORDS];

        Reckoning(Door door) {
            this.door = door;
        }

        /** Reckons as if one order did not hang; NONE leaves none out. */
        void settle(int leftOut) {
            for (int word = 0; word < WORDS; word++) {
                rulers[word] = NONE;
                known[word] = false;
                values[word] = 0.0f;
            }
            findRulers(leftOut);
            findValues();
        }

        /** From the first order to the latest: of equals the later one, which is over the other, takes its place. */
        private void findRulers(int leftOut) {
            for (int order = 0; order < door.orders; order++) {
                if (door.hangs(order) && order != leftOut) {
                    int word = door.words[order];
                    int ruler = rulers[word];
                    if (ruler < 0 || door.rankOf(order) >= door.rankOf(ruler)) {
                        rulers[word] = order;
                    }
                }
            }
        }

        /** Each round knows at least the words that are one link further from an end; those of rings are never known. */
        private void findValues() {
            boolean goesOn = true;
            for (int round = 0; round < WORDS && goesOn; round++) {
                goesOn = false;
                for (int word = 0; word < WORDS; word++) {
                    int ruler = rulers[word];
                    if (!known[word] && ruler >= 0 && orderHasValue(ruler)) {
                        known[word] = true;
                        values[word] = orderValue(ruler);
                        goesOn = true;
                    }
                }
            }
        }

        boolean orderHasValue(int order) {
            int link = door.links[order];
            if (link >= 0 && !known[link]) {
                return false;
            }
            float reckoned = orderValue(order);
            return reckoned >= -1000000000.0f && reckoned <= 1000000000.0f;
        }

        float orderValue(int order) {
            int link = door.links[order];
            if (link < 0) {
                return door.numbers[order];
            }
            return values[link] * door.factors[order] + door.numbers[order];
        }

        private int linkFrom(int word) {
            int ruler = rulers[word];
            return ruler < 0 ? NONE : door.links[ruler];
        }

        int rulerAfter(int word, int steps) {
            int reached = word;
            for (int step = 0; step < steps && reached >= 0; step++) {
                reached = linkFrom(reached);
            }
            return reached < 0 ? NONE : rulers[reached];
        }

        /** Where there is no ring, no word is met twice, so more links than words tell a ring. */
        int linksToEnd(int word) {
            int reached = word;
            for (int links = 0; links < WORDS; links++) {
                reached = linkFrom(reached);
                if (reached < 0) {
                    return links;
                }
            }
            return NONE;
        }

        private boolean comesTo(int word, int goal) {
            int reached = linkFrom(word);
            for (int links = 0; links < WORDS && reached >= 0; links++) {
                if (reached == goal) {
                    return true;
                }
                reached = linkFrom(reached);
            }
            return false;
        }

        int dependents(int goal) {
            int bits = 0;
            for (int word = 0; word < WORDS; word++) {
                if (comesTo(word, goal)) {
                    bits |= 1 << word;
                }
            }
            return bits;
        }

        int topmostRival(int word) {
            int ruler = rulers[word];
            if (ruler < 0) {
                return NONE;
            }
            for (int order = door.orders - 1; order >= 0; order--) {
                if (door.hangsFor(order, word) && areRivals(order, ruler)) {
                    return order;
                }
            }
            return NONE;
        }

        private boolean areRivals(int order, int ruler) {
            if (door.owners[order] == door.owners[ruler] || door.rankOf(order) != door.rankOf(ruler)) {
                return false;
            }
            boolean hasValue = orderHasValue(order);
            if (hasValue != orderHasValue(ruler)) {
                return true;
            }
            return hasValue && areFar(orderValue(order), orderValue(ruler));
        }

        private boolean areFar(float one, float other) {
            float difference = one - other;
            return (difference < 0.0f ? -difference : difference) > door.tolerance;
        }

        int wordsThatDiffer(Reckoning other) {
            int found = 0;
            for (int word = 0; word < WORDS; word++) {
                boolean justOne = known[word] != other.known[word];
                if (justOne || known[word] && areFar(values[word], other.values[word])) {
                    found++;
                }
            }
            return found;
        }

        int wordsWithValue() {
            int found = 0;
            for (int word = 0; word < WORDS; word++) {
                if (known[word]) {
                    found++;
                }
            }
            return found;
        }

        int wordsRuledWithoutValue() {
            int found = 0;
            for (int word = 0; word < WORDS; word++) {
                if (rulers[word] >= 0 && !known[word]) {
                    found++;
                }
            }
            return found;
        }

        int wordsInConflict() {
            int found = 0;
            for (int word = 0; word < WORDS; word++) {
                if (topmostRival(word) >= 0) {
                    found++;
                }
            }
            return found;
        }

        int wordsInRings() {
            int found = 0;
            for (int word = 0; word < WORDS; word++) {
                if (comesTo(word, word)) {
                    found++;
                }
            }
            return found;
        }
    }
}
