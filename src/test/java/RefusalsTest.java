/**
 * The document's "Errors" and "History": each refused call of each method answers the first error of its order and changes
 * nothing; each act records one state; nothing else records any.
 */
public final class RefusalsTest {
    private static final Check check = new Check();

    private static final int ONE = Check.bits(1.0f);
    private static final int OVER_1000 = Check.bits(Math.nextUp(1000.0f));
    private static final int OVER_10 = Check.bits(Math.nextUp(10.0f));
    private static final int UNDER_A_TENTH = Check.bits(Math.nextDown(0.1f));
    private static final int NO_NUMBER = Check.bits(Float.NaN);
    private static final int MIN = Integer.MIN_VALUE;
    private static final int MAX = Integer.MAX_VALUE;

    private static final int UNKNOWN = NailedOrders.UNKNOWN;
    private static final int BAD_VALUE = NailedOrders.BAD_VALUE;
    private static final int FULL = NailedOrders.FULL;
    private static final int NOT_POSSIBLE = NailedOrders.NOT_POSSIBLE;
    private static final int NONE = NailedOrders.NONE;

    /** On a furnished door this order fell in a storm. */
    private static final int FALLEN = 5;
    /** And this one was torn off. */
    private static final int TORN = 6;
    /** And so many orders there have been. */
    private static final int ORDERS = 7;
    /** And so many persons. */
    private static final int PERSONS = 3;

    private interface Recipe {
        NailedOrders make();
    }

    private interface Call {
        int on(NailedOrders door);
    }

    private interface FloatCall {
        float on(NailedOrders door);
    }

    public static void main(String[] args) {
        emptyHistoryAndSnapshot();
        persons();
        tolerance();
        nail();
        nailLink();
        room();
        tearAndHammer();
        storm();
        texts();
        readOrders();
        toldOfWords();
        toldOfOrders();
        toldOfPersonsAndCounts();
        floats();
        whatIsToldChangesNothing();
        whatIsNoAct();
        acts();
        check.end();
    }

    // ---- doors

    /** Three persons, a conflict, a ring, an order that fell, one that was torn off, a snapshot, a text, a full history. */
    private static NailedOrders furnished() {
        NailedOrders door = Check.door(2, 2, 3);
        Check.nail(door, 0, 0, 1.0f);
        Check.nail(door, 1, 0, 2.0f);
        Check.link(door, 0, 1, 0, 2.0f, 0.5f);
        Check.link(door, 0, 2, 3, 1.0f, 0.0f);
        Check.link(door, 0, 3, 2, 1.0f, 0.0f);
        door.nail(2, 4, Check.bits(7.0f), Check.bits(0.1f));
        Check.nail(door, 2, 5, 8.0f);
        door.setTolerance(Check.bits(0.25f));
        door.keep();
        door.storm(Check.bits(0.1f));
        door.tear(TORN);
        door.hammer(0);
        Check.type(door, "w7=2.0;w8=w1*1.5");
        return door;
    }

    /** As an act has it that is not the fifth: the history has room. */
    private static NailedOrders barelyFurnished() {
        NailedOrders door = Check.door(2);
        Check.nail(door, 0, 0, 1.0f);
        Check.type(door, "w7=2.0;w8=w0*1.5");
        return door;
    }

    private static NailedOrders withText(String text) {
        NailedOrders door = furnished();
        door.clearText();
        Check.type(door, text);
        return door;
    }

    private static NailedOrders withSixPersons() {
        return Check.door(1, 2, 3, 4, 5, 1);
    }

    private static NailedOrders where24Hang() {
        NailedOrders door = Check.door(1);
        for (int order = 0; order < 24; order++) {
            Check.nail(door, 0, order % 16, order);
        }
        Check.type(door, "w1=2.0");
        return door;
    }

    private static NailedOrders where40HaveBeen() {
        NailedOrders door = Check.door(1);
        for (int order = 0; order < 40; order++) {
            Check.nail(door, 0, order % 16, order);
            if (order % 2 == 0) {
                door.tear(order);
            }
        }
        Check.type(door, "w1=2.0");
        return door;
    }

    private static NailedOrders withFullText() {
        NailedOrders door = new NailedOrders();
        Check.type(door, "w1=1.0;".repeat(8) + "w1=2");
        return door;
    }

    // ---- what a refused call is asked

    private static void unchanged(String call, NailedOrders called, NailedOrders twin) {
        String got = Portrait.ofState(called);
        String want = Portrait.ofState(twin);
        check.dueTrue(call + " changes nothing; it is\n" + got + "\nand was\n" + want, got.equals(want));
    }

    private static void unchangedHistory(String call, NailedOrders called, NailedOrders twin) {
        String got = Portrait.ofHistory(called);
        String want = Portrait.ofHistory(twin);
        check.dueTrue(call + " leaves the history; it is" + got + "\nand was" + want, got.equals(want));
    }

    private static void refused(String call, Recipe recipe, Call made, int due) {
        NailedOrders door = recipe.make();
        check.due(call, made.on(door), due);
        unchanged(call, door, recipe.make());
        NailedOrders again = recipe.make();
        made.on(again);
        unchangedHistory(call, again, recipe.make());
    }

    private static void refused(String call, Call made, int due) {
        refused(call, RefusalsTest::furnished, made, due);
    }

    private static void notTold(String call, FloatCall made) {
        refused(call, door -> Float.isNaN(made.on(door)) ? 1 : 0, 1);
    }

    // ---- refused calls, in the order of the document

    private static void emptyHistoryAndSnapshot() {
        check.promise("13 and 15, undo and restore: NONE");
        refused("undo() of a new door", NailedOrders::new, NailedOrders::undo, NONE);
        refused("restore() of a new door", NailedOrders::new, NailedOrders::restore, NONE);
        refused("restore() without a snapshot", RefusalsTest::barelyFurnished, NailedOrders::restore, NONE);
    }

    private static void persons() {
        check.promise("2, addPerson: BAD_VALUE; FULL if there are 6");
        for (int rank : new int[] {0, 6, -1, MIN, MAX}) {
            refused("addPerson(" + rank + ")", door -> door.addPerson(rank), BAD_VALUE);
            refused("addPerson(" + rank + ") where 6 are", RefusalsTest::withSixPersons, door -> door.addPerson(rank), BAD_VALUE);
        }
        refused("addPerson(1) where 6 are", RefusalsTest::withSixPersons, door -> door.addPerson(1), FULL);
        refused("addPerson(5) where 6 are", RefusalsTest::withSixPersons, door -> door.addPerson(5), FULL);

        check.promise("3, setRank: UNKNOWN; BAD_VALUE; NONE if it is so already");
        for (int person : new int[] {-1, PERSONS, 6, MIN, MAX}) {
            refused("setRank(" + person + ", 1)", door -> door.setRank(person, 1), UNKNOWN);
            refused("setRank(" + person + ", 0)", door -> door.setRank(person, 0), UNKNOWN);
        }
        refused("setRank(6, 1) where 6 are", RefusalsTest::withSixPersons, door -> door.setRank(6, 1), UNKNOWN);
        refused("setRank(0, 1) where none is", NailedOrders::new, door -> door.setRank(0, 1), UNKNOWN);
        for (int rank : new int[] {0, 6, -1, MIN, MAX}) {
            refused("setRank(0, " + rank + ")", door -> door.setRank(0, rank), BAD_VALUE);
        }
        refused("setRank(0, 2)", door -> door.setRank(0, 2), NONE);
        refused("setRank(2, 3)", door -> door.setRank(2, 3), NONE);
    }

    private static void tolerance() {
        check.promise("4, setTolerance: BAD_VALUE; NONE if it is so already");
        int[] bad = {
            Check.bits(-0.0f), Check.bits(-Float.MIN_VALUE), Check.bits(-1.0f), Check.bits(Math.nextUp(100.0f)), 0x7f7fffff,
            0x7f800000, 0xff800000, NO_NUMBER, 0x7f800001, 0xffffffff,
        };
        for (int bits : bad) {
            refused("setTolerance(" + bits + ")", door -> door.setTolerance(bits), BAD_VALUE);
        }
        refused("setTolerance(0.25f)", door -> door.setTolerance(Check.bits(0.25f)), NONE);
        refused("setTolerance(0.0f), which is so at first", NailedOrders::new, door -> door.setTolerance(0), NONE);
    }

    private static int[] noNumbers() {
        return new int[] {
            OVER_1000, Check.bits(-Math.nextUp(1000.0f)), 0x7f7fffff, 0xff7fffff, 0x7f800000, 0xff800000, NO_NUMBER,
            0x7f800001, 0xff800001, -1, Check.bits(16777216.0f), Check.bits(-33554432.0f),
        };
    }

    private static int[] noStrengths() {
        return new int[] {
            UNDER_A_TENTH, OVER_10, 0, MIN, 1, Check.bits(-0.1f), Check.bits(-1.0f), Check.bits(-10.0f), 0x7f7fffff,
            0x7f800000, 0xff800000, NO_NUMBER, 0x7f800001, -1,
        };
    }

    private static void nail() {
        check.promise("5, nail: UNKNOWN (person or word)");
        for (int person : new int[] {-1, PERSONS, 6, MIN, MAX}) {
            refused("nail(" + person + ", 0, ..)", door -> door.nail(person, 0, ONE, ONE), UNKNOWN);
            refused("nail(" + person + ", 0, bad, bad)", door -> door.nail(person, 0, NO_NUMBER, 0), UNKNOWN);
        }
        for (int word : new int[] {-1, 16, MIN, MAX}) {
            refused("nail(0, " + word + ", ..)", door -> door.nail(0, word, ONE, ONE), UNKNOWN);
            refused("nail(0, " + word + ", bad, ..)", door -> door.nail(0, word, OVER_1000, ONE), UNKNOWN);
            refused("nail(0, " + word + ", .., bad)", door -> door.nail(0, word, ONE, OVER_10), UNKNOWN);
        }
        check.promise("5, nail: BAD_VALUE");
        for (int bits : noNumbers()) {
            refused("nail(0, 0, " + bits + ", ..)", door -> door.nail(0, 0, bits, ONE), BAD_VALUE);
        }
        for (int bits : noStrengths()) {
            refused("nail(0, 0, .., " + bits + ")", door -> door.nail(0, 0, ONE, bits), BAD_VALUE);
        }
    }

    private static void nailLink() {
        check.promise("6, nailLink: UNKNOWN (person, word or other)");
        for (int person : new int[] {-1, PERSONS, 6, MIN, MAX}) {
            refused("nailLink(" + person + ", ..)", door -> door.nailLink(person, 0, 1, ONE, ONE, ONE), UNKNOWN);
            refused("nailLink(" + person + ", 1, 1, ..)", door -> door.nailLink(person, 1, 1, ONE, ONE, ONE), UNKNOWN);
        }
        for (int word : new int[] {-1, 16, MIN, MAX}) {
            refused("nailLink(0, " + word + ", 0, ..)", door -> door.nailLink(0, word, 0, ONE, ONE, ONE), UNKNOWN);
            refused("nailLink(0, 0, " + word + ", ..)", door -> door.nailLink(0, 0, word, ONE, ONE, ONE), UNKNOWN);
            refused("nailLink(0, both " + word + ")", door -> door.nailLink(0, word, word, ONE, ONE, ONE), UNKNOWN);
            refused("nailLink(0, 0, " + word + ", bad)", door -> door.nailLink(0, 0, word, NO_NUMBER, -1, 0), UNKNOWN);
        }
        check.promise("6, nailLink: BAD_VALUE");
        for (int bits : noNumbers()) {
            refused("nailLink, the factor " + bits, door -> door.nailLink(0, 0, 1, bits, ONE, ONE), BAD_VALUE);
            refused("nailLink, the number " + bits, door -> door.nailLink(0, 0, 1, ONE, bits, ONE), BAD_VALUE);
        }
        for (int bits : noStrengths()) {
            refused("nailLink, the strength " + bits, door -> door.nailLink(0, 0, 1, ONE, ONE, bits), BAD_VALUE);
        }
        for (int word : new int[] {0, 7, 15}) {
            refused("nailLink, both are " + word, door -> door.nailLink(0, word, word, ONE, ONE, ONE), BAD_VALUE);
        }
    }

    private static void room() {
        check.promise("5, 6 and 12: FULL if 24 hang");
        fullDoor(RefusalsTest::where24Hang);
        check.promise("5, 6 and 12: FULL if there have been 40");
        fullDoor(RefusalsTest::where40HaveBeen);
    }

    private static void fullDoor(Recipe recipe) {
        refused("nail", recipe, door -> door.nail(0, 0, ONE, ONE), FULL);
        refused("nail by nobody", recipe, door -> door.nail(1, 0, ONE, ONE), UNKNOWN);
        refused("nail for no word", recipe, door -> door.nail(0, 16, ONE, ONE), UNKNOWN);
        refused("nail of no number", recipe, door -> door.nail(0, 0, NO_NUMBER, ONE), BAD_VALUE);
        refused("nail of no strength", recipe, door -> door.nail(0, 0, ONE, 0), BAD_VALUE);
        refused("nailLink", recipe, door -> door.nailLink(0, 0, 1, ONE, ONE, ONE), FULL);
        refused("nailLink to no word", recipe, door -> door.nailLink(0, 0, 16, ONE, ONE, ONE), UNKNOWN);
        refused("nailLink of no factor", recipe, door -> door.nailLink(0, 0, 1, OVER_1000, ONE, ONE), BAD_VALUE);
        refused("nailLink to itself", recipe, door -> door.nailLink(0, 1, 1, ONE, ONE, ONE), BAD_VALUE);
        refused("readOrders", recipe, door -> door.readOrders(0, ONE), FULL);
        refused("readOrders by nobody", recipe, door -> door.readOrders(1, ONE), UNKNOWN);
        refused("readOrders of no strength", recipe, door -> door.readOrders(0, 0), BAD_VALUE);
    }

    private static void tearAndHammer() {
        check.promise("7, tear: UNKNOWN; NONE if it does not hang");
        for (int order : new int[] {-1, ORDERS, 40, MIN, MAX}) {
            refused("tear(" + order + ")", door -> door.tear(order), UNKNOWN);
        }
        refused("tear(0) where none has been", NailedOrders::new, door -> door.tear(0), UNKNOWN);
        refused("tear(40) where 40 have been", RefusalsTest::where40HaveBeen, door -> door.tear(40), UNKNOWN);
        refused("tear of one that fell", door -> door.tear(FALLEN), NONE);
        refused("tear of one that was torn off", door -> door.tear(TORN), NONE);

        check.promise("8, hammer: UNKNOWN; NOT_POSSIBLE if it does not hang");
        for (int order : new int[] {-1, ORDERS, 40, MIN, MAX}) {
            refused("hammer(" + order + ")", door -> door.hammer(order), UNKNOWN);
        }
        refused("hammer(0) where none has been", NailedOrders::new, door -> door.hammer(0), UNKNOWN);
        refused("hammer(40) where 40 have been", RefusalsTest::where40HaveBeen, door -> door.hammer(40), UNKNOWN);
        refused("hammer of one that fell", door -> door.hammer(FALLEN), NOT_POSSIBLE);
        refused("hammer of one that was torn off", door -> door.hammer(TORN), NOT_POSSIBLE);
    }

    private static void storm() {
        check.promise("9, storm: BAD_VALUE (no number, or not from 0.1f to 10.0f)");
        for (int bits : noStrengths()) {
            refused("storm(" + bits + ")", door -> door.storm(bits), BAD_VALUE);
        }
    }

    private static void texts() {
        check.promise("10, type: FULL if it has 60 characters");
        for (char character : new char[] {'w', ';', 0, 0xffff}) {
            refused("type(" + (int) character + ")", RefusalsTest::withFullText, door -> door.type(character), FULL);
        }
    }

    private static void readOrders() {
        check.promise("12, readOrders: UNKNOWN (the person)");
        for (int person : new int[] {-1, PERSONS, MIN, MAX}) {
            refused("readOrders(" + person + ", 1.0f)", door -> door.readOrders(person, ONE), UNKNOWN);
            refused("readOrders(" + person + ", bad)", door -> door.readOrders(person, 0), UNKNOWN);
            refused("readOrders(" + person + ", bad) of a fault", () -> withText("?"), door -> door.readOrders(person, 0), UNKNOWN);
        }
        check.promise("12, readOrders: BAD_VALUE (the strength)");
        for (int bits : noStrengths()) {
            refused("readOrders(0, " + bits + ")", door -> door.readOrders(0, bits), BAD_VALUE);
            refused("readOrders(0, " + bits + ") of a fault", () -> withText("w1=?"), door -> door.readOrders(0, bits), BAD_VALUE);
            refused("readOrders(0, " + bits + ") of word 16", () -> withText("w16=1.0"), door -> door.readOrders(0, bits), BAD_VALUE);
        }
        check.promise("12, readOrders: -100 minus the fault");
        refusedText("", -100);
        refusedText("?", -100);
        refusedText("w7=2.0;w8=?", -110);
        refusedText("w7=2.0;", -107);
        refusedText("w16=1.0;?", -108);
        refusedText("w1=w1*1.0;?", -110);
        refusedText("w1=1.0;".repeat(8) + "w1=2", -160);
        check.promise("12, readOrders: the error that nail() or nailLink() returns");
        refusedText("w7=2.0;w16=1.0", UNKNOWN);
        refusedText("w7=2.0;w1=w16*1.0", UNKNOWN);
        refusedText("w7=2.0;w1=w1*1.0", BAD_VALUE);
        refusedText("w7=2.0;w1=w1*1.0;w16=1.0", BAD_VALUE);
        refusedText("w7=2.0;w16=1.0;w1=w1*1.0", UNKNOWN);
    }

    private static void refusedText(String text, int due) {
        refused("readOrders(0, 1.0f) of " + text, () -> withText(text), door -> door.readOrders(0, ONE), due);
    }

    private static void toldOfWords() {
        check.promise("18, word: UNKNOWN; BAD_VALUE");
        for (int word : new int[] {-1, 16, MIN, MAX}) {
            for (int what : new int[] {-1, 0, 6, 7}) {
                refused("word(" + word + ", " + what + ")", door -> door.word(word, what), UNKNOWN);
            }
        }
        for (int what : new int[] {-1, 7, MIN, MAX}) {
            refused("word(0, " + what + ")", door -> door.word(0, what), BAD_VALUE);
            refused("word(15, " + what + "), where none hangs", door -> door.word(15, what), BAD_VALUE);
        }
        for (int what : new int[] {0, 1, 4}) {
            refused("word(15, " + what + "), where none hangs", door -> door.word(15, what), NONE);
        }
        refused("word(2, 6), in a ring", door -> door.word(2, 6), NONE);

        check.promise("19, hangsAt: UNKNOWN; BAD_VALUE; NONE");
        for (int word : new int[] {-1, 16, MIN, MAX}) {
            refused("hangsAt(" + word + ", 0)", door -> door.hangsAt(word, 0), UNKNOWN);
            refused("hangsAt(" + word + ", -1)", door -> door.hangsAt(word, -1), UNKNOWN);
        }
        for (int place : new int[] {-1, MIN}) {
            refused("hangsAt(0, " + place + ")", door -> door.hangsAt(0, place), BAD_VALUE);
            refused("hangsAt(15, " + place + "), where none hangs", door -> door.hangsAt(15, place), BAD_VALUE);
        }
        for (int place : new int[] {2, 24, 40, MAX}) {
            refused("hangsAt(0, " + place + ")", door -> door.hangsAt(0, place), NONE);
        }

        check.promise("22, reason: UNKNOWN; BAD_VALUE; NONE");
        for (int word : new int[] {-1, 16, MIN, MAX}) {
            refused("reason(" + word + ", 0)", door -> door.reason(word, 0), UNKNOWN);
            refused("reason(" + word + ", 17)", door -> door.reason(word, 17), UNKNOWN);
        }
        for (int step : new int[] {-1, 17, MIN, MAX}) {
            refused("reason(0, " + step + ")", door -> door.reason(0, step), BAD_VALUE);
            refused("reason(15, " + step + "), where none hangs", door -> door.reason(15, step), BAD_VALUE);
        }
        refused("reason(15, 0), where none hangs", door -> door.reason(15, 0), NONE);
        refused("reason(0, 1), behind a fixed order", door -> door.reason(0, 1), NONE);
    }

    private static void toldOfOrders() {
        check.promise("20, order: UNKNOWN; BAD_VALUE");
        for (int order : new int[] {-1, ORDERS, 40, MIN, MAX}) {
            for (int what : new int[] {-1, 0, 7, 8}) {
                refused("order(" + order + ", " + what + ")", door -> door.order(order, what), UNKNOWN);
            }
        }
        for (int order : new int[] {0, FALLEN, TORN}) {
            for (int what : new int[] {-1, 8, MIN, MAX}) {
                refused("order(" + order + ", " + what + ")", door -> door.order(order, what), BAD_VALUE);
            }
        }
        refused("order(0, 2), which is fixed", door -> door.order(0, 2), NONE);
        for (int order : new int[] {FALLEN, TORN}) {
            refused("order(" + order + ", 4)", door -> door.order(order, 4), NONE);
            refused("order(" + order + ", 5)", door -> door.order(order, 5), NONE);
        }

        check.promise("23, changesWithout: UNKNOWN; NONE if it does not hang");
        for (int order : new int[] {-1, ORDERS, 40, MIN, MAX}) {
            refused("changesWithout(" + order + ")", door -> door.changesWithout(order), UNKNOWN);
        }
        refused("changesWithout of one that fell", door -> door.changesWithout(FALLEN), NONE);
        refused("changesWithout of one that was torn off", door -> door.changesWithout(TORN), NONE);

        check.promise("24, stormsLeft: UNKNOWN; BAD_VALUE; NONE");
        for (int order : new int[] {-1, ORDERS, 40, MIN, MAX}) {
            refused("stormsLeft(" + order + ", 1.0f)", door -> door.stormsLeft(order, ONE), UNKNOWN);
            refused("stormsLeft(" + order + ", bad)", door -> door.stormsLeft(order, 0), UNKNOWN);
        }
        for (int bits : noStrengths()) {
            refused("stormsLeft(0, " + bits + ")", door -> door.stormsLeft(0, bits), BAD_VALUE);
            refused("stormsLeft of one that fell, " + bits, door -> door.stormsLeft(FALLEN, bits), BAD_VALUE);
        }
        refused("stormsLeft of one that fell", door -> door.stormsLeft(FALLEN, ONE), NONE);
        refused("stormsLeft of one that was torn off", door -> door.stormsLeft(TORN, ONE), NONE);
    }

    private static void toldOfPersonsAndCounts() {
        check.promise("25, person: UNKNOWN; BAD_VALUE");
        for (int person : new int[] {-1, PERSONS, 6, MIN, MAX}) {
            for (int what : new int[] {-1, 0, 4, 5}) {
                refused("person(" + person + ", " + what + ")", door -> door.person(person, what), UNKNOWN);
            }
        }
        for (int what : new int[] {-1, 5, MIN, MAX}) {
            refused("person(0, " + what + ")", door -> door.person(0, what), BAD_VALUE);
        }
        check.promise("26, count: BAD_VALUE");
        for (int what : new int[] {-1, 13, MIN, MAX}) {
            refused("count(" + what + ")", door -> door.count(what), BAD_VALUE);
        }
    }

    private static void floats() {
        check.promise("Methods that return a float return a NaN in place of all of these");
        for (int word : new int[] {-1, 16, MIN, MAX}) {
            notTold("value(" + word + ")", door -> door.value(word));
        }
        notTold("value(15), where none hangs", door -> door.value(15));
        notTold("value(2), in a ring", door -> door.value(2));
        for (int order : new int[] {-1, ORDERS, 40, MIN, MAX}) {
            notTold("valueOf(" + order + ")", door -> door.valueOf(order));
            for (int what = -1; what <= 3; what++) {
                int told = what;
                notTold("real(" + order + ", " + what + ")", door -> door.real(order, told));
            }
        }
        notTold("valueOf(3), in a ring", door -> door.valueOf(3));
        for (int what : new int[] {-1, 3, MIN, MAX}) {
            notTold("real(0, " + what + ")", door -> door.real(0, what));
            notTold("real of one that fell, " + what, door -> door.real(FALLEN, what));
        }
    }

    // ---- what answers, and changes nothing either

    private static void whatIsToldChangesNothing() {
        check.promise("what is told changes nothing");
        refused("all of each word", door -> {
            for (int word = 0; word < 16; word++) {
                door.value(word);
                door.hangsAt(word, 0);
                door.reason(word, 16);
                for (int what = 0; what <= 6; what++) {
                    door.word(word, what);
                }
            }
            return 0;
        }, 0);
        refused("all of each order", door -> {
            for (int order = 0; order < ORDERS; order++) {
                door.valueOf(order);
                door.real(order, 2);
                door.changesWithout(order);
                door.stormsLeft(order, Check.bits(0.1f));
                door.stormsLeft(order, Check.bits(10.0f));
                for (int what = 0; what <= 7; what++) {
                    door.order(order, what);
                }
            }
            return 0;
        }, 0);
    }

    private static void whatIsNoAct() {
        check.promise("only an act records a state");
        for (Recipe recipe : new Recipe[] {RefusalsTest::furnished, RefusalsTest::barelyFurnished}) {
            recordsNothing("type", recipe, door -> door.type('x'));
            recordsNothing("clearText", recipe, NailedOrders::clearText);
            recordsNothing("keep", recipe, NailedOrders::keep);
        }
        NailedOrders door = furnished();
        door.undo();
        check.due("count(11) after undo(), which is no act", door.count(11), 3);
    }

    private static void recordsNothing(String name, Recipe recipe, Call call) {
        NailedOrders door = recipe.make();
        int states = door.count(11);
        check.dueTrue(name + " is no error", call.on(door) >= 0);
        check.due("count(11) after " + name, door.count(11), states);
    }

    /** Undo after an act must bring back all but the text, also where the act answers 0. */
    private static void acts() {
        act("addPerson(5)", RefusalsTest::barelyFurnished, door -> door.addPerson(5), 1);
        act("setRank(0, 1)", RefusalsTest::barelyFurnished, door -> door.setRank(0, 1), 2);
        act("setTolerance(1.0f)", RefusalsTest::barelyFurnished, door -> door.setTolerance(ONE), 1);
        act("nail", RefusalsTest::barelyFurnished, door -> door.nail(0, 0, ONE, ONE), 1);
        act("nailLink", RefusalsTest::barelyFurnished, door -> door.nailLink(0, 1, 0, ONE, ONE, ONE), 1);
        act("tear(0)", RefusalsTest::barelyFurnished, door -> door.tear(0), 0);
        act("hammer(0)", RefusalsTest::barelyFurnished, door -> door.hammer(0), 550);
        act("storm in which none falls", RefusalsTest::barelyFurnished, door -> door.storm(Check.bits(0.1f)), 0);
        act("storm in which one falls", RefusalsTest::barelyFurnished, door -> door.storm(ONE), 1);
        act("readOrders", RefusalsTest::barelyFurnished, door -> door.readOrders(0, ONE), 2);
        act("restore", RefusalsTest::keptAndTorn, NailedOrders::restore, 1);

        check.promise("each act drops the oldest of four states");
        actOnFull("addPerson(5)", door -> door.addPerson(5));
        actOnFull("setRank(0, 1)", door -> door.setRank(0, 1));
        actOnFull("setTolerance(1.0f)", door -> door.setTolerance(ONE));
        actOnFull("nail", door -> door.nail(0, 0, ONE, ONE));
        actOnFull("nailLink", door -> door.nailLink(0, 1, 0, ONE, ONE, ONE));
        actOnFull("tear(0)", door -> door.tear(0));
        actOnFull("hammer(0)", door -> door.hammer(0));
        actOnFull("storm", door -> door.storm(Check.bits(0.1f)));
        actOnFull("readOrders", door -> door.readOrders(0, ONE));
        actOnFull("restore", NailedOrders::restore);
    }

    private static NailedOrders keptAndTorn() {
        NailedOrders door = Check.door(2);
        Check.nail(door, 0, 0, 1.0f);
        door.keep();
        door.tear(0);
        return door;
    }

    private static void act(String name, Recipe recipe, Call act, int due) {
        check.promise("an act records the state that was before it");
        NailedOrders door = recipe.make();
        int states = door.count(11);
        check.due(name, act.on(door), due);
        check.due("count(11) after " + name, door.count(11), states + 1);
        check.due("undo() of " + name, door.undo(), states);
        unchanged(name + " and undo()", door, recipe.make());
        NailedOrders again = recipe.make();
        act.on(again);
        again.undo();
        unchangedHistory(name + " and undo()", again, recipe.make());
    }

    private static void actOnFull(String name, Call act) {
        NailedOrders door = furnished();
        check.due("count(11) before " + name, door.count(11), 4);
        check.dueTrue(name + " is no error", act.on(door) >= 0);
        check.due("count(11) after " + name, door.count(11), 4);
        for (int left = 3; left >= 0; left--) {
            check.due("undo() after " + name, door.undo(), left);
        }
        check.due("one undo() more after " + name, door.undo(), NONE);
        check.due("count(9), as before the storm, which is not dropped", door.count(9), 0);
        check.dueTrue("count(10), as after setTolerance", door.count(10) == Check.bits(0.25f));
    }
}
