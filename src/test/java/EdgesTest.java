/** Promises 1 to 26: the least and the greatest argument that each call takes, and the least and the greatest answer. */
public final class EdgesTest {
    private static final Check check = new Check();

    private static final int ONE = Check.bits(1.0f);
    private static final int TENTH = Check.bits(0.1f);
    private static final int TEN = Check.bits(10.0f);
    private static final int NONE = NailedOrders.NONE;

    public static void main(String[] args) {
        newObject();
        ranks();
        tolerances();
        nail();
        nailLink();
        tear();
        hammer();
        storm();
        type();
        clearText();
        readOrders();
        roomForTexts();
        undo();
        keep();
        restore();
        value();
        valueOf();
        wordRules();
        wordDependents();
        wordLinks();
        hangsAt();
        order();
        strengthOfOneThatDoesNotHang();
        real();
        reason();
        changesWithout();
        stormsLeft();
        stormsLeftOfCovered();
        person();
        count();
        lastCalls();
        check.end();
    }

    /** A door with one person by whom so many orders are nailed, for the words in turn. */
    private static NailedOrders withOrders(int orders) {
        NailedOrders door = Check.door(1);
        for (int order = 0; order < orders; order++) {
            Check.nail(door, 0, order % 16, order);
        }
        return door;
    }

    /** Word 0 has an end, each other word links to the one before it. */
    private static NailedOrders withChain() {
        NailedOrders door = Check.door(1, 2);
        Check.nail(door, 0, 0, 1.0f);
        for (int word = 1; word < 16; word++) {
            Check.link(door, 0, word, word - 1, 1.0f, 1.0f);
        }
        return door;
    }

    private static void newObject() {
        check.promise("1, a new object is an empty door");
        for (int what = 0; what <= 12; what++) {
            check.due("count(" + what + ")", new NailedOrders().count(what), 0);
        }
        check.due("addPerson", new NailedOrders().addPerson(1), 0);
        check.due("setRank", new NailedOrders().setRank(0, 1), NailedOrders.UNKNOWN);
        check.due("setTolerance", new NailedOrders().setTolerance(ONE), 1);
        check.due("nail", new NailedOrders().nail(0, 0, ONE, ONE), NailedOrders.UNKNOWN);
        check.due("nailLink", new NailedOrders().nailLink(0, 0, 1, ONE, ONE, ONE), NailedOrders.UNKNOWN);
        check.due("tear", new NailedOrders().tear(0), NailedOrders.UNKNOWN);
        check.due("hammer", new NailedOrders().hammer(0), NailedOrders.UNKNOWN);
        check.due("storm", new NailedOrders().storm(ONE), 0);
        check.due("type", new NailedOrders().type('w'), 1);
        check.due("clearText", new NailedOrders().clearText(), 0);
        check.due("readOrders", new NailedOrders().readOrders(0, ONE), NailedOrders.UNKNOWN);
        check.due("undo", new NailedOrders().undo(), NONE);
        check.due("keep", new NailedOrders().keep(), 0);
        check.due("restore", new NailedOrders().restore(), NONE);
        check.dueFloat("value", new NailedOrders().value(0), Float.NaN);
        check.dueFloat("valueOf", new NailedOrders().valueOf(0), Float.NaN);
        check.due("hangsAt", new NailedOrders().hangsAt(0, 0), NONE);
        check.due("order", new NailedOrders().order(0, 0), NailedOrders.UNKNOWN);
        check.dueFloat("real", new NailedOrders().real(0, 0), Float.NaN);
        check.due("reason", new NailedOrders().reason(0, 0), NONE);
        check.due("changesWithout", new NailedOrders().changesWithout(0), NailedOrders.UNKNOWN);
        check.due("stormsLeft", new NailedOrders().stormsLeft(0, ONE), NailedOrders.UNKNOWN);
        check.due("person", new NailedOrders().person(0, 0), NailedOrders.UNKNOWN);
    }

    private static void ranks() {
        check.promise("2 and 3, a rank is 1 to 5");
        for (int rank = -7; rank <= 12; rank++) {
            boolean isRank = rank >= 1 && rank <= 5;
            check.due("addPerson(" + rank + ")", new NailedOrders().addPerson(rank), isRank ? 0 : NailedOrders.BAD_VALUE);
            for (int previous = 1; previous <= 5; previous++) {
                NailedOrders door = Check.door(previous);
                int due = !isRank ? NailedOrders.BAD_VALUE : rank == previous ? NONE : previous;
                check.due("setRank(0, " + rank + ") of " + previous, door.setRank(0, rank), due);
                check.due("person(0, 0) then", door.person(0, 0), isRank ? rank : previous);
            }
        }
        check.promise("3, setRank of the last of six persons");
        NailedOrders door = Check.door(1, 1, 1, 1, 1, 1);
        check.due("setRank(5, 5)", door.setRank(5, 5), 1);
        check.due("setRank(6, 5)", door.setRank(6, 5), NailedOrders.UNKNOWN);
        check.due("person(4, 0)", door.person(4, 0), 1);
    }

    private static void tolerances() {
        check.promise("4, setTolerance: NONE if it is so already");
        NailedOrders door = new NailedOrders();
        check.due("0.0f at first", door.setTolerance(0), NONE);
        check.due("100.0f", door.setTolerance(Check.bits(100.0f)), 1);
        check.due("100.0f again", door.setTolerance(Check.bits(100.0f)), NONE);
        check.due("one float beneath", door.setTolerance(Check.bits(Math.nextDown(100.0f))), 1);
        check.due("the least over 0.0f", door.setTolerance(1), 1);
        check.due("0.0f", door.setTolerance(0), 1);
        check.due("0.0f again", door.setTolerance(0), NONE);
        door.undo();
        check.due("count(10), what it was", door.count(10), 1);
        check.due("0.0f, as it is not so any more", door.setTolerance(0), 1);
    }

    private static void nail() {
        check.promise("5, nail: from -1000.0f to 1000.0f, from 0.1f to 10.0f, where -0.0f is a number as others");
        float[] numbers = {-1000.0f, 1000.0f, Math.nextUp(-1000.0f), Math.nextDown(1000.0f), 0.0f, -0.0f, Float.MIN_VALUE};
        float[] strengths = {0.1f, 10.0f, Math.nextUp(0.1f), Math.nextDown(10.0f), 1.0f, 2.0f, 0.5f};
        NailedOrders door = Check.door(1);
        for (int order = 0; order < numbers.length; order++) {
            int answer = door.nail(0, 15, Check.bits(numbers[order]), Check.bits(strengths[order]));
            check.due("nail(0, 15, " + numbers[order] + ", " + strengths[order] + ")", answer, order);
            check.dueFloat("real(" + order + ", 0)", door.real(order, 0), numbers[order]);
            check.dueFloat("real(" + order + ", 2)", door.real(order, 2), strengths[order]);
            check.dueFloat("value(15)", door.value(15), numbers[order]);
            check.dueFloat("valueOf(" + order + ")", door.valueOf(order), numbers[order]);
        }
    }

    private static void nailLink() {
        check.promise("6, nailLink: factor and number as for nail(), the strength as for nail()");
        float[] numbers = {-1000.0f, 1000.0f, Math.nextUp(-1000.0f), Math.nextDown(1000.0f), 0.0f, -0.0f, -Float.MIN_VALUE};
        float[] strengths = {0.1f, 10.0f};
        for (float number : numbers) {
            for (float factor : numbers) {
                NailedOrders door = Check.door(1);
                for (float strength : strengths) {
                    int due = strength == 10.0f ? 1 : 0;
                    int answer = door.nailLink(0, 0, 15, Check.bits(factor), Check.bits(number), Check.bits(strength));
                    check.due("nailLink of " + factor + ", " + number + ", " + strength, answer, due);
                    check.dueFloat("its number", door.real(due, 0), number);
                    check.dueFloat("its factor", door.real(due, 1), factor);
                    check.dueFloat("its strength", door.real(due, 2), strength);
                }
                Check.nail(door, 0, 15, 1.0f);
                check.dueFloat("value(0)", door.value(0), 1.0f * factor + number);
            }
        }
        check.promise("6, nailLink: BAD_VALUE if both words are the same");
        for (int word = 0; word < 16; word++) {
            NailedOrders door = Check.door(1);
            for (int other = 0; other < 16; other++) {
                boolean isSame = word == other;
                int due = isSame ? NailedOrders.BAD_VALUE : other > word ? other - 1 : other;
                check.due("a link from " + word + " to " + other, Check.link(door, 0, word, other, 1.0f, 1.0f), due);
            }
        }
    }

    private static void tear() {
        check.promise("7, tear: how many orders hang then for its word");
        NailedOrders door = Check.door(1);
        for (int order = 0; order < 24; order++) {
            Check.nail(door, 0, 15, order);
        }
        for (int left = 23; left >= 0; left--) {
            check.due("tear(" + left + ")", door.tear(left), left);
            check.due("tear(" + left + ") again", door.tear(left), NONE);
        }
        check.due("count(4)", door.count(4), 24);
        NailedOrders two = Check.door(1);
        Check.nail(two, 0, 0, 1.0f);
        Check.nail(two, 0, 1, 1.0f);
        check.due("one of another word is not counted", two.tear(0), 0);
    }

    private static void hammer() {
        check.promise("8, hammer: (int) drops what is behind the point");
        for (float strength : new float[] {0.1f, 0.15f, 0.77f, 3.333f, 9.99f, Math.nextDown(10.0f), 10.0f}) {
            NailedOrders door = Check.door(1);
            door.nail(0, 0, ONE, Check.bits(strength));
            float due = strength + (10.0f - strength) * 0.5f;
            check.due("hammer at " + strength, door.hammer(0), (long) (due * 100.0f));
            check.dueFloat("real(0, 2)", door.real(0, 2), due);
            check.due("order(0, 6)", door.order(0, 6), (long) (due * 100.0f));
        }
        NailedOrders door = Check.door(1);
        door.nail(0, 0, ONE, TEN);
        check.due("a nail that is in: 10.0f stays", door.hammer(0), 1000);
        check.due("and is an act", door.count(11), 3);
        NailedOrders last = withOrders(24);
        check.due("the last of 24", last.hammer(23), 550);
        check.due("the one beneath is as it was", last.order(7, 6), 100);
        last.tear(23);
        check.due("it does not hang", last.hammer(23), NailedOrders.NOT_POSSIBLE);
    }

    private static void storm() {
        check.promise("9, storm: from 0.1f to 10.0f");
        for (float force : new float[] {0.1f, Math.nextUp(0.1f), 1.0f, Math.nextDown(10.0f), 10.0f}) {
            NailedOrders door = Check.door(1);
            door.nail(0, 0, ONE, TEN);
            door.nail(0, 1, ONE, Check.bits(force));
            door.nail(0, 2, ONE, TENTH);
            check.due("storm(" + force + ")", door.storm(Check.bits(force)), force == 10.0f ? 3 : 2);
            check.dueFloat("real(0, 2)", door.real(0, 2), 10.0f - force);
            check.due("count(9)", door.count(9), 1);
        }
        check.due("one float beneath 0.1f", new NailedOrders().storm(Check.bits(Math.nextDown(0.1f))), NailedOrders.BAD_VALUE);
        check.due("one float over 10.0f", new NailedOrders().storm(Check.bits(Math.nextUp(10.0f))), NailedOrders.BAD_VALUE);
    }

    private static void type() {
        check.promise("10, type: any character");
        for (int character = 0; character <= 0xffff; character += 257) {
            check.due("type(" + character + ")", new NailedOrders().type((char) character), 1);
        }
        check.promise("10, type: FULL if it has 60 characters");
        NailedOrders door = new NailedOrders();
        for (int length = 1; length <= 59; length++) {
            door.type('w');
        }
        check.due("the 60th", door.type((char) 0xffff), 60);
        check.due("a 61st", door.type('w'), NailedOrders.FULL);
        check.due("count(12)", door.count(12), 60);
        check.due("clearText", door.clearText(), 60);
        check.due("a first one then", door.type('w'), 1);
    }

    private static void clearText() {
        check.promise("11, clearText: the length that it had");
        for (int length = 0; length <= 60; length++) {
            NailedOrders door = new NailedOrders();
            Check.type(door, "x".repeat(length));
            check.due("clearText", door.clearText(), length);
            check.due("clearText again", door.clearText(), 0);
        }
        NailedOrders door = Check.door(1);
        Check.type(door, "w1=2.0;w2=3.0");
        door.clearText();
        Check.type(door, "w3=4.0");
        check.due("nothing is left of the text that was", door.readOrders(0, ONE), 1);
        check.due("its word", door.order(0, 1), 3);
    }

    private static void readOrders() {
        check.promise("12, readOrders: each with the same strength");
        for (float strength : new float[] {0.1f, 10.0f}) {
            NailedOrders door = Check.door(1, 2);
            Check.type(door, "w0=1.0;w1=w0*2.0;w0=3.0;w2=w15*4.0+5.0");
            check.due("readOrders(1, " + strength + ")", door.readOrders(1, Check.bits(strength)), 4);
            for (int order = 0; order < 4; order++) {
                check.dueFloat("its strength", door.real(order, 2), strength);
                check.due("its person", door.order(order, 0), 1);
                check.due("it hangs", door.order(order, 3), 1);
            }
            check.due("one after the other: the later is over the earlier", door.order(0, 4), 1);
            check.due("which text stays", door.count(12), 38);
        }
        int under = Check.bits(Math.nextDown(0.1f));
        int over = Check.bits(Math.nextUp(10.0f));
        NailedOrders door = Check.door(1);
        Check.type(door, "w0=1.0");
        check.due("one float beneath 0.1f", door.readOrders(0, under), NailedOrders.BAD_VALUE);
        check.due("one float over 10.0f", door.readOrders(0, over), NailedOrders.BAD_VALUE);
        check.promise("12, readOrders: this is one act");
        check.due("readOrders", door.readOrders(0, ONE), 1);
        check.due("count(11)", door.count(11), 2);
        door.clearText();
        Check.type(door, "w0=0.0;".repeat(7) + "w0=0.0");
        check.due("eight", door.readOrders(0, ONE), 8);
        check.due("count(11)", door.count(11), 3);
        check.due("undo()", door.undo(), 2);
        check.due("count(1): all eight are gone", door.count(1), 1);
    }

    /** The room that is left when so many hang, or have been, against texts of one order to eight. */
    private static void roomForTexts() {
        check.promise("12, readOrders: all of them, or none; FULL if 24 hang");
        for (int hanging = 15; hanging <= 24; hanging++) {
            for (int read = 1; read <= 8; read++) {
                NailedOrders door = withOrders(hanging);
                readAgainst(door, read, hanging + read <= 24, hanging);
            }
        }
        check.promise("12, readOrders: all of them, or none; FULL if there have been 40");
        for (int been = 31; been <= 40; been++) {
            for (int read = 1; read <= 8; read++) {
                NailedOrders door = Check.door(1);
                for (int order = 0; order < been; order++) {
                    Check.nail(door, 0, 0, order);
                    door.tear(order);
                }
                readAgainst(door, read, been + read <= 40, been);
            }
        }
    }

    private static void readAgainst(NailedOrders door, int read, boolean hasRoom, int before) {
        Check.type(door, "w0=0.0;".repeat(read - 1) + "w0=0.0");
        String call = "readOrders of " + read + " after " + before;
        check.due(call, door.readOrders(0, ONE), hasRoom ? read : NailedOrders.FULL);
        check.due("count(1) after " + call, door.count(1), hasRoom ? before + read : before);
        check.due("count(11) after " + call, door.count(11), 4);
    }

    private static void undo() {
        check.promise("13, undo: the number of states that are left; NONE if the history is empty");
        for (int acts = 0; acts <= 6; acts++) {
            NailedOrders door = new NailedOrders();
            for (int act = 0; act < acts; act++) {
                door.storm(ONE);
            }
            for (int left = Math.min(acts, 4) - 1; left >= 0; left--) {
                check.due("undo() after " + acts + " acts", door.undo(), left);
            }
            check.due("undo() of none", door.undo(), NONE);
            check.due("count(9)", door.count(9), Math.max(acts - 4, 0));
        }
    }

    private static void keep() {
        check.promise("14, keep: the number of orders that hang");
        for (int orders : new int[] {0, 1, 23, 24}) {
            NailedOrders door = withOrders(orders);
            check.due("keep()", door.keep(), orders);
            check.due("count(11)", door.count(11), Math.min(orders + 1, 4));
        }
        NailedOrders door = withOrders(3);
        door.tear(1);
        check.due("keep(): one was torn off", door.keep(), 2);
        door.storm(TEN);
        check.due("keep(): the others fell", door.keep(), 0);
        check.due("restore(): in place of the one that was", door.restore(), 0);
    }

    private static void restore() {
        check.promise("15, restore: the number of orders that hang then; NONE if there is no snapshot");
        for (int orders : new int[] {0, 1, 23, 24}) {
            NailedOrders door = withOrders(orders);
            check.due("restore()", door.restore(), NONE);
            door.keep();
            for (int order = 0; order < orders; order++) {
                door.tear(order);
            }
            check.due("restore()", door.restore(), orders);
            check.due("restore() again: it stays", door.restore(), orders);
            check.due("count(4)", door.count(4), 0);
        }
        NailedOrders door = new NailedOrders();
        door.keep();
        check.due("restore() of what is so already", door.restore(), 0);
        check.due("count(11): it is an act still", door.count(11), 1);
    }

    // ---- what is told

    private static void value() {
        check.promise("16, value: 0 to 15");
        NailedOrders door = withChain();
        for (int word = 0; word < 16; word++) {
            check.dueFloat("value(" + word + ")", door.value(word), word + 1);
        }
        check.dueFloat("value(16)", door.value(16), Float.NaN);
        check.dueFloat("value(-1)", door.value(-1), Float.NaN);
        check.dueFloat("value(max)", door.value(Integer.MAX_VALUE), Float.NaN);
        check.dueFloat("value(min)", door.value(Integer.MIN_VALUE), Float.NaN);
    }

    private static void valueOf() {
        check.promise("17, valueOf: whether it hangs or not, by the values that words have now");
        NailedOrders door = Check.door(1, 2);
        Check.nail(door, 0, 0, 1.0f);
        door.nailLink(0, 1, 0, Check.bits(10.0f), ONE, TENTH);
        door.nail(0, 2, Check.bits(5.0f), TENTH);
        Check.link(door, 0, 3, 0, 20.0f, 1.0f);
        Check.link(door, 1, 3, 2, 1.0f, 1.0f);
        check.dueFloat("one beneath", door.valueOf(3), 21.0f);
        door.storm(TENTH);
        door.tear(3);
        check.dueFloat("a link that fell", door.valueOf(1), 11.0f);
        check.dueFloat("a number that fell", door.valueOf(2), 5.0f);
        check.dueFloat("a link that was torn off", door.valueOf(3), 21.0f);
        check.dueFloat("one to a word whose order fell", door.valueOf(4), Float.NaN);
        Check.nail(door, 1, 0, 2.0f);
        check.dueFloat("a link that fell, by a value that is now", door.valueOf(1), 21.0f);
        Check.link(door, 1, 0, 1, 1.0f, 1.0f);
        check.dueFloat("a link that fell, to a word without value", door.valueOf(1), Float.NaN);
        check.dueFloat("a number has its value always", door.valueOf(2), 5.0f);

        NailedOrders last = withOrders(24);
        check.dueFloat("the last one", last.valueOf(23), 23.0f);
        check.dueFloat("one more", last.valueOf(24), Float.NaN);
    }

    private static void wordRules() {
        check.promise("18, word: 0 to 3");
        NailedOrders door = Check.door(1, 2);
        for (int order = 0; order < 24; order++) {
            Check.nail(door, order == 0 ? 1 : 0, 15, order);
        }
        check.due("word(15, 0), the lowest rules", door.word(15, 0), 0);
        check.due("word(15, 1)", door.word(15, 1), 23);
        check.due("word(15, 2)", door.word(15, 2), 24);
        check.due("word(15, 3)", door.word(15, 3), 1);
        check.due("word(15, 4)", door.word(15, 4), NONE);
        door.setRank(1, 1);
        check.due("word(15, 0), the topmost rules", door.word(15, 0), 23);
        check.due("word(15, 4), the lowest is the only other one", door.word(15, 4), 0);
        check.due("word(0, 0)", door.word(0, 0), NONE);
        check.due("word(0, 1)", door.word(0, 1), NONE);
        check.due("word(0, 2)", door.word(0, 2), 0);
        check.due("word(0, 3)", door.word(0, 3), 0);
        check.due("word(0, 4)", door.word(0, 4), NONE);
        check.due("word(0, 5)", door.word(0, 5), 0);
        check.due("word(0, 6)", door.word(0, 6), 0);
    }

    private static void wordDependents() {
        check.promise("18, word: 5 for the words whose values depend on it");
        NailedOrders door = withChain();
        for (int word = 0; word < 16; word++) {
            check.due("word(" + word + ", 5)", door.word(word, 5), 0xffff & ~((2 << word) - 1));
        }
        Check.link(door, 0, 0, 15, 1.0f, 1.0f);
        for (int word = 0; word < 16; word++) {
            check.due("word(" + word + ", 5) in a ring of all", door.word(word, 5), 0xffff);
        }
        Check.nail(door, 1, 8, 1.0f);
        check.due("word(8, 5): the ring is open, so not itself", door.word(8, 5), 0xffff & ~(1 << 8));
        check.due("word(7, 5), behind which none comes", door.word(7, 5), 0);
        check.promise("18, word: 5, those whose links come to a word for which none hangs");
        NailedOrders open = withChain();
        open.tear(0);
        check.due("word(0, 5)", open.word(0, 5), 0xfffe);
    }

    private static void wordLinks() {
        check.promise("18, word: 6 for the number of links from it to the end");
        NailedOrders door = withChain();
        for (int word = 0; word < 16; word++) {
            check.due("word(" + word + ", 6)", door.word(word, 6), word);
        }
        door.tear(0);
        for (int word = 0; word < 16; word++) {
            check.due("word(" + word + ", 6) to a word for which none hangs", door.word(word, 6), word);
        }
        Check.link(door, 0, 0, 1, 1.0f, 1.0f);
        for (int word = 0; word < 16; word++) {
            check.due("word(" + word + ", 6) to a ring of two", door.word(word, 6), NONE);
        }
    }

    private static void hangsAt() {
        check.promise("19, hangsAt: BAD_VALUE if place is negative; NONE if there are not so many");
        NailedOrders door = Check.door(1);
        for (int order = 0; order < 24; order++) {
            Check.nail(door, 0, 0, order);
        }
        check.due("hangsAt(0, 0)", door.hangsAt(0, 0), 23);
        check.due("hangsAt(0, 23)", door.hangsAt(0, 23), 0);
        check.due("hangsAt(0, 24)", door.hangsAt(0, 24), NONE);
        check.due("hangsAt(0, max)", door.hangsAt(0, Integer.MAX_VALUE), NONE);
        check.due("hangsAt(0, -1)", door.hangsAt(0, -1), NailedOrders.BAD_VALUE);
        check.due("hangsAt(0, min)", door.hangsAt(0, Integer.MIN_VALUE), NailedOrders.BAD_VALUE);
        check.due("hangsAt(15, 0), where none hangs", door.hangsAt(15, 0), NONE);
        check.due("hangsAt(15, -1), where none hangs", door.hangsAt(15, -1), NailedOrders.BAD_VALUE);
        Check.type(door, "w1=2.0");
        door.tear(23);
        door.readOrders(0, ONE);
        check.due("hangsAt(0, 0): the next one is the topmost", door.hangsAt(0, 0), 22);
        check.due("hangsAt(0, 23): there are not so many now", door.hangsAt(0, 23), NONE);
        check.due("hangsAt(1, 0)", door.hangsAt(1, 0), 24);
        check.due("hangsAt(1, 1)", door.hangsAt(1, 1), NONE);
    }

    private static void order() {
        check.promise("20, order: 0 to 7");
        NailedOrders door = Check.door(1, 1, 1, 1, 1, 2);
        door.nailLink(5, 15, 14, ONE, ONE, TEN);
        for (int order = 1; order < 24; order++) {
            door.nail(0, 15, ONE, TENTH);
        }
        int[] first = {5, 15, 14, 1, 23, 0, 1000, 1};
        int[] last = {0, 15, NONE, 1, 0, 23, 10, 0};
        for (int what = 0; what <= 7; what++) {
            check.due("order(0, " + what + ")", door.order(0, what), first[what]);
            check.due("order(23, " + what + ")", door.order(23, what), last[what]);
        }
        door.setRank(5, 1);
        check.due("order(0, 7)", door.order(0, 7), 0);
        check.due("order(23, 7)", door.order(23, 7), 1);
        door.tear(23);
        int[] torn = {0, 15, NONE, 0, NONE, NONE, 10, 0};
        for (int what = 0; what <= 7; what++) {
            check.due("order(23, " + what + ") torn off", door.order(23, what), torn[what]);
        }
    }

    private static void strengthOfOneThatDoesNotHang() {
        check.promise("20, order: 6, as it was when it fell or was torn off");
        NailedOrders door = Check.door(1);
        door.nail(0, 0, ONE, Check.bits(0.5f));
        door.nail(0, 1, ONE, Check.bits(3.0f));
        door.nail(0, 2, ONE, Check.bits(9.0f));
        door.hammer(1);
        door.tear(1);
        check.due("order(1, 6), torn off", door.order(1, 6), 650);
        door.storm(Check.bits(2.0f));
        check.due("order(0, 6), fell", door.order(0, 6), -150);
        check.dueFloat("real(0, 2), fell", door.real(0, 2), -1.5f);
        door.storm(ONE);
        check.due("order(0, 6), no storm is its own now", door.order(0, 6), -150);
        check.due("order(1, 6), no storm is its own now", door.order(1, 6), 650);
        check.due("order(2, 6), which hangs", door.order(2, 6), 600);
        NailedOrders behind = Check.door(1);
        behind.nail(0, 0, ONE, Check.bits(0.125f));
        behind.storm(Check.bits(0.1328125f));
        check.due("what is behind the point is dropped beneath 0.0f too", behind.order(0, 6), 0);
    }

    private static void real() {
        check.promise("21, real: 0 to 2");
        NailedOrders door = withOrders(24);
        check.dueFloat("real(23, 0)", door.real(23, 0), 23.0f);
        check.dueFloat("real(23, 1), 1.0f as it is fixed", door.real(23, 1), 1.0f);
        check.dueFloat("real(23, 2)", door.real(23, 2), 1.0f);
        check.dueFloat("real(23, 3)", door.real(23, 3), Float.NaN);
        check.dueFloat("real(23, -1)", door.real(23, -1), Float.NaN);
        check.dueFloat("real(24, 0)", door.real(24, 0), Float.NaN);
        door.tear(23);
        check.dueFloat("real(23, 0), torn off", door.real(23, 0), 23.0f);
        check.dueFloat("real(23, 1), torn off", door.real(23, 1), 1.0f);
        Check.link(door, 0, 0, 1, 0.0f, -0.0f);
        check.dueFloat("real(24, 0)", door.real(24, 0), -0.0f);
        check.dueFloat("real(24, 1)", door.real(24, 1), 0.0f);
    }

    private static void reason() {
        check.promise("22, reason: up to 16");
        NailedOrders door = withChain();
        for (int step = 0; step <= 15; step++) {
            check.due("reason(15, " + step + ")", door.reason(15, step), 15 - step);
        }
        check.due("reason(15, 16): the links do not go so far", door.reason(15, 16), NONE);
        check.due("reason(15, 17)", door.reason(15, 17), NailedOrders.BAD_VALUE);
        check.due("reason(15, -1)", door.reason(15, -1), NailedOrders.BAD_VALUE);
        check.due("reason(0, 0)", door.reason(0, 0), 0);
        check.due("reason(0, 1)", door.reason(0, 1), NONE);
        door.tear(0);
        check.due("reason(15, 14)", door.reason(15, 14), 1);
        check.due("reason(15, 15), where none hangs", door.reason(15, 15), NONE);
        check.promise("22, reason: in a ring they go on and on");
        Check.link(door, 0, 0, 15, 1.0f, 1.0f);
        for (int step = 0; step <= 16; step++) {
            int due = step == 15 ? 16 : step == 16 ? 15 : 15 - step;
            check.due("reason(15, " + step + ")", door.reason(15, step), due);
        }
        check.due("reason(15, 17) in a ring", door.reason(15, 17), NailedOrders.BAD_VALUE);
    }

    private static void changesWithout() {
        check.promise("23, changesWithout");
        NailedOrders door = withChain();
        for (int order = 0; order < 16; order++) {
            check.due("changesWithout(" + order + ")", door.changesWithout(order), 16 - order);
        }
        Check.nail(door, 1, 0, 1.0f);
        check.due("one that does not rule", door.changesWithout(0), 0);
        check.due("one beneath which is the same value", door.changesWithout(16), 0);
        Check.nail(door, 1, 0, 100.0f);
        check.due("one beneath which is another value", door.changesWithout(17), 16);
        door.setTolerance(Check.bits(Math.nextDown(99.0f)));
        check.due("farther than the tolerance", door.changesWithout(17), 16);
        door.setTolerance(Check.bits(99.0f));
        check.due("as far as the tolerance", door.changesWithout(17), 0);
        Check.link(door, 1, 0, 15, 1.0f, 1.0f);
        check.due("one that closes a ring of all", door.changesWithout(18), 16);
        check.due("one in the ring, behind which none has an end", door.changesWithout(7), 0);
        check.due("one beneath the ring", door.changesWithout(0), 0);
        check.due("nothing has changed", door.order(18, 3), 1);
    }

    private static int stormsOf(float strength, float force) {
        NailedOrders door = Check.door(1);
        door.nail(0, 0, ONE, Check.bits(strength));
        return door.stormsLeft(0, Check.bits(force));
    }

    private static void stormsLeft() {
        check.promise("24, stormsLeft: the storms, with the one in which it falls");
        check.due("in the first, at 0.0f", stormsOf(0.1f, 0.1f), 1);
        check.due("in the first, far beneath", stormsOf(0.1f, 10.0f), 1);
        check.due("in the first, 10.0f", stormsOf(10.0f, 10.0f), 1);
        check.due("in the second", stormsOf(Math.nextUp(0.1f), 0.1f), 2);
        check.due("in the second, 10.0f", stormsOf(10.0f, Math.nextDown(10.0f)), 2);
        check.due("with the least force", stormsOf(10.0f, 0.1f), 100);
        NailedOrders door = Check.door(1);
        door.nail(0, 0, ONE, TEN);
        int left = door.stormsLeft(0, ONE);
        check.due("the storms that are told ..", left, 10);
        for (int storm = 1; storm < left; storm++) {
            check.due("storm " + storm, door.storm(ONE), 0);
            check.due("the rest", door.stormsLeft(0, ONE), left - storm);
        }
        check.due(".. are those that come", door.storm(ONE), 1);
        check.due("it fell", door.stormsLeft(0, ONE), NONE);
    }

    /** Beneath three of 10.0f, this strength goes in the 200th storm of 0.1f, and the next float in the 201st. */
    private static void stormsLeftOfCovered() {
        check.promise("24, stormsLeft: NONE if it does not fall in 200 storms");
        int[] bits = {1088561711, 1088561712};
        for (int i = 0; i < 2; i++) {
            NailedOrders door = Check.door(1);
            door.nail(0, 0, ONE, bits[i]);
            door.nail(0, 0, ONE, TEN);
            door.nail(0, 0, ONE, TEN);
            door.nail(0, 0, ONE, TEN);
            check.due("stormsLeft(0, 0.1f)", door.stormsLeft(0, TENTH), i == 0 ? 200 : NONE);
            door.storm(TENTH);
            check.due("after one storm", door.stormsLeft(0, TENTH), i == 0 ? 199 : 200);
            check.due("the topmost", door.stormsLeft(3, TENTH), 99);
            for (int storm = 2; storm <= 200; storm++) {
                door.storm(TENTH);
            }
            check.due("order(0, 3) after 200 storms that came", door.order(0, 3), i);
        }
        NailedOrders deep = Check.door(1);
        for (int order = 0; order < 24; order++) {
            deep.nail(0, 0, ONE, TEN);
        }
        check.due("beneath 23", deep.stormsLeft(0, TENTH), NONE);
    }

    private static void person() {
        check.promise("25, person: 0 to 4");
        NailedOrders door = Check.door(1, 1, 1, 1, 1, 5);
        for (int order = 0; order < 40; order++) {
            Check.nail(door, 5, order % 16, order);
            if (order >= 16) {
                door.tear(order);
            }
        }
        int[] last = {5, 40, 16, 16, 0xffff};
        int[] first = {1, 0, 0, 0, 0};
        for (int what = 0; what <= 4; what++) {
            check.due("person(5, " + what + ")", door.person(5, what), last[what]);
            check.due("person(0, " + what + ")", door.person(0, what), first[what]);
            check.due("person(6, " + what + ")", door.person(6, what), NailedOrders.UNKNOWN);
            check.due("person(-1, " + what + ")", door.person(-1, what), NailedOrders.UNKNOWN);
        }
        check.due("person(5, 5)", door.person(5, 5), NailedOrders.BAD_VALUE);
        check.due("person(5, -1)", door.person(5, -1), NailedOrders.BAD_VALUE);
        for (int order = 0; order < 16; order++) {
            door.tear(order);
        }
        int[] none = {5, 40, 0, 0, 0};
        for (int what = 0; what <= 4; what++) {
            check.due("person(5, " + what + "), none hangs", door.person(5, what), none[what]);
        }
    }

    private static void count() {
        check.promise("26, count: 0 to 12");
        NailedOrders full = withOrders(24);
        counted(full, 1, 24);
        counted(full, 2, 24);
        counted(full, 5, 16);
        full.storm(TEN);
        counted(full, 3, 24);
        counted(full, 2, 0);
        counted(full, 5, 0);
        counted(full, 9, 1);
        Check.type(full, "w0=0.0;".repeat(7) + "w0=0.0");
        full.readOrders(0, ONE);
        full.readOrders(0, ONE);
        counted(full, 1, 40);
        full.storm(ONE);
        full.storm(ONE);
        full.storm(ONE);
        full.storm(ONE);
        full.storm(ONE);
        counted(full, 9, 6);
        counted(full, 11, 4);
        counted(full, 12, 55);

        NailedOrders torn = Check.door(1, 2, 3, 4, 5, 1);
        counted(torn, 0, 6);
        for (int order = 0; order < 40; order++) {
            Check.nail(torn, 0, 0, 1.0f);
            torn.tear(order);
        }
        counted(torn, 4, 40);
        counted(torn, 3, 0);

        NailedOrders ring = withChain();
        Check.link(ring, 0, 0, 15, 1.0f, 0.0f);
        counted(ring, 8, 16);
        counted(ring, 6, 16);
        NailedOrders rivals = Check.door(1, 1);
        for (int order = 0; order < 24; order++) {
            Check.nail(rivals, order / 12, order % 12, order);
        }
        counted(rivals, 7, 12);
        rivals.setTolerance(Check.bits(100.0f));
        counted(rivals, 7, 0);
        counted(rivals, 10, Check.bits(100.0f));
        check.due("count(-1)", rivals.count(-1), NailedOrders.BAD_VALUE);
        check.due("count(13)", rivals.count(13), NailedOrders.BAD_VALUE);
    }

    private static void counted(NailedOrders door, int what, int due) {
        check.due("count(" + what + ")", door.count(what), due);
    }

    private static void lastCalls() {
        check.promise("An object is used for at most 512 calls");
        NailedOrders door = Check.door(1);
        for (int call = 2; call <= 511; call++) {
            door.storm(ONE);
        }
        check.due("the 512th call", door.count(9), 510);
    }
}
