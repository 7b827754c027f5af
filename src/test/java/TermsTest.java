/** The document's "Terms", sentence by sentence, but for the texts (GrammarTest) and the errors (RefusalsTest). */
public final class TermsTest {
    private static final Check check = new Check();

    private static final int ONE = Check.bits(1.0f);
    private static final int TENTH = Check.bits(0.1f);
    private static final int NONE = NailedOrders.NONE;

    public static void main(String[] args) {
        roundedByItself();
        wholeNumbersAreConverted();
        withoutItsSign();
        atMostSixPersons();
        sixteenWords();
        atMostTwentyFourHang();
        atMostFortyEver();
        stack();
        greatestRankRules();
        topmostOfThatRankRules();
        noOrderHangs();
        linksToAWordThatHasNone();
        rings();
        rangeOfValues();
        differ();
        toleranceAtFirst();
        conflicts();
        storms();
        fall();
        history();
        snapshot();
        whatIsNoState();
        check.end();
    }

    // ---- numbers

    private static void roundedByItself() {
        check.promise("Each operation with them is done in floats, rounded by itself");
        float linked = -47.2f;
        float factor = -4.1f;
        float number = Math.nextUp(1.6f);
        float due = linked * factor + number;
        check.dueTrue("rounding twice is not rounding once", due != Math.fma(linked, factor, number)
                && due != (float) ((double) linked * factor + number));
        NailedOrders door = Check.door(1);
        Check.nail(door, 0, 0, linked);
        Check.link(door, 0, 1, 0, factor, number);
        check.dueFloat("value(1)", door.value(1), due);
        check.dueFloat("valueOf(1)", door.valueOf(1), due);

        float strength = 0.1f;
        float driven = strength + (10.0f - strength) * 0.5f;
        check.dueTrue("a nail driven in, in doubles", driven != (float) (strength + (10.0 - strength) * 0.5));
        door.nail(0, 2, ONE, Check.bits(strength));
        door.hammer(2);
        check.dueFloat("real(2, 2)", door.real(2, 2), driven);

        check.dueTrue("hundredths, in doubles", (int) (0.29f * 100.0f) != (int) ((double) 0.29f * 100.0));
        door.nail(0, 3, ONE, Check.bits(0.29f));
        check.due("order(3, 6)", door.order(3, 6), 29);
    }

    private static void wholeNumbersAreConverted() {
        check.promise("whole numbers in it are converted to floats first");
        float left = 0.15f - 0.11f / 3.0f;
        check.dueTrue("a storm in doubles", left != (float) (0.15f - (double) 0.11f / 3));
        NailedOrders door = Check.door(1);
        door.nail(0, 0, ONE, Check.bits(0.15f));
        Check.nail(door, 0, 0, 1.0f);
        Check.nail(door, 0, 0, 1.0f);
        door.storm(Check.bits(0.11f));
        check.dueFloat("real(0, 2)", door.real(0, 2), left);
    }

    private static void withoutItsSign() {
        check.promise("|x| is x without its sign");
        for (float one : new float[] {2.0f, -2.0f, 0.0f}) {
            NailedOrders door = Check.door(1, 1);
            Check.nail(door, 0, 0, one);
            Check.nail(door, 1, 0, one + 3.0f);
            Check.nail(door, 0, 1, one + 3.0f);
            Check.nail(door, 1, 1, one);
            door.setTolerance(Check.bits(2.5f));
            check.due("a lesser one beneath, " + one, door.word(0, 4), 0);
            check.due("a greater one beneath, " + one, door.word(1, 4), 2);
        }
    }

    // ---- persons and orders

    private static void atMostSixPersons() {
        check.promise("There are at most 6 persons, numbered from 0, each with a rank from 1 to 5");
        NailedOrders door = new NailedOrders();
        int[] ranks = {1, 5, 2, 4, 3, 1};
        for (int person = 0; person < 6; person++) {
            check.due("addPerson", door.addPerson(ranks[person]), person);
        }
        check.due("a seventh", door.addPerson(1), NailedOrders.FULL);
        for (int person = 0; person < 6; person++) {
            check.due("person(" + person + ", 0)", door.person(person, 0), ranks[person]);
            check.due("an order of " + person, Check.nail(door, person, person, person), person);
        }
        check.due("an order of a seventh", Check.nail(door, 6, 0, 1.0f), NailedOrders.UNKNOWN);
    }

    private static void sixteenWords() {
        check.promise("There are 16 words, numbered from 0");
        NailedOrders door = Check.door(1);
        for (int word = 0; word < 16; word++) {
            check.due("nail for " + word, Check.nail(door, 0, word, word), word);
            check.dueFloat("value(" + word + ")", door.value(word), word);
        }
        check.due("nail for 16", Check.nail(door, 0, 16, 1.0f), NailedOrders.UNKNOWN);
        check.due("nail for -1", Check.nail(door, 0, -1, 1.0f), NailedOrders.UNKNOWN);
        check.due("a link from 15 to 0", Check.link(door, 0, 15, 0, 1.0f, 7.0f), 16);
        check.due("a link from 0 to 15", Check.link(door, 0, 0, 15, 1.0f, 7.0f), 17);
        check.due("count(8)", door.count(8), 2);
    }

    private static void atMostTwentyFourHang() {
        check.promise("of which at most 24 hang on the door at a time");
        NailedOrders door = Check.door(1);
        for (int order = 0; order < 23; order++) {
            Check.nail(door, 0, order % 16, 1.0f);
        }
        check.due("the 24th", door.nail(0, 0, ONE, TENTH), 23);
        check.due("count(2)", door.count(2), 24);
        check.due("a 25th", Check.nail(door, 0, 0, 1.0f), NailedOrders.FULL);
        door.storm(TENTH);
        check.due("count(2): one fell", door.count(2), 23);
        check.due("a 25th in its place", Check.link(door, 0, 0, 1, 1.0f, 1.0f), 24);
        check.due("one more", Check.link(door, 0, 0, 1, 1.0f, 1.0f), NailedOrders.FULL);
        door.tear(24);
        check.due("one more in place of one torn off", Check.nail(door, 0, 0, 1.0f), 25);
        check.due("and one more", Check.nail(door, 0, 0, 1.0f), NailedOrders.FULL);
        door.undo();
        door.undo();
        check.due("count(2) after undo() of both", door.count(2), 24);
        check.due("one more then", Check.nail(door, 0, 0, 1.0f), NailedOrders.FULL);
    }

    private static void atMostFortyEver() {
        check.promise("There are at most 40 orders ever, numbered from 0");
        NailedOrders door = Check.door(1);
        for (int order = 0; order < 39; order++) {
            check.due("nail", Check.nail(door, 0, 0, order), order);
            door.tear(order);
        }
        check.due("the 40th", Check.nail(door, 0, 15, 39.0f), 39);
        check.due("count(1)", door.count(1), 40);
        check.due("a 41st", Check.nail(door, 0, 15, 1.0f), NailedOrders.FULL);
        door.tear(39);
        check.due("a 41st, though none hangs", Check.nail(door, 0, 15, 1.0f), NailedOrders.FULL);
        check.dueFloat("the last one", door.real(39, 0), 39.0f);
        check.due("order(40, 0)", door.order(40, 0), NailedOrders.UNKNOWN);
        door.undo();
        door.undo();
        check.due("count(1): those taken back have not been", door.count(1), 39);
        check.due("the 40th once more", Check.link(door, 0, 3, 2, 1.0f, 1.0f), 39);
        check.due("a 41st", Check.link(door, 0, 3, 2, 1.0f, 1.0f), NailedOrders.FULL);
    }

    private static void stack() {
        check.promise("Those nailed later are over it, those nailed earlier are beneath it");
        NailedOrders door = Check.door(5, 1);
        for (int order = 0; order < 24; order++) {
            Check.nail(door, order % 2, 3, order);
        }
        for (int order = 0; order < 24; order++) {
            check.due("order(" + order + ", 4)", door.order(order, 4), 23 - order);
            check.due("order(" + order + ", 5)", door.order(order, 5), order);
            check.due("hangsAt(3, " + order + ")", door.hangsAt(3, order), 23 - order);
        }
        door.tear(12);
        check.due("one beneath a gap", door.order(11, 4), 11);
        check.due("one over a gap", door.order(13, 5), 12);
        check.due("hangsAt(3, 10)", door.hangsAt(3, 10), 13);
        check.due("hangsAt(3, 11), behind the gap", door.hangsAt(3, 11), 11);
        Check.nail(door, 1, 4, 1.0f);
        check.due("one of another word is not over it", door.order(23, 4), 0);
        Check.nail(door, 1, 3, 1.0f);
        check.due("a FULL door takes none", door.order(23, 4), 0);
    }

    // ---- values

    private static void greatestRankRules() {
        check.promise("the one rules whose person has the greatest rank now");
        NailedOrders door = Check.door(1, 2, 3, 4, 5);
        for (int order = 4; order >= 0; order--) {
            Check.nail(door, order, 0, order);
        }
        for (int rank = 5; rank >= 1; rank--) {
            check.dueFloat("value(0)", door.value(0), rank - 1);
            check.due("word(0, 0)", door.word(0, 0), 5 - rank);
            door.tear(5 - rank);
        }
        check.due("word(0, 0), none is left", door.word(0, 0), NONE);

        NailedOrders changed = Check.door(3, 3);
        Check.nail(changed, 0, 0, 10.0f);
        Check.nail(changed, 1, 0, 11.0f);
        check.dueFloat("the same rank", changed.value(0), 11.0f);
        changed.setRank(1, 2);
        check.dueFloat("a rank lowered", changed.value(0), 10.0f);
        changed.setRank(1, 4);
        check.dueFloat("a rank raised", changed.value(0), 11.0f);
        changed.undo();
        check.dueFloat("a rank as it was", changed.value(0), 10.0f);
    }

    private static void topmostOfThatRankRules() {
        check.promise("of several of that rank the topmost one");
        NailedOrders door = Check.door(2, 2, 1);
        Check.nail(door, 0, 9, 1.0f);
        Check.nail(door, 1, 9, 2.0f);
        Check.nail(door, 0, 9, 3.0f);
        Check.nail(door, 2, 9, 4.0f);
        int[] due = {2, 1, 0, 3, NONE};
        for (int ruling : due) {
            check.due("word(9, 0)", door.word(9, 0), ruling);
            door.tear(ruling);
        }
    }

    private static void noOrderHangs() {
        check.promise("A word has no value if no order hangs for it");
        NailedOrders door = Check.door(1);
        check.dueFloat("value(0)", door.value(0), Float.NaN);
        Check.nail(door, 0, 0, 1.0f);
        check.dueFloat("one hangs", door.value(0), 1.0f);
        door.tear(0);
        check.dueFloat("one was torn off", door.value(0), Float.NaN);
        Check.nail(door, 0, 0, 1.0f);
        door.storm(ONE);
        check.dueFloat("one fell", door.value(0), Float.NaN);
        check.due("count(6): words for which an order hangs", door.count(6), 0);
    }

    private static void linksToAWordThatHasNone() {
        check.promise("or if its links come to a word that has none");
        NailedOrders door = Check.door(1);
        for (int word = 0; word < 15; word++) {
            Check.link(door, 0, word, word + 1, 0.0f, 1.0f);
        }
        for (int word = 0; word < 16; word++) {
            check.dueFloat("value(" + word + ")", door.value(word), Float.NaN);
        }
        check.due("count(6)", door.count(6), 15);
        Check.nail(door, 0, 15, 1.0f);
        check.due("count(5) with an end", door.count(5), 16);
        check.dueFloat("value(0) with an end, fifteen links away", door.value(0), 1.0f);
    }

    /** Rings of two words to all sixteen; those outside link into them. */
    private static void rings() {
        check.promise("or come to a ring of words");
        for (int size = 2; size <= 16; size++) {
            NailedOrders door = Check.door(1);
            for (int word = 0; word < 16; word++) {
                Check.link(door, 0, word, word == 0 ? size - 1 : word - 1, 1.0f, 0.0f);
            }
            for (int word = 0; word < 16; word++) {
                check.dueFloat("value(" + word + ") at a ring of " + size, door.value(word), Float.NaN);
                check.due("word(" + word + ", 6) at a ring of " + size, door.word(word, 6), NONE);
                int ring = (1 << size) - 1;
                int outside = 0xffff & ~((2 << word) - 1);
                int dependents = word < size ? ring | 0xffff & ~ring : outside;
                check.due("word(" + word + ", 5) at a ring of " + size, door.word(word, 5), dependents);
                check.due("reason(" + word + ", 16) at a ring of " + size, door.reason(word, 16), after16(word, size));
            }
            check.due("count(8)", door.count(8), size);
            check.due("count(5)", door.count(5), 0);
            check.due("count(6)", door.count(6), 16);
            check.due("changesWithout(0): the ring is open, but has no end", door.changesWithout(0), 0);
            Check.nail(door, 0, 0, 1.0f);
            check.due("count(5): the ring has an end", door.count(5), 16);
        }
    }

    private static int after16(int word, int size) {
        int reached = word;
        for (int link = 0; link < 16; link++) {
            reached = reached == 0 ? size - 1 : reached - 1;
        }
        return reached;
    }

    private static void rangeOfValues() {
        check.promise("one whose value would not be from -1000000000.0f to 1000000000.0f");
        for (float sign : new float[] {1.0f, -1.0f}) {
            NailedOrders door = Check.door(1, 2);
            Check.nail(door, 0, 0, 1000.0f);
            Check.link(door, 0, 1, 0, 1000.0f, 0.0f);
            Check.link(door, 0, 2, 1, sign * 1000.0f, 0.0f);
            float limit = sign * 1000000000.0f;
            check.dueFloat("at the limit", door.value(2), limit);
            int least = Check.link(door, 0, 3, 2, 1.0f, sign * 32.0f);
            check.dueFloat("half a step over it, rounded to it", door.value(3), limit);
            int over = Check.link(door, 0, 4, 2, 1.0f, Math.nextUp(32.0f) * sign);
            check.dueTrue("the next float", limit + Math.nextUp(32.0f) * sign == limit + sign * 64.0f);
            check.dueFloat("one step over it", door.value(4), Float.NaN);
            check.dueFloat("its order", door.valueOf(over), Float.NaN);
            check.dueFloat("the order at it", door.valueOf(least), limit);
            check.due("word(4, 3)", door.word(4, 3), 0);
            check.due("word(4, 0): it rules still", door.word(4, 0), over);
            check.due("count(6)", door.count(6), 1);
            Check.link(door, 0, 5, 4, 0.0f, 1.0f);
            check.dueFloat("a word that links to it", door.value(5), Float.NaN);
            Check.link(door, 0, 6, 2, 1.0f, -sign * 64.0f);
            check.dueFloat("one step before the limit", door.value(6), limit - sign * 64.0f);
            Check.link(door, 0, 7, 2, 1000.0f, sign * -1000.0f);
            check.dueFloat("far over it", door.value(7), Float.NaN);
            Check.link(door, 1, 3, 4, 1.0f, 1.0f);
            check.dueFloat("another order takes the value away", door.value(3), Float.NaN);
            check.dueFloat("the order beneath has its own still", door.valueOf(least), limit);
        }
    }

    private static void differ() {
        check.promise("Two values differ if |one - other| is greater than the tolerance");
        float[] tolerances = {Float.MIN_VALUE, 0.1f, 1.0f, 99.0f, 100.0f};
        for (float tolerance : tolerances) {
            NailedOrders door = Check.door(1, 1);
            Check.nail(door, 0, 0, 0.0f);
            Check.nail(door, 1, 0, tolerance);
            Check.nail(door, 0, 1, 0.0f);
            Check.nail(door, 1, 1, Math.nextUp(tolerance));
            Check.nail(door, 0, 2, -0.0f);
            Check.nail(door, 1, 2, 0.0f);
            check.due("0.0f and -0.0f at the tolerance 0.0f", door.word(2, 4), NONE);
            door.setTolerance(Check.bits(tolerance));
            check.due("as far as the tolerance " + tolerance, door.word(0, 4), NONE);
            check.due("just farther than " + tolerance, door.word(1, 4), 2);
            check.due("count(7)", door.count(7), 1);
            check.due("changesWithout(1)", door.changesWithout(1), 0);
            check.due("changesWithout(3)", door.changesWithout(3), 1);
        }
        check.promise("or if just one of both is there");
        NailedOrders door = Check.door(1, 1);
        Check.nail(door, 0, 0, 0.0f);
        Check.link(door, 1, 0, 9, 1.0f, 0.0f);
        Check.link(door, 0, 1, 9, 1.0f, 0.0f);
        Check.nail(door, 1, 1, 0.0f);
        Check.link(door, 0, 2, 9, 1.0f, 0.0f);
        Check.link(door, 1, 2, 8, 1.0f, 0.0f);
        door.setTolerance(Check.bits(100.0f));
        check.due("the ruling one has none", door.word(0, 4), 0);
        check.due("the other one has none", door.word(1, 4), 2);
        check.due("none of both is there", door.word(2, 4), NONE);
        check.due("changesWithout(1), a value comes", door.changesWithout(1), 1);
        check.due("changesWithout(3), a value goes", door.changesWithout(3), 1);
        check.due("changesWithout(5), none before and after", door.changesWithout(5), 0);
    }

    private static void toleranceAtFirst() {
        check.promise("the tolerance (from 0.0f to 100.0f, at first 0.0f)");
        NailedOrders door = Check.door(1, 1);
        check.due("count(10)", door.count(10), 0);
        Check.nail(door, 0, 0, 0.0f);
        Check.nail(door, 1, 0, Float.MIN_VALUE);
        check.due("the least difference", door.word(0, 4), 0);
        check.due("setTolerance(100.0f)", door.setTolerance(Check.bits(100.0f)), 1);
        check.due("setTolerance(0.0f)", door.setTolerance(0), 1);
        check.due("setTolerance(next over 100.0f)", door.setTolerance(Check.bits(Math.nextUp(100.0f))), NailedOrders.BAD_VALUE);
        check.due("setTolerance(next under 0.0f)", door.setTolerance(Check.bits(-Float.MIN_VALUE)), NailedOrders.BAD_VALUE);
    }

    // ---- conflicts

    private static void conflicts() {
        check.promise("A word is in conflict if an order that hangs for it and does not rule it ..");
        NailedOrders door = Check.door(3, 3, 2, 4);
        Check.nail(door, 0, 0, 1.0f);
        check.due("one alone", door.word(0, 4), NONE);
        Check.nail(door, 0, 0, 2.0f);
        check.due("by the same person", door.word(0, 4), NONE);
        Check.nail(door, 2, 0, 3.0f);
        check.due("of a lesser rank", door.word(0, 4), NONE);
        Check.nail(door, 1, 0, 2.0f);
        check.due("of the same value as the topmost other", door.word(0, 4), 0);
        Check.nail(door, 1, 0, 1.0f);
        check.due("the topmost of that rank differs", door.word(0, 4), 1);
        check.due("count(7)", door.count(7), 1);
        door.tear(1);
        check.due("the rest has the same value", door.word(0, 4), NONE);
        check.due("count(7): of words that are in none", door.count(7), 0);
        Check.nail(door, 1, 0, 7.0f);
        check.due("beneath several", door.word(0, 4), 0);
        Check.nail(door, 3, 0, 9.0f);
        check.due("of a greater rank rules, and is alone", door.word(0, 4), NONE);
        door.setRank(3, 3);
        check.due("the same rank now", door.word(0, 4), 5);
        door.tear(5);
        door.tear(4);
        door.tear(3);
        check.due("one that was torn off is none", door.word(0, 4), 0);
    }

    // ---- storms

    private static void storms() {
        check.promise("loses force / (1 + the number of orders over it) of its strength (as all hang before the storm)");
        NailedOrders door = Check.door(1, 5);
        for (int order = 0; order < 24; order++) {
            door.nail(order % 2, 6, ONE, Check.bits(order == 20 ? 0.1f : 10.0f));
        }
        check.due("one falls", door.storm(ONE), 1);
        for (int order = 0; order < 24; order++) {
            float strength = order == 20 ? 0.1f : 10.0f;
            check.dueFloat("real(" + order + ", 2)", door.real(order, 2), strength - 1.0f / (24 - order));
        }
        door.storm(ONE);
        check.dueFloat("beneath the one that fell", door.real(19, 2), 10.0f - 1.0f / 5.0f - 1.0f / 4.0f);
        check.dueFloat("the one that fell", door.real(20, 2), 0.1f - 1.0f / 4.0f);

        NailedOrders apart = Check.door(1);
        for (int word = 0; word < 16; word++) {
            apart.nail(0, word, ONE, Check.bits(10.0f));
        }
        apart.storm(Check.bits(9.5f));
        for (int word = 0; word < 16; word++) {
            check.due("nothing covers " + word, apart.order(word, 6), 50);
        }
    }

    private static void fall() {
        check.promise("Those whose strength is not greater than 0.0f then fall");
        NailedOrders door = Check.door(1);
        door.nail(0, 0, ONE, Check.bits(2.5f));
        door.nail(0, 1, ONE, Check.bits(Math.nextUp(2.5f)));
        door.nail(0, 2, ONE, Check.bits(Math.nextDown(2.5f)));
        check.due("storm(2.5f)", door.storm(Check.bits(2.5f)), 2);
        check.due("at 0.0f", door.order(0, 3), 0);
        check.dueFloat("its strength", door.real(0, 2), 0.0f);
        check.due("just over 0.0f", door.order(1, 3), 1);
        check.dueFloat("its strength", door.real(1, 2), Math.nextUp(2.5f) - 2.5f);
        check.due("just beneath 0.0f", door.order(2, 3), 0);
        check.dueFloat("its strength", door.real(2, 2), Math.nextDown(2.5f) - 2.5f);
        check.due("count(3)", door.count(3), 2);
        check.due("count(4)", door.count(4), 0);
        check.due("a storm more", door.storm(TENTH), 1);
        check.dueFloat("those that fell lose no more", door.real(0, 2), 0.0f);

        NailedOrders all = Check.door(1);
        for (int order = 0; order < 24; order++) {
            all.nail(0, order % 16, ONE, TENTH);
        }
        check.due("all 24 fall", all.storm(Check.bits(10.0f)), 24);
        check.due("count(2)", all.count(2), 0);
        check.due("a storm over none", all.storm(Check.bits(10.0f)), 0);
        check.due("count(9)", all.count(9), 2);
        check.promise("and let those beneath rule");
        NailedOrders beneath = Check.door(1, 5);
        Check.nail(beneath, 0, 0, 7.0f);
        beneath.nail(1, 0, Check.bits(8.0f), TENTH);
        check.dueFloat("before", beneath.value(0), 8.0f);
        beneath.storm(TENTH);
        check.dueFloat("after", beneath.value(0), 7.0f);
    }

    // ---- history

    private static void history() {
        check.promise("A history of at most 4 states is kept; when one more is recorded, the oldest one is dropped");
        NailedOrders door = new NailedOrders();
        check.due("count(11) at first", door.count(11), 0);
        for (int person = 0; person < 6; person++) {
            door.addPerson(1);
            check.due("count(11) after " + (person + 1), door.count(11), Math.min(person + 1, 4));
        }
        for (int left = 3; left >= 0; left--) {
            check.due("undo()", door.undo(), left);
            check.due("count(0)", door.count(0), left + 2);
            check.due("count(11)", door.count(11), left);
        }
        check.due("undo() of the two that were dropped", door.undo(), NONE);
        check.due("count(0)", door.count(0), 2);
        for (int round = 0; round < 9; round++) {
            door.addPerson(2);
            door.addPerson(3);
            check.due("round and round", door.undo(), 1);
            check.due("count(0)", door.count(0), 3);
            check.due("and back", door.undo(), 0);
            check.due("count(0)", door.count(0), 2);
        }
    }

    private static void snapshot() {
        check.promise("There is one snapshot, empty at first");
        NailedOrders door = Check.door(1);
        check.due("restore()", door.restore(), NONE);
        Check.nail(door, 0, 0, 1.0f);
        door.keep();
        Check.nail(door, 0, 0, 2.0f);
        door.keep();
        Check.nail(door, 0, 0, 3.0f);
        check.due("the latest alone", door.restore(), 2);
        check.due("and it stays", door.restore(), 2);
        for (int left = 3; left >= 0; left--) {
            door.undo();
        }
        check.due("undo() does not take it away", door.restore(), 2);
    }

    private static void whatIsNoState() {
        check.promise("A state is everything but the text, the history and the snapshot");
        NailedOrders door = Check.door(1);
        Check.type(door, "ab");
        door.keep();
        Check.type(door, "cd");
        Check.nail(door, 0, 0, 1.0f);
        door.type('e');
        door.undo();
        check.due("count(12) after undo()", door.count(12), 5);
        door.restore();
        check.due("count(12) after restore()", door.count(12), 5);
        check.due("count(11): restore() brings no history", door.count(11), 2);
        door.keep();
        door.undo();
        check.due("undo() brings no snapshot: it is the latest still", door.restore(), 0);
        check.due("count(0)", door.count(0), 1);
    }
}
