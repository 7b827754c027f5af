/** Promises 5 to 9. */
public final class NailsTest {
    private static final Check check = new Check();

    private static final int ONE = Check.bits(1.0f);

    private static final int[] NO_NUMBERS = {
        Check.bits(Math.nextUp(1000.0f)), Check.bits(Math.nextDown(-1000.0f)), Check.bits(Float.NaN), 0x7f800001, -1,
        Check.bits(Float.POSITIVE_INFINITY), Check.bits(Float.NEGATIVE_INFINITY), 0x7f7fffff, 0xff7fffff, 0xffffffff,
    };

    private static final int[] NO_STRENGTHS = {
        Check.bits(Math.nextDown(0.1f)), Check.bits(Math.nextUp(10.0f)), Check.bits(Float.NaN), 0, Check.bits(-0.0f),
        Check.bits(-1.0f), Check.bits(Float.POSITIVE_INFINITY), Check.bits(Float.NEGATIVE_INFINITY), 1, 0x7fffffff,
    };

    private static final float[] NUMBERS = {
        0.0f, -0.0f, 1000.0f, -1000.0f, 0.1f, -0.1f, 3.1415927f, Float.MIN_VALUE, -Float.MIN_VALUE, Float.MIN_NORMAL,
        Math.nextDown(Float.MIN_NORMAL), 999.9999f, 1.0f, 1.1754942E-38f, 512.0f, 1.0E-20f,
    };

    public static void main(String[] args) {
        nail();
        nailLink();
        full();
        tear();
        hammer();
        storm();
        check.end();
    }

    private static void nail() {
        check.promise("5, nail");
        NailedOrders door = Check.door(1, 2);
        check.due("no such person", door.nail(2, 0, ONE, ONE), NailedOrders.UNKNOWN);
        check.due("person -1", door.nail(-1, 0, ONE, ONE), NailedOrders.UNKNOWN);
        check.due("word -1", door.nail(0, -1, ONE, ONE), NailedOrders.UNKNOWN);
        check.due("word 16", door.nail(0, 16, -1, -1), NailedOrders.UNKNOWN);
        for (int bits : NO_NUMBERS) {
            check.due("nail(0, 0, " + bits + ", 1)", door.nail(0, 0, bits, ONE), NailedOrders.BAD_VALUE);
        }
        for (int bits : NO_STRENGTHS) {
            check.due("nail(0, 0, 1, " + bits + ")", door.nail(0, 0, ONE, bits), NailedOrders.BAD_VALUE);
        }
        check.due("count(1) after errors", door.count(1), 0);
        check.due("count(11) after errors", door.count(11), 2);
        int order = 0;
        for (float number : NUMBERS) {
            check.due("nail " + number, door.nail(order % 2, order % 16, Check.bits(number), ONE), order);
            check.dueFloat("its number", door.real(order, 0), number);
            check.dueFloat("its factor", door.real(order, 1), 1.0f);
            check.due("its person", door.order(order, 0), order % 2);
            check.due("its word", door.order(order, 1), order % 16);
            check.due("its link", door.order(order, 2), NailedOrders.NONE);
            check.dueFloat("its word's value", door.value(order % 16), number);
            order++;
        }
        float[] strengths = {0.1f, 10.0f, Math.nextUp(0.1f), Math.nextDown(10.0f), 5.0f};
        for (float strength : strengths) {
            check.due("nail with " + strength, door.nail(1, 15, ONE, Check.bits(strength)), order);
            check.dueFloat("its strength", door.real(order, 2), strength);
            order++;
        }
        check.due("word(15, 2)", door.word(15, 2), 6);
        check.due("the topmost", door.word(15, 1), order - 1);
    }

    private static void nailLink() {
        check.promise("6, nailLink");
        NailedOrders door = Check.door(1);
        check.due("no such person", door.nailLink(1, 0, 1, ONE, ONE, ONE), NailedOrders.UNKNOWN);
        check.due("word 16", door.nailLink(0, 16, 1, ONE, ONE, ONE), NailedOrders.UNKNOWN);
        check.due("word -1", door.nailLink(0, -1, 1, ONE, ONE, ONE), NailedOrders.UNKNOWN);
        check.due("other 16", door.nailLink(0, 1, 16, ONE, ONE, ONE), NailedOrders.UNKNOWN);
        check.due("other -1", door.nailLink(0, 1, -1, ONE, -1, ONE), NailedOrders.UNKNOWN);
        check.due("both 16", door.nailLink(0, 16, 16, ONE, ONE, ONE), NailedOrders.UNKNOWN);
        check.due("both the same", door.nailLink(0, 3, 3, ONE, ONE, ONE), NailedOrders.BAD_VALUE);
        for (int bits : NO_NUMBERS) {
            check.due("factor " + bits, door.nailLink(0, 0, 1, bits, ONE, ONE), NailedOrders.BAD_VALUE);
            check.due("number " + bits, door.nailLink(0, 0, 1, ONE, bits, ONE), NailedOrders.BAD_VALUE);
        }
        for (int bits : NO_STRENGTHS) {
            check.due("strength " + bits, door.nailLink(0, 0, 1, ONE, ONE, bits), NailedOrders.BAD_VALUE);
        }
        check.due("count(11) after errors", door.count(11), 1);
        check.due("a link to nothing", door.nailLink(0, 0, 1, Check.bits(-0.0f), Check.bits(-1000.0f), Check.bits(10.0f)), 0);
        check.dueFloat("its factor", door.real(0, 1), -0.0f);
        check.dueFloat("its number", door.real(0, 0), -1000.0f);
        check.dueFloat("its strength", door.real(0, 2), 10.0f);
        check.due("its link", door.order(0, 2), 1);
        check.dueFloat("value(0)", door.value(0), Float.NaN);
        Check.nail(door, 0, 1, 7.0f);
        check.dueFloat("value(0) with an end", door.value(0), -1000.0f);
        Check.link(door, 0, 15, 0, 0.1f, 0.7f);
        check.dueFloat("value(15), rounded twice", door.value(15), -1000.0f * 0.1f + 0.7f);
    }

    private static void full() {
        check.promise("5 and 6, room");
        NailedOrders door = Check.door(1);
        for (int order = 0; order < 24; order++) {
            check.due("nail", Check.nail(door, 0, order % 3, order), order);
        }
        check.due("a 25th", Check.nail(door, 0, 0, 1.0f), NailedOrders.FULL);
        check.due("a 25th that is a link", Check.link(door, 0, 0, 1, 1.0f, 1.0f), NailedOrders.FULL);
        check.due("a 25th of no number", door.nail(0, 0, -1, ONE), NailedOrders.BAD_VALUE);
        check.due("a 25th that links to itself", Check.link(door, 0, 1, 1, 1.0f, 1.0f), NailedOrders.BAD_VALUE);
        check.due("a 25th by nobody", door.nail(1, 0, ONE, ONE), NailedOrders.UNKNOWN);
        for (int order = 24; order < 40; order++) {
            door.tear(order - 24);
            check.due("one torn, one nailed", Check.link(door, 0, 4, 5, 1.0f, 1.0f), order);
        }
        for (int order = 0; order < 40; order++) {
            door.tear(order);
        }
        check.due("count(2)", door.count(2), 0);
        check.due("a 41st", Check.nail(door, 0, 0, 1.0f), NailedOrders.FULL);
        check.due("a 41st that is a link", Check.link(door, 0, 0, 1, 1.0f, 1.0f), NailedOrders.FULL);
        check.due("count(1)", door.count(1), 40);
    }

    private static void tear() {
        check.promise("7, tear");
        NailedOrders door = Check.door(1);
        Check.nail(door, 0, 4, 1.0f);
        Check.nail(door, 0, 4, 2.0f);
        Check.nail(door, 0, 5, 3.0f);
        door.keep();
        check.due("tear(3)", door.tear(3), NailedOrders.UNKNOWN);
        check.due("tear(-1)", door.tear(-1), NailedOrders.UNKNOWN);
        check.due("tear(0)", door.tear(0), 1);
        check.due("order(0, 3)", door.order(0, 3), 0);
        check.due("order(0, 6)", door.order(0, 6), 100);
        check.dueFloat("value(4)", door.value(4), 2.0f);
        check.due("tear(0) again", door.tear(0), NailedOrders.NONE);
        check.due("count(11)", door.count(11), 4);
        check.due("undo() of the one that was torn", door.undo(), 3);
        check.due("order(0, 3) then", door.order(0, 3), 1);
        check.due("tear(1)", door.tear(1), 1);
        check.dueFloat("value(4), that beneath rules", door.value(4), 1.0f);
        check.due("tear(0), the last", door.tear(0), 0);
        check.dueFloat("value(4), none hangs", door.value(4), Float.NaN);
        check.due("count(4)", door.count(4), 2);
        check.due("count(3)", door.count(3), 0);
    }

    private static void hammer() {
        check.promise("8, hammer");
        NailedOrders door = Check.door(1);
        check.due("hammer(0), none there", door.hammer(0), NailedOrders.UNKNOWN);
        check.due("hammer(-1)", door.hammer(-1), NailedOrders.UNKNOWN);
        float strength = 0.1f;
        door.nail(0, 0, ONE, Check.bits(strength));
        for (int time = 0; time < 40; time++) {
            strength = strength + (10.0f - strength) * 0.5f;
            check.due("hammer(0)", door.hammer(0), (int) (strength * 100.0f));
            check.dueFloat("real(0, 2)", door.real(0, 2), strength);
        }
        check.due("count(11)", door.count(11), 4);
        door.nail(0, 1, ONE, Check.bits(10.0f));
        check.due("hammer(1) that is in", door.hammer(1), 1000);
        check.due("undo() of that", door.undo(), 3);
        check.due("order(1, 3)", door.order(1, 3), 1);
        door.tear(1);
        check.due("hammer(1) that is torn off", door.hammer(1), NailedOrders.NOT_POSSIBLE);
        check.due("hammer(2)", door.hammer(2), NailedOrders.UNKNOWN);
    }

    private static void storm() {
        check.promise("9, storm");
        NailedOrders door = Check.door(1);
        for (int bits : NO_STRENGTHS) {
            check.due("storm(" + bits + ")", door.storm(bits), NailedOrders.BAD_VALUE);
        }
        check.due("count(9)", door.count(9), 0);
        check.due("storm(0.1f) over nothing", door.storm(Check.bits(0.1f)), 0);
        check.due("count(9)", door.count(9), 1);
        check.due("count(11)", door.count(11), 2);
        door.nail(0, 2, ONE, Check.bits(3.0f));
        door.nail(0, 2, ONE, Check.bits(5.0f));
        door.nail(0, 3, ONE, Check.bits(10.0f));
        door.nail(0, 2, ONE, Check.bits(9.0f));
        check.due("storm(9.0f)", door.storm(Check.bits(9.0f)), 2);
        check.dueFloat("beneath two, at 0.0f", door.real(0, 2), 3.0f - 9.0f / 3.0f);
        check.due("order(0, 3)", door.order(0, 3), 0);
        check.dueFloat("beneath one", door.real(1, 2), 5.0f - 9.0f / 2.0f);
        check.due("order(1, 3)", door.order(1, 3), 1);
        check.dueFloat("of another word", door.real(2, 2), 1.0f);
        check.due("order(3, 3)", door.order(3, 3), 0);
        check.due("count(3)", door.count(3), 2);
        check.due("storm(10.0f)", door.storm(Check.bits(10.0f)), 2);
        check.due("order(1, 6), as it was when it fell", door.order(1, 6), -950);
        check.due("order(2, 6)", door.order(2, 6), -900);
        check.due("count(3)", door.count(3), 4);
        check.due("count(9)", door.count(9), 3);
        check.due("undo()", door.undo(), 3);
        check.due("count(9) then", door.count(9), 2);
        check.due("order(1, 6) then", door.order(1, 6), 50);

        NailedOrders rounded = Check.door(1);
        rounded.nail(0, 2, ONE, Check.bits(0.7f));
        rounded.nail(0, 2, ONE, Check.bits(0.9f));
        rounded.nail(0, 2, ONE, Check.bits(9.9f));
        rounded.storm(Check.bits(0.4f));
        check.dueFloat("rounded beneath two", rounded.real(0, 2), 0.7f - 0.4f / 3.0f);
        check.dueFloat("rounded beneath one", rounded.real(1, 2), 0.9f - 0.4f / 2.0f);
        check.dueFloat("rounded, topmost", rounded.real(2, 2), 9.9f - 0.4f);
    }
}
