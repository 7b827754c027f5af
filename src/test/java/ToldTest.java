import java.util.ArrayList;
import java.util.List;

/** Promises 16 to 26. */
public final class ToldTest {
    private static final Check check = new Check();

    private static final int ONE = Check.bits(1.0f);

    public static void main(String[] args) {
        value();
        limitsOfValues();
        valueOf();
        word();
        conflicts();
        dependents();
        hangsAt();
        order();
        real();
        reason();
        changesWithout();
        stormsLeft();
        person();
        count();
        check.end();
    }

    private static void value() {
        check.promise("16, value");
        NailedOrders door = Check.door(2, 2, 3);
        check.dueFloat("value(-1)", door.value(-1), Float.NaN);
        check.dueFloat("value(16)", door.value(16), Float.NaN);
        check.dueFloat("value(min)", door.value(Integer.MIN_VALUE), Float.NaN);
        Check.nail(door, 0, 0, 0.1f);
        Check.link(door, 0, 1, 0, 0.3f, 0.7f);
        Check.link(door, 0, 2, 1, -3.3f, 1.1f);
        float first = 0.1f * 0.3f + 0.7f;
        check.dueFloat("value(1)", door.value(1), first);
        check.dueFloat("value(2)", door.value(2), first * -3.3f + 1.1f);
        for (int word = 3; word < 16; word++) {
            Check.link(door, 0, word, word - 1, 1.0f, 1.0f);
        }
        float last = first * -3.3f + 1.1f;
        for (int word = 3; word < 16; word++) {
            last = last * 1.0f + 1.0f;
        }
        check.dueFloat("value(15), at the end of fifteen links", door.value(15), last);
        Check.link(door, 2, 0, 15, 1.0f, 0.0f);
        check.dueFloat("value(15) in a ring of all", door.value(15), Float.NaN);
        check.due("count(8)", door.count(8), 16);
        door.setRank(2, 1);
        check.dueFloat("value(15), as the ring is open", door.value(15), last);
        Check.nail(door, 1, 0, -0.0f);
        check.dueFloat("value(0)", door.value(0), -0.0f);
    }

    private static void limitsOfValues() {
        check.promise("16, value: limits");
        NailedOrders door = Check.door(1);
        Check.nail(door, 0, 0, 1000.0f);
        Check.link(door, 0, 1, 0, 1000.0f, 0.0f);
        Check.link(door, 0, 2, 1, 1000.0f, 0.0f);
        check.dueFloat("value(2) at the limit", door.value(2), 1000000000.0f);
        int over = Check.link(door, 0, 3, 2, 1.0f, 100.0f);
        Check.link(door, 0, 4, 3, 0.0f, 1.0f);
        check.dueFloat("value(3) over it", door.value(3), Float.NaN);
        check.dueFloat("valueOf(3)", door.valueOf(over), Float.NaN);
        check.dueFloat("value(4) by a word without value", door.value(4), Float.NaN);
        check.due("word(3, 3)", door.word(3, 3), 0);
        check.due("word(4, 6)", door.word(4, 6), 4);
        Check.link(door, 0, 5, 2, -1.0f, 0.0f);
        check.dueFloat("value(5) at the other limit", door.value(5), -1000000000.0f);
        Check.link(door, 0, 6, 2, -1.0f, -100.0f);
        check.dueFloat("value(6) over it", door.value(6), Float.NaN);
        Check.link(door, 0, 7, 2, 1.0f, 1.0f);
        check.dueFloat("value(7), rounded to the limit", door.value(7), 1000000000.0f);
    }

    private static void valueOf() {
        check.promise("17, valueOf");
        NailedOrders door = Check.door(1, 5);
        check.dueFloat("valueOf(0)", door.valueOf(0), Float.NaN);
        check.dueFloat("valueOf(-1)", door.valueOf(-1), Float.NaN);
        Check.nail(door, 0, 0, 4.0f);
        Check.link(door, 0, 1, 0, 2.0f, 1.0f);
        Check.nail(door, 1, 1, 3.0f);
        check.dueFloat("one that does not rule", door.valueOf(1), 9.0f);
        door.tear(1);
        check.dueFloat("one that does not hang", door.valueOf(1), 9.0f);
        Check.nail(door, 0, 0, 5.0f);
        check.dueFloat("by the values that are now", door.valueOf(1), 11.0f);
        door.tear(0);
        check.dueFloat("a fixed one that does not hang", door.valueOf(0), 4.0f);
        door.tear(3);
        check.dueFloat("to a word without value", door.valueOf(1), Float.NaN);
        check.dueFloat("valueOf(4)", door.valueOf(4), Float.NaN);
        Check.link(door, 0, 2, 3, 1.0f, 1.0f);
        Check.link(door, 0, 3, 2, 1.0f, 1.0f);
        check.dueFloat("in a ring", door.valueOf(4), Float.NaN);
        Check.nail(door, 1, 2, 1.0f);
        check.dueFloat("in a ring that is open", door.valueOf(4), 3.0f);
    }

    private static void word() {
        check.promise("18, word");
        NailedOrders door = Check.door(2, 3);
        check.due("word(-1, 0)", door.word(-1, 0), NailedOrders.UNKNOWN);
        check.due("word(16, 9)", door.word(16, 9), NailedOrders.UNKNOWN);
        check.due("word(0, -1)", door.word(0, -1), NailedOrders.BAD_VALUE);
        check.due("word(0, 7)", door.word(0, 7), NailedOrders.BAD_VALUE);
        int[] empty = {NailedOrders.NONE, NailedOrders.NONE, 0, 0, NailedOrders.NONE, 0, 0};
        for (int what = 0; what < empty.length; what++) {
            check.due("word(15, " + what + ")", door.word(15, what), empty[what]);
        }
        Check.nail(door, 1, 3, 1.0f);
        Check.nail(door, 0, 3, 2.0f);
        check.due("word(3, 0)", door.word(3, 0), 0);
        check.due("word(3, 1)", door.word(3, 1), 1);
        check.due("word(3, 2)", door.word(3, 2), 2);
        check.due("word(3, 3)", door.word(3, 3), 1);
        Check.nail(door, 1, 3, 3.0f);
        check.due("word(3, 0), the topmost of that rank", door.word(3, 0), 2);
        check.due("word(3, 6)", door.word(3, 6), 0);
        Check.link(door, 0, 4, 9, 1.0f, 0.0f);
        check.due("word(4, 6) to a word for which none hangs", door.word(4, 6), 1);
        check.due("word(4, 3)", door.word(4, 3), 0);
        Check.link(door, 0, 5, 4, 1.0f, 0.0f);
        Check.link(door, 0, 9, 5, 1.0f, 0.0f);
        Check.link(door, 0, 6, 4, 1.0f, 0.0f);
        check.due("word(4, 6) in a ring", door.word(4, 6), NailedOrders.NONE);
        check.due("word(6, 6) to a ring", door.word(6, 6), NailedOrders.NONE);
    }

    private static void conflicts() {
        check.promise("18, word: conflicts");
        NailedOrders door = Check.door(2, 2, 2, 1);
        Check.nail(door, 0, 0, 1.0f);
        Check.nail(door, 1, 0, 1.0f);
        check.due("equal values", door.word(0, 4), NailedOrders.NONE);
        Check.nail(door, 2, 0, 2.0f);
        check.due("the topmost of two", door.word(0, 4), 1);
        door.tear(1);
        check.due("the other one", door.word(0, 4), 0);
        door.setRank(0, 1);
        check.due("no equal", door.word(0, 4), NailedOrders.NONE);
        Check.nail(door, 2, 1, 1.0f);
        Check.nail(door, 2, 1, 2.0f);
        check.due("by the same person", door.word(1, 4), NailedOrders.NONE);
        Check.nail(door, 3, 1, 3.0f);
        check.due("word(1, 0)", door.word(1, 0), 4);
        check.due("one over it of a lesser rank", door.word(1, 4), NailedOrders.NONE);
        door.setRank(3, 2);
        check.due("word(1, 0), then", door.word(1, 0), 5);
        check.due("word(1, 4), then", door.word(1, 4), 4);
        Check.nail(door, 1, 7, 5.0f);
        Check.link(door, 2, 7, 8, 1.0f, 1.0f);
        check.due("just one has a value", door.word(7, 4), 6);
        door.setTolerance(Check.bits(100.0f));
        check.due("just one has a value, at any tolerance", door.word(7, 4), 6);
        check.due("word(1, 4), within the tolerance", door.word(1, 4), NailedOrders.NONE);
        check.due("count(7)", door.count(7), 1);
        Check.link(door, 0, 10, 11, 1.0f, 1.0f);
        Check.link(door, 3, 10, 12, 1.0f, 1.0f);
        door.setRank(0, 2);
        check.due("none of both has a value", door.word(10, 4), NailedOrders.NONE);
    }

    private static void dependents() {
        check.promise("18, word: dependents");
        NailedOrders door = Check.door(2, 3);
        Check.nail(door, 0, 0, 1.0f);
        Check.link(door, 0, 1, 0, 1.0f, 1.0f);
        Check.link(door, 0, 2, 1, 1.0f, 1.0f);
        Check.link(door, 0, 15, 1, 1.0f, 1.0f);
        check.due("word(0, 5)", door.word(0, 5), 1 << 1 | 1 << 2 | 1 << 15);
        check.due("word(1, 5)", door.word(1, 5), 1 << 2 | 1 << 15);
        check.due("word(2, 5)", door.word(2, 5), 0);
        check.due("word(2, 6)", door.word(2, 6), 2);
        Check.link(door, 0, 0, 2, 1.0f, 1.0f);
        check.due("word(0, 5) in a ring", door.word(0, 5), 7 | 1 << 15);
        check.due("word(15, 5) beside the ring", door.word(15, 5), 0);
        check.due("count(8)", door.count(8), 3);
        Check.link(door, 0, 3, 12, 1.0f, 1.0f);
        check.due("word(12, 5), for which none hangs", door.word(12, 5), 8);
        Check.nail(door, 1, 3, 1.0f);
        check.due("word(12, 5) by ruling orders alone", door.word(12, 5), 0);
    }

    private static void hangsAt() {
        check.promise("19, hangsAt");
        NailedOrders door = Check.door(2, 3);
        Check.nail(door, 1, 15, 1.0f);
        Check.nail(door, 0, 1, 1.0f);
        Check.nail(door, 0, 15, 1.0f);
        Check.nail(door, 0, 15, 1.0f);
        door.tear(2);
        check.due("hangsAt(15, 0)", door.hangsAt(15, 0), 3);
        check.due("hangsAt(15, 1)", door.hangsAt(15, 1), 0);
        check.due("hangsAt(15, 2)", door.hangsAt(15, 2), NailedOrders.NONE);
        check.due("hangsAt(15, max)", door.hangsAt(15, Integer.MAX_VALUE), NailedOrders.NONE);
        check.due("hangsAt(0, 0)", door.hangsAt(0, 0), NailedOrders.NONE);
        check.due("hangsAt(15, -1)", door.hangsAt(15, -1), NailedOrders.BAD_VALUE);
        check.due("hangsAt(15, min)", door.hangsAt(15, Integer.MIN_VALUE), NailedOrders.BAD_VALUE);
        check.due("hangsAt(16, -1)", door.hangsAt(16, -1), NailedOrders.UNKNOWN);
        check.due("hangsAt(-1, 0)", door.hangsAt(-1, 0), NailedOrders.UNKNOWN);
    }

    private static void order() {
        check.promise("20, order");
        NailedOrders door = Check.door(2, 3);
        check.due("order(0, 0)", door.order(0, 0), NailedOrders.UNKNOWN);
        Check.nail(door, 0, 6, 1.0f);
        door.nailLink(1, 6, 7, ONE, ONE, Check.bits(2.999f));
        Check.nail(door, 0, 5, 1.0f);
        Check.nail(door, 0, 6, 1.0f);
        int[][] due = {
            {0, 6, NailedOrders.NONE, 1, 2, 0, 100, 0},
            {1, 6, 7, 1, 1, 1, (int) (2.999f * 100.0f), 1},
            {0, 5, NailedOrders.NONE, 1, 0, 0, 100, 1},
            {0, 6, NailedOrders.NONE, 1, 0, 2, 100, 0},
        };
        for (int order = 0; order < due.length; order++) {
            for (int what = 0; what < 8; what++) {
                check.due("order(" + order + ", " + what + ")", door.order(order, what), due[order][what]);
            }
        }
        door.tear(1);
        int[] torn = {1, 6, 7, 0, NailedOrders.NONE, NailedOrders.NONE, (int) (2.999f * 100.0f), 0};
        for (int what = 0; what < 8; what++) {
            check.due("order(1, " + what + ") that is torn", door.order(1, what), torn[what]);
        }
        check.due("order(0, 4) then", door.order(0, 4), 1);
        check.due("order(3, 5) then", door.order(3, 5), 1);
        check.due("order(3, 7) then", door.order(3, 7), 1);
        check.due("order(0, 8)", door.order(0, 8), NailedOrders.BAD_VALUE);
        check.due("order(0, -1)", door.order(0, -1), NailedOrders.BAD_VALUE);
        check.due("order(4, 8)", door.order(4, 8), NailedOrders.UNKNOWN);
        check.due("order(-1, 0)", door.order(-1, 0), NailedOrders.UNKNOWN);
    }

    private static void real() {
        check.promise("21, real");
        NailedOrders door = Check.door(2);
        door.nailLink(0, 6, 7, Check.bits(-3.3f), Check.bits(1.0E-40f), Check.bits(2.999f));
        check.dueFloat("real(0, 0)", door.real(0, 0), 1.0E-40f);
        check.dueFloat("real(0, 1)", door.real(0, 1), -3.3f);
        check.dueFloat("real(0, 2)", door.real(0, 2), 2.999f);
        check.dueFloat("real(0, 3)", door.real(0, 3), Float.NaN);
        check.dueFloat("real(0, -1)", door.real(0, -1), Float.NaN);
        check.dueFloat("real(1, 0)", door.real(1, 0), Float.NaN);
        check.dueFloat("real(-1, 0)", door.real(-1, 0), Float.NaN);
        Check.nail(door, 0, 1, -0.0f);
        check.dueFloat("real(1, 0)", door.real(1, 0), -0.0f);
        check.dueFloat("real(1, 1)", door.real(1, 1), 1.0f);
        door.tear(0);
        check.dueFloat("real(0, 2) of one torn off", door.real(0, 2), 2.999f);
    }

    private static void reason() {
        check.promise("22, reason");
        NailedOrders door = Check.door(2);
        check.due("reason(0, 0)", door.reason(0, 0), NailedOrders.NONE);
        check.due("reason(-1, 0)", door.reason(-1, 0), NailedOrders.UNKNOWN);
        check.due("reason(16, -1)", door.reason(16, -1), NailedOrders.UNKNOWN);
        check.due("reason(0, -1)", door.reason(0, -1), NailedOrders.BAD_VALUE);
        check.due("reason(0, 17)", door.reason(0, 17), NailedOrders.BAD_VALUE);
        Check.link(door, 0, 0, 1, 1.0f, 1.0f);
        check.due("reason(0, 0)", door.reason(0, 0), 0);
        check.due("reason(0, 1): none hangs there", door.reason(0, 1), NailedOrders.NONE);
        Check.link(door, 0, 1, 2, 1.0f, 1.0f);
        Check.nail(door, 0, 2, 1.0f);
        check.due("reason(0, 1)", door.reason(0, 1), 1);
        check.due("reason(0, 2)", door.reason(0, 2), 2);
        check.due("reason(0, 3)", door.reason(0, 3), NailedOrders.NONE);
        check.due("reason(0, 16)", door.reason(0, 16), NailedOrders.NONE);
        Check.link(door, 0, 2, 0, 1.0f, 1.0f);
        int[] ring = {0, 1, 3};
        for (int step = 0; step <= 16; step++) {
            check.due("reason(0, " + step + ") in a ring", door.reason(0, step), ring[step % 3]);
        }
    }

    private static void changesWithout() {
        check.promise("23, changesWithout");
        NailedOrders door = Check.door(2, 3);
        check.due("changesWithout(0)", door.changesWithout(0), NailedOrders.UNKNOWN);
        check.due("changesWithout(-1)", door.changesWithout(-1), NailedOrders.UNKNOWN);
        Check.nail(door, 0, 0, 1.0f);
        Check.nail(door, 1, 0, 3.0f);
        Check.link(door, 0, 1, 0, 0.5f, 0.0f);
        Check.link(door, 0, 2, 1, 4.0f, 0.0f);
        check.due("changesWithout(0), it does not rule", door.changesWithout(0), 0);
        check.due("changesWithout(1)", door.changesWithout(1), 3);
        check.due("changesWithout(2)", door.changesWithout(2), 2);
        check.due("changesWithout(3)", door.changesWithout(3), 1);
        door.setTolerance(Check.bits(1.0f));
        check.due("changesWithout(1), one within the tolerance", door.changesWithout(1), 2);
        door.setTolerance(Check.bits(2.0f));
        check.due("changesWithout(1), two within it", door.changesWithout(1), 1);
        door.tear(0);
        check.due("changesWithout(0), torn off", door.changesWithout(0), NailedOrders.NONE);
        check.due("changesWithout(1), none is left", door.changesWithout(1), 3);
        check.due("it hangs still", door.order(1, 3), 1);
        Check.link(door, 1, 0, 2, 1.0f, 0.0f);
        check.due("count(5) with a ring", door.count(5), 0);
        check.due("changesWithout(4), which closes the ring", door.changesWithout(4), 3);
        check.due("changesWithout(3), as the rest has no value either", door.changesWithout(3), 0);
    }

    private static void stormsLeft() {
        check.promise("24, stormsLeft");
        NailedOrders door = Check.door(2);
        check.due("stormsLeft(0, 1.0f)", door.stormsLeft(0, ONE), NailedOrders.UNKNOWN);
        check.due("stormsLeft(-1, 0)", door.stormsLeft(-1, 0), NailedOrders.UNKNOWN);
        Check.nail(door, 0, 0, 1.0f);
        int[] bad = {0, Check.bits(Math.nextDown(0.1f)), Check.bits(Math.nextUp(10.0f)), -1, Check.bits(Float.NaN)};
        for (int bits : bad) {
            check.due("stormsLeft(0, " + bits + ")", door.stormsLeft(0, bits), NailedOrders.BAD_VALUE);
        }
        check.due("in the first", door.stormsLeft(0, ONE), 1);
        check.due("in the second", door.stormsLeft(0, Check.bits(0.5f)), 2);
        Check.nail(door, 0, 0, 1.0f);
        check.due("beneath one that falls", door.stormsLeft(0, ONE), 2);
        Check.nail(door, 0, 1, 1.0f);
        check.due("one of another word is no cover", door.stormsLeft(1, ONE), 1);
        int states = door.count(11);
        check.due("count(9)", door.count(9), 0);
        check.due("count(11)", door.count(11), states);
        door.tear(0);
        check.due("one that does not hang", door.stormsLeft(0, ONE), NailedOrders.NONE);
        check.due("one that does not hang, no force", door.stormsLeft(0, 0), NailedOrders.BAD_VALUE);
        limitOfStorms();
    }

    private static int stormsBeneath(int covers, float strength) {
        NailedOrders door = Check.door(2);
        door.nail(0, 0, ONE, Check.bits(strength));
        for (int i = 0; i < covers; i++) {
            door.nail(0, 0, ONE, Check.bits(10.0f));
        }
        return door.stormsLeft(0, Check.bits(0.1f));
    }

    /** Beneath three covers the strengths from 6.5f to 7.5f hold about 200 storms. */
    private static void limitOfStorms() {
        check.due("covered by 23", stormsBeneath(23, 10.0f), NailedOrders.NONE);
        boolean has200 = false;
        boolean has201 = false;
        for (float strength = 6.5f; strength < 7.5f; strength = strength + 0.01f) {
            int storms = stormsBeneathThree(strength);
            has200 |= storms == 200;
            has201 |= storms == 201;
            check.due("beneath three, " + strength, stormsBeneath(3, strength), storms <= 200 ? storms : NailedOrders.NONE);
        }
        check.dueTrue("some fall in the 200th storm", has200);
        check.dueTrue("some fall in the 201st storm", has201);
    }

    /** The stack from the topmost on, reckoned without the class. */
    private static int stormsBeneathThree(float strength) {
        List<Float> stack = new ArrayList<>(List.of(10.0f, 10.0f, 10.0f, strength));
        for (int storms = 1; ; storms++) {
            for (int place = 0; place < stack.size(); place++) {
                stack.set(place, stack.get(place) - 0.1f / (1 + place));
            }
            if (!(stack.get(stack.size() - 1) > 0.0f)) {
                return storms;
            }
            stack.removeIf(left -> !(left > 0.0f));
        }
    }

    private static void person() {
        check.promise("25, person");
        NailedOrders door = Check.door(2, 3, 1);
        Check.nail(door, 0, 0, 1.0f);
        Check.nail(door, 0, 15, 1.0f);
        Check.nail(door, 1, 0, 1.0f);
        Check.nail(door, 0, 7, 1.0f);
        Check.nail(door, 1, 9, 1.0f);
        door.tear(3);
        int[][] due = {{2, 3, 2, 1, 1 | 1 << 15}, {3, 2, 2, 2, 1 | 1 << 9}, {1, 0, 0, 0, 0}};
        for (int person = 0; person < due.length; person++) {
            for (int what = 0; what < 5; what++) {
                check.due("person(" + person + ", " + what + ")", door.person(person, what), due[person][what]);
            }
        }
        door.setRank(0, 5);
        check.due("person(0, 3), with the first order", door.person(0, 3), 2);
        check.due("person(1, 3), without it", door.person(1, 3), 1);
        check.due("person(0, 5)", door.person(0, 5), NailedOrders.BAD_VALUE);
        check.due("person(0, -1)", door.person(0, -1), NailedOrders.BAD_VALUE);
        check.due("person(3, 5)", door.person(3, 5), NailedOrders.UNKNOWN);
        check.due("person(-1, 0)", door.person(-1, 0), NailedOrders.UNKNOWN);
    }

    private static void count() {
        check.promise("26, count");
        NailedOrders door = Check.door(2, 2);
        check.due("count(-1)", door.count(-1), NailedOrders.BAD_VALUE);
        check.due("count(13)", door.count(13), NailedOrders.BAD_VALUE);
        check.due("count(max)", door.count(Integer.MAX_VALUE), NailedOrders.BAD_VALUE);
        Check.nail(door, 0, 0, 1.0f);
        Check.nail(door, 1, 0, 2.0f);
        door.nail(0, 1, ONE, Check.bits(0.1f));
        Check.link(door, 0, 2, 3, 1.0f, 0.0f);
        Check.link(door, 0, 3, 2, 1.0f, 0.0f);
        Check.link(door, 0, 4, 3, 1.0f, 0.0f);
        Check.link(door, 0, 5, 0, 1.0f, 0.0f);
        Check.nail(door, 0, 6, 2.0f);
        door.tear(7);
        Check.nail(door, 0, 6, 2.0f);
        door.tear(8);
        door.storm(Check.bits(0.1f));
        door.setTolerance(Check.bits(0.25f));
        Check.type(door, "w12");
        int[] due = {2, 9, 6, 1, 2, 2, 3, 1, 2, 1, Check.bits(0.25f), 4, 3};
        for (int what = 0; what < due.length; what++) {
            check.due("count(" + what + ")", door.count(what), due[what]);
        }

        NailedOrders open = Check.door(1);
        Check.link(open, 0, 0, 15, 1.0f, 0.0f);
        check.due("count(6), the first order of the first word", open.count(6), 1);
        Check.link(open, 0, 15, 14, 1.0f, 0.0f);
        check.due("count(6), the last word", open.count(6), 2);
        Check.link(open, 0, 14, 0, 1.0f, 0.0f);
        check.due("count(8)", open.count(8), 3);
        check.due("count(6) with a ring", open.count(6), 3);
        check.due("count(5)", open.count(5), 0);
    }
}
