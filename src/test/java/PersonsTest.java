/** Promises 1 to 4. */
public final class PersonsTest {
    private static final Check check = new Check();

    public static void main(String[] args) {
        newObject();
        addPerson();
        setRank();
        setTolerance();
        check.end();
    }

    private static void newObject() {
        check.promise("1, a new object");
        NailedOrders door = new NailedOrders();
        for (int what = 0; what <= 12; what++) {
            check.due("count(" + what + ")", door.count(what), 0);
        }
        for (int word = 0; word < 16; word++) {
            check.dueFloat("value(" + word + ")", door.value(word), Float.NaN);
            check.due("word(" + word + ", 2)", door.word(word, 2), 0);
        }
        check.due("person(0, 0)", door.person(0, 0), NailedOrders.UNKNOWN);
        check.due("order(0, 0)", door.order(0, 0), NailedOrders.UNKNOWN);
        check.due("undo()", door.undo(), NailedOrders.NONE);
        check.due("restore()", door.restore(), NailedOrders.NONE);
        check.due("clearText()", door.clearText(), 0);
        NailedOrders other = new NailedOrders();
        other.addPerson(1);
        check.due("count(0) of one after addPerson of another", door.count(0), 0);
    }

    private static void addPerson() {
        check.promise("2, addPerson");
        NailedOrders door = new NailedOrders();
        check.due("addPerson(0)", door.addPerson(0), NailedOrders.BAD_VALUE);
        check.due("addPerson(6)", door.addPerson(6), NailedOrders.BAD_VALUE);
        check.due("addPerson(-1)", door.addPerson(-1), NailedOrders.BAD_VALUE);
        check.due("addPerson(min)", door.addPerson(Integer.MIN_VALUE), NailedOrders.BAD_VALUE);
        check.due("addPerson(max)", door.addPerson(Integer.MAX_VALUE), NailedOrders.BAD_VALUE);
        check.due("count(11) after errors", door.count(11), 0);
        for (int person = 0; person < 6; person++) {
            int rank = person % 5 + 1;
            check.due("addPerson(" + rank + ")", door.addPerson(rank), person);
            check.due("its rank", door.person(person, 0), rank);
            check.due("count(0)", door.count(0), person + 1);
            check.due("count(11)", door.count(11), Math.min(person + 1, 4));
        }
        check.due("a seventh", door.addPerson(1), NailedOrders.FULL);
        check.due("a seventh of no rank", door.addPerson(0), NailedOrders.BAD_VALUE);
        check.due("count(0)", door.count(0), 6);
    }

    private static void setRank() {
        check.promise("3, setRank");
        NailedOrders door = Check.door(2, 3);
        check.due("setRank(2, 1)", door.setRank(2, 1), NailedOrders.UNKNOWN);
        check.due("setRank(-1, 1)", door.setRank(-1, 1), NailedOrders.UNKNOWN);
        check.due("setRank(2, 9)", door.setRank(2, 9), NailedOrders.UNKNOWN);
        check.due("setRank(0, 0)", door.setRank(0, 0), NailedOrders.BAD_VALUE);
        check.due("setRank(0, 6)", door.setRank(0, 6), NailedOrders.BAD_VALUE);
        check.due("setRank(0, 2)", door.setRank(0, 2), NailedOrders.NONE);
        check.due("count(11) after none of these", door.count(11), 2);
        check.due("setRank(0, 5)", door.setRank(0, 5), 2);
        check.due("person(0, 0)", door.person(0, 0), 5);
        check.due("person(1, 0)", door.person(1, 0), 3);
        check.due("setRank(0, 1)", door.setRank(0, 1), 5);
        check.due("count(11)", door.count(11), 4);

        NailedOrders ruled = Check.door(2, 3);
        Check.nail(ruled, 0, 7, 1.0f);
        Check.nail(ruled, 1, 7, 2.0f);
        Check.nail(ruled, 0, 7, 3.0f);
        check.dueFloat("the greater rank rules", ruled.value(7), 2.0f);
        ruled.setRank(0, 3);
        check.dueFloat("of equals the topmost rules", ruled.value(7), 3.0f);
        ruled.setRank(0, 4);
        ruled.setRank(1, 5);
        check.dueFloat("the rank that it is now", ruled.value(7), 2.0f);
    }

    private static void setTolerance() {
        check.promise("4, setTolerance");
        NailedOrders door = new NailedOrders();
        check.due("0.0f is so already", door.setTolerance(0), NailedOrders.NONE);
        int[] bad = {
            Check.bits(-0.0f), Check.bits(-1.0f), Check.bits(Math.nextUp(100.0f)), Check.bits(Float.POSITIVE_INFINITY),
            Check.bits(Float.NEGATIVE_INFINITY), Check.bits(Float.NaN), 0x7f800001, -1, 0x80000001, 0x7f7fffff,
        };
        for (int bits : bad) {
            check.due("setTolerance(" + bits + ")", door.setTolerance(bits), NailedOrders.BAD_VALUE);
        }
        check.due("count(11)", door.count(11), 0);
        int[] good = {1, 0x007fffff, 0x00800000, Check.bits(0.5f), Check.bits(100.0f), 0};
        for (int bits : good) {
            check.due("setTolerance(" + bits + ")", door.setTolerance(bits), 1);
            check.due("count(10)", door.count(10), bits);
            check.due("once more", door.setTolerance(bits), NailedOrders.NONE);
        }
        check.due("count(11)", door.count(11), 4);

        NailedOrders near = Check.door(1, 1);
        Check.nail(near, 0, 0, 2.0f);
        Check.nail(near, 1, 0, 2.5f);
        check.due("word(0, 4) at 0.0f", near.word(0, 4), 0);
        near.setTolerance(Check.bits(Math.nextDown(0.5f)));
        check.due("word(0, 4) just beneath the difference", near.word(0, 4), 0);
        near.setTolerance(Check.bits(0.5f));
        check.due("word(0, 4) at the difference", near.word(0, 4), NailedOrders.NONE);
        Check.nail(near, 0, 2, 2.5f);
        Check.nail(near, 1, 2, 2.0f);
        check.due("word(2, 4), the lesser over the greater", near.word(2, 4), NailedOrders.NONE);
        near.setTolerance(Check.bits(Math.nextDown(0.5f)));
        check.due("word(2, 4) just beneath the difference", near.word(2, 4), 2);
        Check.nail(near, 1, 1, 0.0f);
        Check.nail(near, 0, 1, Float.MIN_VALUE);
        near.setTolerance(0);
        check.due("word(1, 4) with the least difference", near.word(1, 4), 4);
        near.setTolerance(1);
        check.due("word(1, 4) with the least tolerance", near.word(1, 4), NailedOrders.NONE);
    }
}
