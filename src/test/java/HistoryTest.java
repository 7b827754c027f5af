/** Promises 13 to 15. */
public final class HistoryTest {
    private static final Check check = new Check();

    private static final int ONE = Check.bits(1.0f);

    public static void main(String[] args) {
        undo();
        undoOfEachAct();
        noActs();
        keepAndRestore();
        allOfAnOrder();
        check.end();
    }

    private static void undo() {
        check.promise("13, undo");
        NailedOrders door = Check.door(1);
        check.due("undo()", door.undo(), 0);
        check.due("count(0)", door.count(0), 0);
        check.due("undo() again", door.undo(), NailedOrders.NONE);
        door.addPerson(1);
        for (int rank = 2; rank <= 5; rank++) {
            door.setRank(0, rank);
        }
        check.due("count(11)", door.count(11), 4);
        for (int rank = 4; rank >= 1; rank--) {
            check.due("undo()", door.undo(), rank - 1);
            check.due("the rank that was", door.person(0, 0), rank);
        }
        check.due("undo(): the oldest was dropped", door.undo(), NailedOrders.NONE);
        check.due("count(0)", door.count(0), 1);
        door.setRank(0, 3);
        door.setRank(0, 4);
        door.undo();
        door.setRank(0, 5);
        check.due("undo() after an act after undo()", door.undo(), 1);
        check.due("the rank", door.person(0, 0), 3);
    }

    private static void undoOfEachAct() {
        check.promise("13, undo of each act");
        NailedOrders door = Check.door(1);
        Check.nail(door, 0, 0, 1.0f);
        door.setTolerance(Check.bits(2.0f));
        door.undo();
        check.due("count(10) after setTolerance", door.count(10), 0);
        Check.link(door, 0, 1, 0, 1.0f, 1.0f);
        door.undo();
        check.due("count(1) after nailLink", door.count(1), 1);
        check.due("the number of the order is given again", Check.nail(door, 0, 3, 1.0f), 1);
        check.due("order(1, 2)", door.order(1, 2), NailedOrders.NONE);
        door.undo();
        door.hammer(0);
        door.undo();
        check.due("order(0, 6) after hammer", door.order(0, 6), 100);
        door.storm(Check.bits(5.0f));
        check.due("order(0, 3) after storm", door.order(0, 3), 0);
        door.undo();
        check.due("order(0, 3) after its undo", door.order(0, 3), 1);
        check.due("order(0, 6)", door.order(0, 6), 100);
        check.due("count(3)", door.count(3), 0);
        check.due("count(9)", door.count(9), 0);
        door.tear(0);
        door.undo();
        check.due("count(4) after tear", door.count(4), 0);
        check.dueFloat("value(0)", door.value(0), 1.0f);
    }

    private static void noActs() {
        check.promise("13, what records no state");
        NailedOrders door = Check.door(1);
        Check.nail(door, 0, 0, 1.0f);
        Check.link(door, 0, 1, 0, 1.0f, 1.0f);
        int states = door.count(11);
        door.keep();
        door.type('w');
        door.clearText();
        door.readOrders(0, ONE);
        door.setRank(0, 1);
        door.setRank(0, 9);
        door.setTolerance(0);
        door.tear(7);
        door.hammer(7);
        door.storm(0);
        door.value(0);
        door.valueOf(0);
        door.changesWithout(0);
        door.stormsLeft(0, Check.bits(10.0f));
        check.due("count(11)", door.count(11), states);
        check.due("order(0, 6): stormsLeft changes nothing", door.order(0, 6), 100);
        check.due("order(0, 3)", door.order(0, 3), 1);
        check.due("count(9)", door.count(9), 0);
    }

    private static void keepAndRestore() {
        check.promise("14 and 15, keep and restore");
        NailedOrders door = new NailedOrders();
        check.due("restore()", door.restore(), NailedOrders.NONE);
        check.due("keep() of the empty door", door.keep(), 0);
        check.due("count(11) after keep()", door.count(11), 0);
        door.addPerson(2);
        Check.nail(door, 0, 1, 5.0f);
        check.due("restore() of the empty door", door.restore(), 0);
        check.due("count(0)", door.count(0), 0);
        check.due("count(1)", door.count(1), 0);
        check.due("count(11)", door.count(11), 3);
        check.due("undo() of restore()", door.undo(), 2);
        check.due("count(1) then", door.count(1), 1);
        Check.nail(door, 0, 1, 6.0f);
        door.setTolerance(ONE);
        Check.type(door, "abc");
        check.due("keep() in place of that", door.keep(), 2);
        door.hammer(0);
        door.setTolerance(Check.bits(3.0f));
        door.setRank(0, 5);
        door.storm(Check.bits(10.0f));
        door.clearText();
        check.due("restore()", door.restore(), 2);
        check.due("order(0, 6)", door.order(0, 6), 100);
        check.due("count(10)", door.count(10), ONE);
        check.due("person(0, 0)", door.person(0, 0), 2);
        check.due("count(9)", door.count(9), 0);
        check.due("count(12): the text is no part of it", door.count(12), 0);
        door.tear(0);
        door.tear(1);
        check.due("restore(): the snapshot stays", door.restore(), 2);
        check.due("restore() once more is an act too", door.restore(), 2);
        check.due("count(11)", door.count(11), 4);
        door.undo();
        door.undo();
        check.due("count(2) after undo()", door.count(2), 0);
        check.due("restore(): undo leaves the snapshot", door.restore(), 2);
    }

    /** The same number is given to quite another order in between. */
    private static void allOfAnOrder() {
        check.promise("13 to 15, all of an order comes back");
        NailedOrders door = Check.door(1, 2);
        door.nailLink(0, 3, 4, Check.bits(2.5f), Check.bits(7.5f), Check.bits(3.0f));
        door.setTolerance(Check.bits(0.5f));
        door.keep();
        door.undo();
        door.undo();
        door.nail(1, 5, Check.bits(1.5f), ONE);
        door.setTolerance(Check.bits(0.25f));
        door.restore();
        check.due("order(0, 0)", door.order(0, 0), 0);
        check.due("order(0, 1)", door.order(0, 1), 3);
        check.due("order(0, 2)", door.order(0, 2), 4);
        check.dueFloat("real(0, 0)", door.real(0, 0), 7.5f);
        check.dueFloat("real(0, 1)", door.real(0, 1), 2.5f);
        check.dueFloat("real(0, 2)", door.real(0, 2), 3.0f);
        check.due("count(10)", door.count(10), Check.bits(0.5f));
        Check.nail(door, 0, 9, 1.0f);
        door.setRank(1, 1);
        Check.nail(door, 1, 9, 1.5f);
        check.due("word(9, 4), by the tolerance that came back", door.word(9, 4), NailedOrders.NONE);
        door.undo();
        door.undo();
        door.undo();
        door.undo();
        check.due("order(0, 0) after undo()", door.order(0, 0), 1);
        check.due("order(0, 2) after undo()", door.order(0, 2), NailedOrders.NONE);
        check.dueFloat("value(5)", door.value(5), 1.5f);
        check.dueFloat("real(0, 1)", door.real(0, 1), 1.0f);
    }
}
