/** Promises 10 to 12. */
public final class TextsTest {
    private static final Check check = new Check();

    private static final int ONE = Check.bits(1.0f);

    public static void main(String[] args) {
        type();
        clearText();
        faults();
        wholeTexts();
        errorsOfOrders();
        room();
        check.end();
    }

    private static void type() {
        check.promise("10, type");
        NailedOrders door = new NailedOrders();
        for (int length = 1; length <= 60; length++) {
            check.due("type", door.type((char) (length * 1111)), length);
        }
        check.due("a 61st", door.type('w'), NailedOrders.FULL);
        check.due("count(12)", door.count(12), 60);
        check.due("count(11): no act", door.count(11), 0);
    }

    private static void clearText() {
        check.promise("11, clearText");
        NailedOrders door = Check.door(1);
        check.due("clearText() of the empty one", door.clearText(), 0);
        Check.type(door, "w1=2.0");
        door.undo();
        check.due("count(12): undo leaves the text", door.count(12), 6);
        check.due("clearText()", door.clearText(), 6);
        check.due("count(12)", door.count(12), 0);
        check.due("count(11): no act", door.count(11), 0);
        check.due("type", door.type('x'), 1);
    }

    /** Reads a text on a door of its own. */
    private static int read(String text) {
        NailedOrders door = Check.door(3);
        Check.type(door, text);
        int answer = door.readOrders(0, ONE);
        if (answer < 0) {
            check.due("count(1) after the fault of " + text, door.count(1), 0);
            check.due("count(11) after the fault of " + text, door.count(11), 1);
        }
        check.due("count(12): the text stays", door.count(12), text.length());
        return answer;
    }

    private static void fault(String text, int place) {
        check.due("the fault of " + text, read(text), -100 - place);
    }

    private static void faults() {
        check.promise("12, readOrders: faults");
        fault("", 0);
        fault("x", 0);
        fault(";", 0);
        fault("w", 1);
        fault("ww", 1);
        fault("W1=1.0", 0);
        fault(" w1=1.0", 0);
        fault("w=1.0", 1);
        fault("w1=w*1.0", 4);
        fault("w1", 2);
        fault("w01=1.0", 2);
        fault("w00=1.0", 2);
        fault("w123=1.0", 3);
        fault("w-1=1.0", 1);
        fault("w1:", 2);
        fault("w1/", 2);
        fault("w1=", 3);
        fault("w1=+", 3);
        fault("w1=.5", 3);
        fault("w1=-", 4);
        fault("w1=--1.0", 4);
        fault("w1=-w", 4);
        fault("w1=01.0", 4);
        fault("w1=00.0", 4);
        fault("w1=1", 4);
        fault("w1=12", 5);
        fault("w1=123", 6);
        fault("w1=1234.0", 6);
        fault("w1=-1234.0", 7);
        fault("w1=1.", 5);
        fault("w1=1.x", 5);
        fault("w1=1.-", 5);
        fault("w1=1.23", 6);
        fault("w1=1.0+2.0", 6);
        fault("w1=1.0*2.0", 6);
        fault("w1=1.0;", 7);
        fault("w1=1.0;;", 7);
        fault("w1=1.0 ;", 6);
        fault("w1=1.0;1", 7);
        fault("w1=w", 4);
        fault("w1=ww", 4);
        fault("w1=w*", 4);
        fault("w1=w2", 5);
        fault("w1=w02", 5);
        fault("w1=w123", 6);
        fault("w1=w2+1.0", 5);
        fault("w1=w2*", 6);
        fault("w1=w2*w", 6);
        fault("w1=w2*+", 6);
        fault("w1=w2*1", 7);
        fault("w1=w2*1.0+", 10);
        fault("w1=w2*1.0+w", 10);
        fault("w1=w2*1.0++", 10);
        fault("w1=w2*1.0-1.0", 9);
        fault("w1=w2*1.0*1.0", 9);
        fault("w1=w2*1.0+1.0+", 13);
        fault("w1=w2*1.0+1.0;", 14);
        fault("w1=w2*1.0;w1=w2*1.0x", 19);
        fault("w1=1" + (char) 0x0660 + ".0", 4);
        fault("w1=1.0" + (char) 0, 6);
        fault("w1=1.0" + (char) 0xffff, 6);
        fault((char) ('w' + 256) + "1=1.0", 0);
        fault("w1=1.0;w1=1.0;w1=1.0;w1=1.0;w1=1.0;w1=1.0;w1=1.0;w1=1.0;", 56);
        fault("w1=1.0;w1=1.0;w1=1.0;w1=1.0;w1=1.0;w1=1.0;w1=1.0;w1=1.0;w1=2", 60);
        fault("w1=1.0;w1=1.0;w1=1.0;w1=1.0;w1=1.0;w1=1.0;w1=1.0;w1=1.0;w1=x", 59);
        fault("w16=1.0;x", 8);
        fault("w1=w1*1.0;x", 10);
    }

    private static void fixed(String text, int word, float number) {
        NailedOrders door = Check.door(3);
        Check.type(door, text);
        check.due(text, door.readOrders(0, Check.bits(0.3f)), 1);
        check.due("its word", door.order(0, 1), word);
        check.due("its link", door.order(0, 2), NailedOrders.NONE);
        check.dueFloat("its number", door.real(0, 0), number);
        check.dueFloat("its factor", door.real(0, 1), 1.0f);
        check.dueFloat("its strength", door.real(0, 2), 0.3f);
    }

    private static void link(String text, int word, int other, float factor, float number) {
        NailedOrders door = Check.door(3);
        Check.type(door, text);
        check.due(text, door.readOrders(0, Check.bits(10.0f)), 1);
        check.due("its word", door.order(0, 1), word);
        check.due("its link", door.order(0, 2), other);
        check.dueFloat("its factor", door.real(0, 1), factor);
        check.dueFloat("its number", door.real(0, 0), number);
        check.dueFloat("its strength", door.real(0, 2), 10.0f);
    }

    private static void wholeTexts() {
        check.promise("12, readOrders: orders");
        fixed("w0=0.0", 0, 0.0f);
        fixed("w0=-0.0", 0, 0.0f);
        fixed("w9=0.1", 9, 1 / 10.0f);
        fixed("w15=-0.7", 15, -7 / 10.0f);
        fixed("w10=999.9", 10, 9999 / 10.0f);
        fixed("w7=-999.9", 7, -9999 / 10.0f);
        fixed("w7=10.3", 7, 103 / 10.0f);
        link("w1=w0*0.3", 1, 0, 3 / 10.0f, 0.0f);
        link("w12=w15*-999.9+-1.1", 12, 15, -9999 / 10.0f, -11 / 10.0f);
        link("w0=w10*100.0+20.6", 0, 10, 1000 / 10.0f, 206 / 10.0f);
        check.due("eight", read("w1=1.0;w1=1.0;w1=1.0;w1=1.0;w1=1.0;w1=1.0;w1=1.0;w1=1.0"), 8);
        check.due("sixty", read("w10=w11*-111.1+-222.2;w11=w12*-333.3+-444.4;w12=w13*5.5+-6.6"), 3);

        NailedOrders twice = Check.door(3);
        Check.type(twice, "w1=w2*1.0+5.0");
        twice.readOrders(0, ONE);
        twice.clearText();
        Check.type(twice, "w1=w2*1.0");
        twice.readOrders(0, ONE);
        check.dueFloat("the number of a link without +", twice.real(1, 0), 0.0f);

        NailedOrders door = Check.door(3, 4);
        Check.type(door, "w1=w2*2.0;w2=1.5;w1=w2*1.0+1.0");
        check.due("no such person", door.readOrders(2, ONE), NailedOrders.UNKNOWN);
        check.due("no such person, no strength", door.readOrders(-1, 0), NailedOrders.UNKNOWN);
        check.due("strength 0.0f", door.readOrders(0, 0), NailedOrders.BAD_VALUE);
        check.due("strength over 10.0f", door.readOrders(0, Check.bits(Math.nextUp(10.0f))), NailedOrders.BAD_VALUE);
        check.due("no number", door.readOrders(0, -1), NailedOrders.BAD_VALUE);
        check.due("count(11)", door.count(11), 2);
        check.due("readOrders(1)", door.readOrders(1, ONE), 3);
        check.due("count(11): one act", door.count(11), 3);
        check.due("the person", door.person(1, 2), 3);
        check.due("the topmost of word 1", door.word(1, 1), 2);
        check.dueFloat("value(1)", door.value(1), 2.5f);
        check.due("readOrders(0): the text is there still", door.readOrders(0, ONE), 3);
        check.due("count(1)", door.count(1), 6);
        door.undo();
        check.due("count(1) after undo()", door.count(1), 3);
        door.undo();
        check.due("count(1) after undo() of all three", door.count(1), 0);
        door.clearText();
        check.due("the empty text, no strength", door.readOrders(0, 0), NailedOrders.BAD_VALUE);
        check.due("the empty text", door.readOrders(0, ONE), -100);
    }

    private static void errorsOfOrders() {
        check.promise("12, readOrders: errors of orders");
        check.due("word 16", read("w16=1.0"), NailedOrders.UNKNOWN);
        check.due("word 99", read("w1=1.0;w99=1.0"), NailedOrders.UNKNOWN);
        check.due("other 16", read("w1=w16*1.0"), NailedOrders.UNKNOWN);
        check.due("both 16", read("w16=w16*1.0"), NailedOrders.UNKNOWN);
        check.due("both the same", read("w15=w15*1.0"), NailedOrders.BAD_VALUE);
        check.due("the first: bad", read("w1=w1*1.0;w16=1.0"), NailedOrders.BAD_VALUE);
        check.due("the first: unknown", read("w1=1.0;w16=1.0;w1=w1*1.0"), NailedOrders.UNKNOWN);
    }

    private static void room() {
        check.promise("12, readOrders: room");
        NailedOrders door = Check.door(3);
        for (int i = 0; i < 22; i++) {
            Check.nail(door, 0, i % 16, i);
        }
        Check.type(door, "w1=1.0;w2=2.0;w3=3.0");
        check.due("three when there is room for two", door.readOrders(0, ONE), NailedOrders.FULL);
        check.due("count(2): none is nailed", door.count(2), 22);
        door.clearText();
        Check.type(door, "w1=1.0;w2=2.0;w16=3.0");
        check.due("the third of no word", door.readOrders(0, ONE), NailedOrders.UNKNOWN);
        door.clearText();
        Check.type(door, "w1=1.0;w2=2.0;w3=w3*3.0");
        check.due("the third to itself", door.readOrders(0, ONE), NailedOrders.BAD_VALUE);
        door.clearText();
        Check.type(door, "w1=1.0;w2=2.0;w3=3.0;w16=4.0");
        check.due("the third without room comes first", door.readOrders(0, ONE), NailedOrders.FULL);
        door.clearText();
        Check.type(door, "w1=1.0;w2=2.0");
        check.due("two", door.readOrders(0, ONE), 2);
        check.due("two more", door.readOrders(0, ONE), NailedOrders.FULL);
        for (int i = 0; i < 20; i++) {
            door.tear(i);
        }
        for (int i = 0; i < 15; i++) {
            Check.nail(door, 0, i, i);
        }
        check.due("count(1)", door.count(1), 39);
        check.due("two when there have been 39", door.readOrders(0, ONE), NailedOrders.FULL);
        door.clearText();
        Check.type(door, "w1=1.0");
        check.due("one when there have been 39", door.readOrders(0, ONE), 1);
        check.due("one when there have been 40", door.readOrders(0, ONE), NailedOrders.FULL);
    }
}
