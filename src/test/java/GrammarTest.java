/**
 * The document's "Texts": at each place that the grammar has, each character is allowed or is the fault, and a text that ends
 * there is whole or ends too early. What may follow is written out by hand, place by place.
 */
public final class GrammarTest {
    private static final Check check = new Check();

    private static final int ONE = Check.bits(1.0f);
    private static final String DIGITS = "0123456789";

    /** A beginning of a text, and the characters that may follow it. */
    private static final String[][] PLACES = {
        {"", "w"},
        {"w", DIGITS},
        {"w0", "="},
        {"w1", DIGITS + "="},
        {"w9", DIGITS + "="},
        {"w10", "="},
        {"w99", "="},
        {"w1=", DIGITS + "-w"},
        {"w1=-", DIGITS},
        {"w1=0", "."},
        {"w1=1", DIGITS + "."},
        {"w1=10", DIGITS + "."},
        {"w1=99", DIGITS + "."},
        {"w1=100", "."},
        {"w1=-0", "."},
        {"w1=-9", DIGITS + "."},
        {"w1=-90", DIGITS + "."},
        {"w1=-900", "."},
        {"w1=0.", DIGITS},
        {"w1=-999.", DIGITS},
        {"w1=0.0", ";"},
        {"w1=-999.9", ";"},
        {"w1=w", DIGITS},
        {"w1=w0", "*"},
        {"w1=w2", DIGITS + "*"},
        {"w1=w20", "*"},
        {"w1=w2*", DIGITS + "-"},
        {"w1=w2*-", DIGITS},
        {"w1=w2*0", "."},
        {"w1=w2*3", DIGITS + "."},
        {"w1=w2*30", DIGITS + "."},
        {"w1=w2*300", "."},
        {"w1=w2*-0", "."},
        {"w1=w2*3.", DIGITS},
        {"w1=w2*3.0", ";+"},
        {"w1=w2*3.0+", DIGITS + "-"},
        {"w1=w2*3.0+-", DIGITS},
        {"w1=w2*3.0+0", "."},
        {"w1=w2*3.0+4", DIGITS + "."},
        {"w1=w2*3.0+40", DIGITS + "."},
        {"w1=w2*3.0+400", "."},
        {"w1=w2*3.0+-0", "."},
        {"w1=w2*3.0+4.", DIGITS},
        {"w1=w2*3.0+4.0", ";"},
        {"w1=w2*-999.9+-999.9", ";"},
        {"w1=0.0;", "w"},
        {"w1=w2*3.0;", "w"},
        {"w1=w2*3.0+4.0;", "w"},
    };

    /** The places above come again behind each of these. */
    private static final String[] BEGINNINGS = {"", "w7=5.5;", "w6=w7*-5.5+8.1;w7=0.0;"};

    public static void main(String[] args) {
        for (String beginning : BEGINNINGS) {
            for (String[] place : PLACES) {
                end(beginning + place[0]);
                eachCharacter(beginning + place[0], place[1]);
            }
        }
        longestTexts();
        everyWord();
        everyNumber();
        check.end();
    }

    /** What readOrders() answers to a text, on a door of its own. */
    private static int read(String text) {
        NailedOrders door = Check.door(3);
        Check.type(door, text);
        return door.readOrders(0, ONE);
    }

    /** A number has one digit behind its point, so a text is whole where the last but one is a point. */
    private static boolean isWhole(String text) {
        return text.length() > 1 && text.charAt(text.length() - 2) == '.' && DIGITS.indexOf(text.charAt(text.length() - 1)) >= 0;
    }

    private static int orders(String text) {
        return (int) text.chars().filter(character -> character == ';').count() + 1;
    }

    private static void end(String text) {
        check.promise("12, readOrders: the length of the text if it ends too early");
        check.due(text, read(text), isWhole(text) ? orders(text) : -100 - text.length());
    }

    private static void eachCharacter(String before, String allowed) {
        check.promise("12, readOrders: the first character that is not allowed at its place");
        for (int number = 0; number < 512; number++) {
            character(before, (char) number, allowed);
        }
        for (int digit = 0; digit < 10; digit++) {
            character(before, (char) (0x0660 + digit), allowed);
            character(before, (char) (0xff10 + digit), allowed);
            character(before, (char) (0xff00 + '0' + digit), allowed);
        }
        for (char sign : new char[] {0xff00 + 'w', 0x8000 + ';', 0x7fff, 0x8000, 0xd800, 0xdfff, 0xffff}) {
            character(before, sign, allowed);
        }
    }

    private static void character(String before, char character, String allowed) {
        String text = before + character;
        int due;
        if (allowed.indexOf(character) < 0) {
            due = -100 - before.length();
        } else {
            due = isWhole(text) ? orders(text) : -100 - text.length();
        }
        check.due(before + " and the character " + (int) character, read(text), due);
    }

    private static void longestTexts() {
        check.promise("12, readOrders: at most 60 characters");
        String eight = "w0=0.0;".repeat(7) + "w0=0.0";
        check.due(eight, read(eight), 8);
        check.due("a ninth that begins", read(eight + ";"), -156);
        check.due("a ninth at 57", read(eight + ";w"), -157);
        check.due("a ninth at 58", read(eight + ";w0"), -158);
        check.due("a ninth at 59", read(eight + ";w0="), -159);
        check.due("a ninth at 60", read(eight + ";w0=0"), -160);
        check.due("a ninth that is a link", read(eight + ";w0=w"), -160);
        check.due("a fault at 59", read(eight + ";w0=?"), -159);
        check.due("a 61st character is not there", read(eight + ";w0=0.0"), -160);
        String sixty = "w10=w11*-111.1+-222.2;w11=w12*-333.3+-444.4;w12=w13*5.5+-6.6";
        check.due("the length of it", sixty.length(), 60);
        check.due(sixty, read(sixty), 3);
        check.due("and one more, which is not there", read(sixty + "7"), 3);
        check.due("the same, but for the last", read(sixty.substring(0, 59) + "x"), -159);
        check.due("the same without the last", read(sixty.substring(0, 59)), -159);
    }

    private static void everyWord() {
        check.promise("12, readOrders: a word is one or two digits");
        for (int word = 0; word < 100; word++) {
            check.due("w" + word, read("w" + word + "=1.0"), word < 16 ? 1 : NailedOrders.UNKNOWN);
            int other = word == 5 ? NailedOrders.BAD_VALUE : 1;
            check.due("a link to w" + word, read("w5=w" + word + "*1.0"), word < 16 ? other : NailedOrders.UNKNOWN);
            check.due("w with three digits", read("w" + (word + 100) + "=1.0"), -103);
            check.due("a link to three digits", read("w5=w" + (word + 100) + "*1.0"), -106);
        }
        for (int digit = 0; digit < 10; digit++) {
            check.due("w0" + digit, read("w0" + digit + "=1.0"), -102);
            check.due("a link to w0" + digit, read("w5=w0" + digit + "*1.0"), -105);
        }
    }

    /** All 19,999 of them, as number, as factor, and as number of a link. */
    private static void everyNumber() {
        check.promise("12, readOrders: a number is v / 10.0f");
        for (int tenths = -9999; tenths <= 9999; tenths++) {
            int whole = Math.abs(tenths);
            number((tenths < 0 ? "-" : "") + whole / 10 + "." + whole % 10, tenths / 10.0f);
        }
        number("-0.0", 0.0f);
    }

    private static void number(String written, float due) {
        NailedOrders door = Check.door(1);
        Check.type(door, "w1=" + written + ";w2=w1*" + written + ";w3=w1*1.0+" + written);
        check.due(written, door.readOrders(0, ONE), 3);
        check.dueFloat(written + ", fixed", door.real(0, 0), due);
        check.dueFloat(written + ", a factor", door.real(1, 1), due);
        check.dueFloat("where there is no +", door.real(1, 0), 0.0f);
        check.dueFloat(written + ", of a link", door.real(2, 0), due);
    }
}
