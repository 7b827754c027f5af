import java.util.Random;

/** Runs of 512 calls, the same in every session, in which the class must answer as the model does. */
public final class RandomRunsTest {
    private static final int RUNS = 1500;
    private static final int CALLS = 512;
    private static final int[] NO_ARGUMENTS = {
        -1, 16, 17, 40, 41, 100, Integer.MIN_VALUE, Integer.MAX_VALUE, 0x7f800000, 0xff800000, 0x7fc00000, 1, 0x80000000,
    };

    private static final Check check = new Check();

    private final Random random;
    private final NailedOrders door = new NailedOrders();
    private final Model model = new Model();
    private final String run;
    private int persons;
    private int orders;

    private RandomRunsTest(int seed) {
        random = new Random(seed);
        run = "run " + seed;
    }

    public static void main(String[] args) {
        for (int seed = 0; seed < RUNS; seed++) {
            check.promise("a random run, " + seed);
            new RandomRunsTest(seed).go();
        }
        check.end();
    }

    private void go() {
        int calls = 0;
        while (calls < CALLS) {
            calls += random.nextInt(3) == 0 ? act() : ask();
        }
    }

    private void same(String call, int got, int want) {
        check.due(run + ", " + call, got, want);
    }

    private void same(String call, float got, float want) {
        check.dueFloat(run + ", " + call, got, want);
    }

    private boolean rarely(int times) {
        return random.nextInt(times) == 0;
    }

    private int some(int bound) {
        return rarely(40) ? NO_ARGUMENTS[random.nextInt(NO_ARGUMENTS.length)] : random.nextInt(Math.max(1, bound));
    }

    /** Few words make many stacks, links and rings. */
    private int someWord() {
        return some(rarely(4) ? 16 : 5);
    }

    private int someRank() {
        return rarely(10) ? some(8) : 1 + random.nextInt(3);
    }

    private int someOrder() {
        return some(rarely(8) ? 41 : orders);
    }

    private int someNumber() {
        return switch (random.nextInt(12)) {
            case 0 -> some(6);
            case 1 -> random.nextInt();
            case 2 -> Check.bits(rarely(2) ? 1000.0f : -1000.0f);
            case 3 -> Check.bits(Math.nextUp(1000.0f));
            case 4 -> Check.bits(-0.0f);
            case 5 -> Check.bits(random.nextFloat() * 2000.0f - 1000.0f);
            default -> Check.bits((random.nextInt(13) - 6) / 2.0f);
        };
    }

    private int someStrength() {
        return switch (random.nextInt(24)) {
            case 0 -> some(6);
            case 1 -> Check.bits(0.1f);
            case 2 -> Check.bits(Math.nextDown(0.1f));
            case 3 -> Check.bits(10.0f);
            case 4 -> Check.bits(Math.nextUp(10.0f));
            default -> Check.bits(0.1f + random.nextFloat() * (rarely(2) ? 1.0f : 9.8f));
        };
    }

    private int someForce() {
        return rarely(2) ? someStrength() : Check.bits(0.1f + random.nextFloat() * 0.4f);
    }

    private int someTolerance() {
        return switch (random.nextInt(6)) {
            case 0 -> some(3);
            case 1 -> Check.bits(100.0f);
            case 2 -> Check.bits(Math.nextUp(100.0f));
            default -> Check.bits(random.nextInt(5) / 2.0f);
        };
    }

    private int act() {
        switch (random.nextInt(24)) {
            case 0:
                return addPerson();
            case 1, 2: {
                int person = some(persons);
                int rank = someRank();
                same("setRank(" + person + ", " + rank + ")", door.setRank(person, rank), model.setRank(person, rank));
                return 1;
            }
            case 3: {
                int bits = someTolerance();
                same("setTolerance(" + bits + ")", door.setTolerance(bits), model.setTolerance(bits));
                return 1;
            }
            case 4, 5, 6, 7:
                return nail();
            case 8, 9, 10, 11, 12:
                return nailLink();
            case 13: {
                int order = someOrder();
                same("tear(" + order + ")", door.tear(order), model.tear(order));
                return 1;
            }
            case 14, 15: {
                int order = someOrder();
                same("hammer(" + order + ")", door.hammer(order), model.hammer(order));
                return 1;
            }
            case 16: {
                int bits = someForce();
                same("storm(" + bits + ")", door.storm(bits), model.storm(bits));
                return 1;
            }
            case 17, 18:
                return readText();
            case 19:
                return typeAny();
            case 20, 21:
                same("undo()", door.undo(), model.undo());
                orders = model.count(1);
                persons = model.count(0);
                return 1;
            case 22:
                same("keep()", door.keep(), model.keep());
                return 1;
            default:
                return restore();
        }
    }

    private int addPerson() {
        int rank = someRank();
        same("addPerson(" + rank + ")", door.addPerson(rank), model.addPerson(rank));
        persons = model.count(0);
        return 1;
    }

    private int nail() {
        int person = some(persons);
        int word = someWord();
        int bits = someNumber();
        int strength = someStrength();
        same("nail(" + person + ", " + word + ", " + bits + ", " + strength + ")",
                door.nail(person, word, bits, strength), model.nail(person, word, bits, strength));
        orders = model.count(1);
        return 1;
    }

    private int nailLink() {
        int person = some(persons);
        int word = someWord();
        int other = someWord();
        int factor = someNumber();
        int number = someNumber();
        int strength = someStrength();
        same("nailLink(" + person + ", " + word + ", " + other + ", " + factor + ", " + number + ", " + strength + ")",
                door.nailLink(person, word, other, factor, number, strength),
                model.nailLink(person, word, other, factor, number, strength));
        orders = model.count(1);
        return 1;
    }

    private int restore() {
        if (rarely(3)) {
            same("restore()", door.restore(), model.restore());
            orders = model.count(1);
            persons = model.count(0);
        }
        return 1;
    }

    private int typeAny() {
        char character = (char) random.nextInt(rarely(2) ? 65536 : 128);
        same("type(" + (int) character + ")", door.type(character), model.type(character));
        return 1;
    }

    private String someReadNumber() {
        String sign = rarely(3) ? "-" : "";
        return sign + random.nextInt(rarely(2) ? 1000 : 5) + "." + random.nextInt(10);
    }

    private String someReadOrder() {
        String start = "w" + (rarely(20) ? random.nextInt(110) : random.nextInt(16)) + "=";
        if (rarely(2)) {
            return start + someReadNumber();
        }
        String link = start + "w" + (rarely(20) ? random.nextInt(110) : random.nextInt(16)) + "*" + someReadNumber();
        return rarely(2) ? link : link + "+" + someReadNumber();
    }

    private String someText() {
        StringBuilder text = new StringBuilder(someReadOrder());
        for (int more = random.nextInt(rarely(4) ? 9 : 3); more > 0; more--) {
            text.append(';').append(someReadOrder());
        }
        if (rarely(3)) {
            text.setCharAt(random.nextInt(text.length()), "w0123456789=;*+-. x".charAt(random.nextInt(19)));
        }
        if (rarely(6)) {
            text.setLength(random.nextInt(text.length() + 1));
        }
        return text.toString();
    }

    private int readText() {
        same("clearText()", door.clearText(), model.clearText());
        String text = someText();
        for (int i = 0; i < text.length(); i++) {
            same("type(" + text.charAt(i) + ")", door.type(text.charAt(i)), model.type(text.charAt(i)));
        }
        int person = some(persons);
        int strength = someStrength();
        same("readOrders(" + person + ", " + strength + ") of " + text, door.readOrders(person, strength),
                model.readOrders(person, strength));
        orders = model.count(1);
        return text.length() / 8 + 2;
    }

    private int ask() {
        int what = some(9);
        int word = someWord();
        int order = someOrder();
        switch (random.nextInt(11)) {
            case 0:
                same("value(" + word + ")", door.value(word), model.value(word));
                return 1;
            case 1:
                same("valueOf(" + order + ")", door.valueOf(order), model.valueOf(order));
                return 1;
            case 2:
                same("word(" + word + ", " + what + ")", door.word(word, what), model.word(word, what));
                return 1;
            case 3: {
                int place = some(5);
                same("hangsAt(" + word + ", " + place + ")", door.hangsAt(word, place), model.hangsAt(word, place));
                return 1;
            }
            case 4:
                same("order(" + order + ", " + what + ")", door.order(order, what), model.order(order, what));
                return 1;
            case 5:
                same("real(" + order + ", " + what + ")", door.real(order, what), model.real(order, what));
                return 1;
            case 6: {
                int step = some(rarely(3) ? 18 : 4);
                same("reason(" + word + ", " + step + ")", door.reason(word, step), model.reason(word, step));
                return 1;
            }
            case 7:
                same("changesWithout(" + order + ")", door.changesWithout(order), model.changesWithout(order));
                return 1;
            case 8: {
                int bits = someForce();
                same("stormsLeft(" + order + ", " + bits + ")", door.stormsLeft(order, bits), model.stormsLeft(order, bits));
                return 1;
            }
            case 9: {
                int person = some(persons);
                same("person(" + person + ", " + what + ")", door.person(person, what), model.person(person, what));
                return 1;
            }
            default: {
                int number = some(14);
                same("count(" + number + ")", door.count(number), model.count(number));
                return 1;
            }
        }
    }
}
