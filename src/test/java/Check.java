/** Counts and prints the answers that are not as due. */
final class Check {
    private int wrong = 0;
    private int checked = 0;
    private String promise = "";

    /** Names the promise that the next answers are for. */
    void promise(String name) {
        promise = name;
    }

    void due(String call, long got, long want) {
        checked++;
        if (got != want) {
            tell(call, String.valueOf(got), String.valueOf(want));
        }
    }

    /** Tells 0.0f from -0.0f too. */
    void dueFloat(String call, float got, float want) {
        checked++;
        if (Float.floatToIntBits(got) != Float.floatToIntBits(want)) {
            tell(call, String.valueOf(got), String.valueOf(want));
        }
    }

    void dueTrue(String fact, boolean so) {
        checked++;
        if (!so) {
            tell(fact, "false", "true");
        }
    }

    private void tell(String call, String got, String want) {
        wrong++;
        System.out.println(promise + ": " + call + " answered " + got + ", due is " + want);
    }

    void end() {
        System.out.println(checked + " answers checked, " + wrong + " wrong");
        if (wrong != 0) {
            System.exit(1);
        }
    }

    // ---- short names for what most tests need

    static int bits(float number) {
        return Float.floatToRawIntBits(number);
    }

    static void type(NailedOrders door, String text) {
        for (int i = 0; i < text.length(); i++) {
            door.type(text.charAt(i));
        }
    }

    static int nail(NailedOrders door, int person, int word, float number) {
        return door.nail(person, word, bits(number), bits(1.0f));
    }

    static int link(NailedOrders door, int person, int word, int other, float factor, float number) {
        return door.nailLink(person, word, other, bits(factor), bits(number), bits(1.0f));
    }

    /** A door with persons of these ranks. */
    static NailedOrders door(int... ranks) {
        NailedOrders door = new NailedOrders();
        for (int rank : ranks) {
            door.addPerson(rank);
        }
        return door;
    }
}
