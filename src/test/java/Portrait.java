/**
 * What a door tells, as a text that can be compared. A door is used for 512 calls at most, so each of the two ends the use
 * of its door: a test makes one door more by the same calls where it wants both.
 */
final class Portrait {
    private static final int ROWS_OF_HISTORY = 6;

    private Portrait() {
    }

    /** The state and the text, but not what is in the history and the snapshot. */
    static String ofState(NailedOrders door) {
        StringBuilder told = new StringBuilder();
        for (int what = 0; what <= 12; what++) {
            told.append(door.count(what)).append(' ');
        }
        for (int person = 0; person < door.count(0); person++) {
            told.append("\nperson ").append(person).append(':');
            for (int what = 0; what <= 4; what++) {
                told.append(' ').append(door.person(person, what));
            }
        }
        for (int word = 0; word < 16; word++) {
            told.append("\nword ").append(word).append(": ").append(door.value(word));
            told.append(' ').append(door.word(word, 0)).append(' ').append(door.word(word, 1));
        }
        for (int order = 0; order < door.count(1); order++) {
            tellOrder(told, door, order);
        }
        int reader = door.addPerson(1);
        told.append("\ntext: ").append(door.readOrders(Math.max(reader, 0), Check.bits(1.0f)));
        return told.toString();
    }

    private static void tellOrder(StringBuilder told, NailedOrders door, int order) {
        told.append("\norder ").append(order).append(':');
        for (int what : new int[] {0, 1, 2, 4}) {
            told.append(' ').append(door.order(order, what));
        }
        for (int what = 0; what <= 2; what++) {
            told.append(' ').append(door.real(order, what));
        }
    }

    /** The states of the history, the latest first, and that of the snapshot, each in few words. */
    static String ofHistory(NailedOrders door) {
        StringBuilder told = new StringBuilder();
        for (int row = 0; row < ROWS_OF_HISTORY; row++) {
            told.append("\nundo: ").append(door.undo());
            tellBriefly(told, door);
        }
        told.append("\nrestore: ").append(door.restore());
        tellBriefly(told, door);
        return told.toString();
    }

    private static void tellBriefly(StringBuilder told, NailedOrders door) {
        for (int what : new int[] {0, 1, 2, 3, 4, 9, 10}) {
            told.append(' ').append(door.count(what));
        }
        for (int person = 0; person < door.count(0); person++) {
            told.append(" r").append(door.person(person, 0));
        }
        for (int order = 0; order < door.count(1); order++) {
            told.append(" o").append(door.order(order, 6));
        }
    }
}
