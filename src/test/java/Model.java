import java.util.ArrayDeque;
import java.util.ArrayList;
import java.util.Deque;
import java.util.HashMap;
import java.util.HashSet;
import java.util.List;
import java.util.Map;
import java.util.Set;
import java.util.regex.Matcher;
import java.util.regex.Pattern;

/** The document written once more in another way, with the Java library: slow, and made to be compared with. */
final class Model {
    static final int UNKNOWN = -1;
    static final int BAD_VALUE = -2;
    static final int FULL = -3;
    static final int NOT_POSSIBLE = -4;
    static final int NONE = -5;

    private static final String WORD = "w(0|[1-9][0-9]?)";
    private static final String NUMBER = "(-?(?:0|[1-9][0-9]{0,2})\\.[0-9])";
    private static final String ORDER = WORD + "=(?:" + NUMBER + "|" + WORD + "\\*" + NUMBER + "(?:\\+" + NUMBER + ")?)";
    private static final Pattern ONE_ORDER = Pattern.compile(ORDER);
    private static final Pattern WHOLE_TEXT = Pattern.compile(ORDER + "(?:;" + ORDER + ")*");

    private enum Fate { HANGS, FELL, TORN }

    /** Never changed: a change makes another one. */
    private record Order(int person, int word, Integer link, float factor, float number, float strength, Fate fate) {
        Order with(float newStrength, Fate newFate) {
            return new Order(person, word, link, factor, number, newStrength, newFate);
        }

        boolean hangs() {
            return fate == Fate.HANGS;
        }
    }

    private static final class State {
        List<Integer> ranks = new ArrayList<>();
        int tolerance;
        List<Order> orders = new ArrayList<>();
        /** For each word the orders that hang, the topmost first. */
        Map<Integer, List<Integer>> stacks = new HashMap<>();
        int storms;

        State copy() {
            State copy = new State();
            copy.ranks.addAll(ranks);
            copy.tolerance = tolerance;
            copy.orders.addAll(orders);
            stacks.forEach((word, stack) -> copy.stacks.put(word, new ArrayList<>(stack)));
            copy.storms = storms;
            return copy;
        }

        List<Integer> stack(int word) {
            return stacks.getOrDefault(word, List.of());
        }

        boolean isPerson(int person) {
            return 0 <= person && person < ranks.size();
        }

        boolean isOrder(int order) {
            return 0 <= order && order < orders.size();
        }

        boolean isFull() {
            return hanging() >= 24 || orders.size() >= 40;
        }

        int hanging() {
            return stacks.values().stream().mapToInt(List::size).sum();
        }

        int add(Order order) {
            orders.add(order);
            stacks.computeIfAbsent(order.word, word -> new ArrayList<>()).add(0, orders.size() - 1);
            return orders.size() - 1;
        }

        void remove(int number, Fate fate) {
            Order order = orders.get(number);
            orders.set(number, order.with(order.strength, fate));
            stacks.get(order.word).remove((Integer) number);
        }

        int storm(float force) {
            storms++;
            int fallen = 0;
            for (List<Integer> stack : new ArrayList<>(stacks.values())) {
                for (int place = 0; place < stack.size(); place++) {
                    Order order = orders.get(stack.get(place));
                    float loss = force / (1 + place);
                    orders.set(stack.get(place), order.with(order.strength - loss, Fate.HANGS));
                }
                for (int number : new ArrayList<>(stack)) {
                    if (!(orders.get(number).strength > 0.0f)) {
                        remove(number, Fate.FELL);
                        fallen++;
                    }
                }
            }
            return fallen;
        }

        Integer ruler(int word) {
            Integer best = null;
            for (int number : stack(word)) {
                if (best == null || rankOf(number) > rankOf(best)) {
                    best = number;
                }
            }
            return best;
        }

        int rankOf(int number) {
            return ranks.get(orders.get(number).person);
        }

        /** The words from a word on, link by link, to the end or until one comes again, which is then the last. */
        List<Integer> path(int word) {
            List<Integer> path = new ArrayList<>();
            Set<Integer> seen = new HashSet<>();
            Integer here = word;
            while (here != null) {
                path.add(here);
                if (!seen.add(here)) {
                    break;
                }
                Integer ruler = ruler(here);
                here = ruler == null ? null : orders.get(ruler).link;
            }
            return path;
        }

        boolean endsInRing(int word) {
            List<Integer> path = path(word);
            return path.indexOf(path.get(path.size() - 1)) < path.size() - 1;
        }

        boolean isInRing(int word) {
            List<Integer> path = path(word);
            return path.size() > 1 && path.get(path.size() - 1) == word;
        }

        /** Null where there is no value. */
        Float wordValue(int word) {
            Integer ruler = ruler(word);
            return ruler == null || endsInRing(word) ? null : orderValue(ruler);
        }

        Float orderValue(int number) {
            Order order = orders.get(number);
            if (order.link == null) {
                return order.number;
            }
            Float linked = wordValue(order.link);
            if (linked == null) {
                return null;
            }
            float product = linked * order.factor;
            float sum = product + order.number;
            return sum < -1.0e9f || sum > 1.0e9f ? null : sum;
        }

        boolean differ(Float one, Float other) {
            if (one == null || other == null) {
                return one != other;
            }
            return Math.abs(one - other) > Float.intBitsToFloat(tolerance);
        }

        int rival(int word) {
            Integer ruler = ruler(word);
            for (int number : stack(word)) {
                if (orders.get(number).person != orders.get(ruler).person && rankOf(number) == rankOf(ruler)
                        && differ(orderValue(number), orderValue(ruler))) {
                    return number;
                }
            }
            return NONE;
        }

        boolean dependsOn(int word, int goal) {
            List<Integer> path = path(word);
            return path.subList(1, path.size()).contains(goal);
        }
    }

    private State state = new State();
    private State snapshot;
    private final Deque<State> history = new ArrayDeque<>();
    private final StringBuilder text = new StringBuilder();

    private void record() {
        history.addLast(state.copy());
        if (history.size() > 4) {
            history.removeFirst();
        }
    }

    private static boolean isRank(int rank) {
        return 1 <= rank && rank <= 5;
    }

    private static boolean isWord(int word) {
        return 0 <= word && word <= 15;
    }

    private static boolean isFrom(int bits, float least, float most) {
        float number = Float.intBitsToFloat(bits);
        return number >= least && number <= most;
    }

    private static boolean isNumber(int bits) {
        return isFrom(bits, -1000.0f, 1000.0f);
    }

    private static boolean isStrength(int bits) {
        return isFrom(bits, 0.1f, 10.0f);
    }

    int addPerson(int rank) {
        if (!isRank(rank)) {
            return BAD_VALUE;
        }
        if (state.ranks.size() == 6) {
            return FULL;
        }
        record();
        state.ranks.add(rank);
        return state.ranks.size() - 1;
    }

    int setRank(int person, int rank) {
        if (!state.isPerson(person)) {
            return UNKNOWN;
        }
        if (!isRank(rank)) {
            return BAD_VALUE;
        }
        if (state.ranks.get(person) == rank) {
            return NONE;
        }
        record();
        return state.ranks.set(person, rank);
    }

    int setTolerance(int bits) {
        if (!isFrom(bits, 0.0f, 100.0f) || bits == Integer.MIN_VALUE) {
            return BAD_VALUE;
        }
        if (bits == state.tolerance) {
            return NONE;
        }
        record();
        state.tolerance = bits;
        return 1;
    }

    int nail(int person, int word, int bits, int strength) {
        if (!state.isPerson(person) || !isWord(word)) {
            return UNKNOWN;
        }
        if (!isNumber(bits) || !isStrength(strength)) {
            return BAD_VALUE;
        }
        if (state.isFull()) {
            return FULL;
        }
        record();
        return state.add(new Order(person, word, null, 1.0f, Float.intBitsToFloat(bits), Float.intBitsToFloat(strength),
                Fate.HANGS));
    }

    int nailLink(int person, int word, int other, int factor, int number, int strength) {
        if (!state.isPerson(person) || !isWord(word) || !isWord(other)) {
            return UNKNOWN;
        }
        if (!isNumber(factor) || !isNumber(number) || !isStrength(strength) || word == other) {
            return BAD_VALUE;
        }
        if (state.isFull()) {
            return FULL;
        }
        record();
        return state.add(new Order(person, word, other, Float.intBitsToFloat(factor), Float.intBitsToFloat(number),
                Float.intBitsToFloat(strength), Fate.HANGS));
    }

    int tear(int order) {
        if (!state.isOrder(order)) {
            return UNKNOWN;
        }
        if (!state.orders.get(order).hangs()) {
            return NONE;
        }
        record();
        state.remove(order, Fate.TORN);
        return state.stack(state.orders.get(order).word).size();
    }

    int hammer(int number) {
        if (!state.isOrder(number)) {
            return UNKNOWN;
        }
        Order order = state.orders.get(number);
        if (!order.hangs()) {
            return NOT_POSSIBLE;
        }
        record();
        float strength = order.strength + (10.0f - order.strength) * 0.5f;
        state.orders.set(number, order.with(strength, Fate.HANGS));
        return (int) (strength * 100.0f);
    }

    int storm(int bits) {
        if (!isStrength(bits)) {
            return BAD_VALUE;
        }
        record();
        return state.storm(Float.intBitsToFloat(bits));
    }

    int type(char character) {
        if (text.length() == 60) {
            return FULL;
        }
        text.append(character);
        return text.length();
    }

    int clearText() {
        int length = text.length();
        text.setLength(0);
        return length;
    }

    /** The longest beginning that could still become a text of orders ends at the fault; -1 if there is none. */
    private int fault() {
        if (WHOLE_TEXT.matcher(text).matches()) {
            return -1;
        }
        int fault = 0;
        for (int length = 0; length <= text.length(); length++) {
            Matcher matcher = WHOLE_TEXT.matcher(text.substring(0, length));
            if (matcher.matches() || matcher.hitEnd()) {
                fault = length;
            }
        }
        return fault;
    }

    private static float number(String read) {
        int whole = Integer.parseInt(read.replace(".", ""));
        return whole / 10.0f;
    }

    private static int bitsOf(String read) {
        return Float.floatToRawIntBits(number(read));
    }

    int readOrders(int person, int strength) {
        if (!state.isPerson(person)) {
            return UNKNOWN;
        }
        if (!isStrength(strength)) {
            return BAD_VALUE;
        }
        int fault = fault();
        if (fault >= 0) {
            return -100 - fault;
        }
        State before = state.copy();
        Deque<State> historyBefore = new ArrayDeque<>(history);
        int read = 0;
        int error = 0;
        for (String order : text.toString().split(";")) {
            int answer = readOrder(person, strength, order);
            if (answer < 0) {
                error = answer;
                break;
            }
            read++;
        }
        history.clear();
        history.addAll(historyBefore);
        State after = state;
        state = before;
        if (error < 0) {
            return error;
        }
        record();
        state = after;
        return read;
    }

    private int readOrder(int person, int strength, String order) {
        Matcher matcher = ONE_ORDER.matcher(order);
        if (!matcher.matches()) {
            throw new IllegalStateException(order);
        }
        int word = Integer.parseInt(matcher.group(1));
        if (matcher.group(2) != null) {
            return nail(person, word, bitsOf(matcher.group(2)), strength);
        }
        int number = matcher.group(5) == null ? 0 : bitsOf(matcher.group(5));
        return nailLink(person, word, Integer.parseInt(matcher.group(3)), bitsOf(matcher.group(4)), number, strength);
    }

    int undo() {
        if (history.isEmpty()) {
            return NONE;
        }
        state = history.removeLast();
        return history.size();
    }

    int keep() {
        snapshot = state.copy();
        return state.hanging();
    }

    int restore() {
        if (snapshot == null) {
            return NONE;
        }
        record();
        state = snapshot.copy();
        return state.hanging();
    }

    private static float orNaN(Float number) {
        return number == null ? Float.NaN : number;
    }

    float value(int word) {
        return isWord(word) ? orNaN(state.wordValue(word)) : Float.NaN;
    }

    float valueOf(int order) {
        return state.isOrder(order) ? orNaN(state.orderValue(order)) : Float.NaN;
    }

    int word(int word, int what) {
        if (!isWord(word)) {
            return UNKNOWN;
        }
        Integer ruler = state.ruler(word);
        return switch (what) {
            case 0 -> ruler == null ? NONE : ruler;
            case 1 -> hangsAt(word, 0);
            case 2 -> state.stack(word).size();
            case 3 -> state.wordValue(word) == null ? 0 : 1;
            case 4 -> state.rival(word);
            case 5 -> {
                int bits = 0;
                for (int other = 0; other < 16; other++) {
                    bits += state.dependsOn(other, word) ? 1 << other : 0;
                }
                yield bits;
            }
            case 6 -> state.endsInRing(word) ? NONE : state.path(word).size() - 1;
            default -> BAD_VALUE;
        };
    }

    int hangsAt(int word, int place) {
        if (!isWord(word)) {
            return UNKNOWN;
        }
        if (place < 0) {
            return BAD_VALUE;
        }
        return place < state.stack(word).size() ? state.stack(word).get(place) : NONE;
    }

    int order(int number, int what) {
        if (!state.isOrder(number)) {
            return UNKNOWN;
        }
        Order order = state.orders.get(number);
        List<Integer> stack = state.stack(order.word);
        int place = stack.indexOf(number);
        return switch (what) {
            case 0 -> order.person;
            case 1 -> order.word;
            case 2 -> order.link == null ? NONE : order.link;
            case 3 -> place < 0 ? 0 : 1;
            case 4 -> place < 0 ? NONE : place;
            case 5 -> place < 0 ? NONE : stack.size() - 1 - place;
            case 6 -> (int) (order.strength * 100.0f);
            case 7 -> Integer.valueOf(number).equals(state.ruler(order.word)) ? 1 : 0;
            default -> BAD_VALUE;
        };
    }

    float real(int number, int what) {
        if (!state.isOrder(number)) {
            return Float.NaN;
        }
        Order order = state.orders.get(number);
        return switch (what) {
            case 0 -> order.number;
            case 1 -> order.factor;
            case 2 -> order.strength;
            default -> Float.NaN;
        };
    }

    int reason(int word, int step) {
        if (!isWord(word)) {
            return UNKNOWN;
        }
        if (step < 0 || step > 16) {
            return BAD_VALUE;
        }
        Integer ruler = state.ruler(word);
        if (ruler == null) {
            return NONE;
        }
        if (step == 0) {
            return ruler;
        }
        Integer link = state.orders.get(ruler).link;
        return link == null ? NONE : reason(link, step - 1);
    }

    int changesWithout(int order) {
        if (!state.isOrder(order)) {
            return UNKNOWN;
        }
        if (!state.orders.get(order).hangs()) {
            return NONE;
        }
        State without = state.copy();
        without.remove(order, Fate.TORN);
        int changes = 0;
        for (int word = 0; word < 16; word++) {
            changes += state.differ(state.wordValue(word), without.wordValue(word)) ? 1 : 0;
        }
        return changes;
    }

    int stormsLeft(int order, int bits) {
        if (!state.isOrder(order)) {
            return UNKNOWN;
        }
        if (!isStrength(bits)) {
            return BAD_VALUE;
        }
        State trial = state.copy();
        for (int storms = 0; storms <= 200; storms++) {
            if (!trial.orders.get(order).hangs()) {
                return storms == 0 ? NONE : storms;
            }
            trial.storm(Float.intBitsToFloat(bits));
        }
        return NONE;
    }

    int person(int person, int what) {
        if (!state.isPerson(person)) {
            return UNKNOWN;
        }
        int bits = 0;
        int rules = 0;
        int hanging = 0;
        for (int word = 0; word < 16; word++) {
            for (int number : state.stack(word)) {
                if (state.orders.get(number).person == person) {
                    bits |= 1 << word;
                    hanging++;
                    rules += state.ruler(word) == number ? 1 : 0;
                }
            }
        }
        return switch (what) {
            case 0 -> state.ranks.get(person);
            case 1 -> (int) state.orders.stream().filter(order -> order.person == person).count();
            case 2 -> hanging;
            case 3 -> rules;
            case 4 -> bits;
            default -> BAD_VALUE;
        };
    }

    int count(int what) {
        int valued = 0;
        int ruledWithout = 0;
        int conflicts = 0;
        int rings = 0;
        for (int word = 0; word < 16; word++) {
            boolean hasValue = state.wordValue(word) != null;
            valued += hasValue ? 1 : 0;
            ruledWithout += !hasValue && !state.stack(word).isEmpty() ? 1 : 0;
            conflicts += state.rival(word) == NONE ? 0 : 1;
            rings += state.isInRing(word) ? 1 : 0;
        }
        return switch (what) {
            case 0 -> state.ranks.size();
            case 1 -> state.orders.size();
            case 2 -> state.hanging();
            case 3 -> (int) state.orders.stream().filter(order -> order.fate == Fate.FELL).count();
            case 4 -> (int) state.orders.stream().filter(order -> order.fate == Fate.TORN).count();
            case 5 -> valued;
            case 6 -> ruledWithout;
            case 7 -> conflicts;
            case 8 -> rings;
            case 9 -> state.storms;
            case 10 -> state.tolerance;
            case 11 -> history.size();
            case 12 -> text.length();
            default -> BAD_VALUE;
        };
    }
}
