import java.util.ArrayDeque;
import java.util.ArrayList;
import java.util.Arrays;
import java.util.HashMap;
import java.util.HashSet;
import java.util.List;
import java.util.Map;
import java.util.NoSuchElementException;
import java.util.Random;
import java.util.Set;

/**
 * Long runs of calls on the class and on a second, slower program for the same document, which
 * holds fences by rows and columns; every call must answer alike. The seeds are fixed.
 */
public final class ModelTest {
    private static final int CALLS = 512;

    /** The second program. It may use the whole Java library. */
    private static final class Model {
        static final class State {
            boolean[][] level = new boolean[4][4];
            boolean[][] upright = new boolean[3][5];
            int[][] owner = new int[3][4];
            int turn;
            int[] won = new int[2];
            int even;
            int doubles;

            State() {
                clear();
            }

            void clear() {
                level = new boolean[4][4];
                upright = new boolean[3][5];
                for (int[] row : owner) {
                    Arrays.fill(row, -1);
                }
                turn = 0;
            }

            State copy() {
                State other = new State();
                for (int i = 0; i < 4; i++) {
                    other.level[i] = level[i].clone();
                }
                for (int i = 0; i < 3; i++) {
                    other.upright[i] = upright[i].clone();
                    other.owner[i] = owner[i].clone();
                }
                other.turn = turn;
                other.won = won.clone();
                other.even = even;
                other.doubles = doubles;
                return other;
            }

            boolean at(int fence) {
                return fence < 16 ? level[fence / 4][fence % 4] : upright[(fence - 16) / 5][(fence - 16) % 5];
            }

            void set(int fence, boolean value) {
                if (fence < 16) {
                    level[fence / 4][fence % 4] = value;
                } else {
                    upright[(fence - 16) / 5][(fence - 16) % 5] = value;
                }
            }

            int[] fencesOfBox(int row, int column) {
                return new int[] {4 * row + column, 4 * row + column + 4,
                    16 + 5 * row + column, 16 + 5 * row + column + 1};
            }

            int has(int row, int column) {
                int n = 0;
                for (int f : fencesOfBox(row, column)) {
                    n += at(f) ? 1 : 0;
                }
                return n;
            }

            List<int[]> beside(int fence) {
                List<int[]> boxes = new ArrayList<>();
                for (int row = 0; row < 3; row++) {
                    for (int column = 0; column < 4; column++) {
                        for (int f : fencesOfBox(row, column)) {
                            if (f == fence) {
                                boxes.add(new int[] {row, column});
                            }
                        }
                    }
                }
                return boxes;
            }

            int drawn() {
                int n = 0;
                for (int f = 0; f < 31; f++) {
                    n += at(f) ? 1 : 0;
                }
                return n;
            }

            int with(int count) {
                int n = 0;
                for (int b = 0; b < 12; b++) {
                    n += has(b / 4, b % 4) == count ? 1 : 0;
                }
                return n;
            }

            int owned(int player) {
                int n = 0;
                for (int b = 0; b < 12; b++) {
                    n += owner[b / 4][b % 4] == player ? 1 : 0;
                }
                return n;
            }

            int draw(int fence) {
                set(fence, true);
                int closed = 0;
                for (int[] box : beside(fence)) {
                    if (has(box[0], box[1]) == 4) {
                        owner[box[0]][box[1]] = turn;
                        closed++;
                    }
                }
                doubles += closed == 2 ? 1 : 0;
                turn = closed == 0 ? 1 - turn : turn;
                if (drawn() == 31) {
                    int ahead = owned(0) - owned(1);
                    if (ahead == 0) {
                        even++;
                    } else {
                        won[ahead > 0 ? 0 : 1]++;
                    }
                }
                return closed;
            }

            int why(int fence) {
                return drawn() == 31 ? 1 : at(fence) ? 2 : 0;
            }

            /** Takes the highest box first, unlike the class. */
            int taken() {
                State s = copy();
                int n = 0;
                for (int b = 11; b >= 0; b--) {
                    if (s.has(b / 4, b % 4) == 3) {
                        for (int f : s.fencesOfBox(b / 4, b % 4)) {
                            if (!s.at(f)) {
                                n += s.draw(f);
                            }
                        }
                        b = 12;
                    }
                }
                return n;
            }

            boolean safe(int fence) {
                if (at(fence)) {
                    return false;
                }
                for (int[] box : beside(fence)) {
                    int n = has(box[0], box[1]);
                    if (n == 2 || n == 3) {
                        return false;
                    }
                }
                return true;
            }

            int gives(int fence) {
                State s = copy();
                s.set(fence, true);
                return s.taken();
            }

            Set<Integer> chain(int box) {
                Set<Integer> seen = new HashSet<>();
                ArrayDeque<Integer> todo = new ArrayDeque<>();
                if (has(box / 4, box % 4) == 2) {
                    todo.add(box);
                    seen.add(box);
                }
                while (!todo.isEmpty()) {
                    for (int next : linked(todo.remove())) {
                        if (seen.add(next)) {
                            todo.add(next);
                        }
                    }
                }
                return seen;
            }

            List<Integer> linked(int box) {
                List<Integer> found = new ArrayList<>();
                int row = box / 4;
                int column = box % 4;
                if (row > 0 && !level[row][column] && has(row - 1, column) == 2) {
                    found.add(box - 4);
                }
                if (row < 2 && !level[row + 1][column] && has(row + 1, column) == 2) {
                    found.add(box + 4);
                }
                if (column > 0 && !upright[row][column] && has(row, column - 1) == 2) {
                    found.add(box - 1);
                }
                if (column < 3 && !upright[row][column + 1] && has(row, column + 1) == 2) {
                    found.add(box + 1);
                }
                return found;
            }

            /** How many chains, rings, long chains there are. */
            int[] chains() {
                int[] counts = new int[3];
                Set<Integer> seen = new HashSet<>();
                for (int b = 0; b < 12; b++) {
                    Set<Integer> chain = chain(b);
                    if (!chain.isEmpty() && seen.add(b)) {
                        seen.addAll(chain);
                        boolean ring = chain.size() >= 4;
                        for (int member : chain) {
                            ring &= linked(member).size() == 2;
                        }
                        counts[0]++;
                        counts[1] += ring ? 1 : 0;
                        counts[2] += !ring && chain.size() >= 3 ? 1 : 0;
                    }
                }
                return counts;
            }

            /** All orders are tried; the sets already met are held in the map, if there is one. */
            int end(Map<Integer, Integer> known) {
                int key = 0;
                int best = -99;
                for (int f = 0; f < 31; f++) {
                    key |= at(f) ? 1 << f : 0;
                }
                if (known != null && known.containsKey(key)) {
                    return known.get(key);
                }
                for (int f = 0; f < 31; f++) {
                    if (!at(f)) {
                        best = Math.max(best, reach(f, known));
                    }
                }
                best = best == -99 ? 0 : best;
                if (known != null) {
                    known.put(key, best);
                }
                return best;
            }

            int reach(int fence, Map<Integer, Integer> known) {
                set(fence, true);
                int closed = 0;
                for (int[] box : beside(fence)) {
                    closed += has(box[0], box[1]) == 4 ? 1 : 0;
                }
                int rest = end(known);
                set(fence, false);
                return closed == 0 ? -rest : closed + rest;
            }
        }

        State now = new State();
        State kept;
        ArrayDeque<State> history = new ArrayDeque<>();
        String text = "";
        int[] fault;
        int orders;

        void record() {
            history.addLast(now.copy());
            if (history.size() == 5) {
                history.removeFirst();
            }
        }

        /** The state behind the text; fault is null or the position, the reason, the cause. */
        State tried() {
            State s = now.copy();
            fault = null;
            orders = 0;
            int start = 0;
            while (start < text.length()) {
                String rest = text.substring(start);
                if (!rest.matches("(?s)(n|f[0-9]{1,2});.*")) {
                    fault = new int[] {start, 1, breakOff(rest)};
                    return s;
                }
                String order = rest.substring(0, rest.indexOf(';'));
                if (order.equals("n")) {
                    s.clear();
                } else {
                    int fence = Integer.parseInt(order.substring(1));
                    if (fence > 30 || s.why(fence) != 0) {
                        fault = new int[] {start, 2, fence > 30 ? 1 : 2};
                        return s;
                    }
                    s.draw(fence);
                }
                orders++;
                start += order.length() + 1;
            }
            return s;
        }

        /** The length of the longest beginning that an order could have. */
        static int breakOff(String rest) {
            int longest = 0;
            for (int n = 1; n <= rest.length(); n++) {
                if (rest.substring(0, n).matches("n|n;|f|f[0-9]|f[0-9];|f[0-9][0-9]|f[0-9][0-9];")) {
                    longest = n;
                } else {
                    break;
                }
            }
            return longest;
        }

        double call(String name, int a) {
            switch (name) {
                case "draw":
                    range(a, 0, 30);
                    state(now.why(a) == 0);
                    record();
                    return now.draw(a);
                case "newGame":
                    int before = now.drawn();
                    record();
                    now.clear();
                    return before;
                case "isDrawn":
                    range(a, 0, 30);
                    return now.at(a) ? 1 : 0;
                case "drawn":
                    return now.drawn();
                case "fencesOf":
                    range(a, 0, 11);
                    return now.has(a / 4, a % 4);
                case "ownerOf":
                    range(a, 0, 11);
                    there(now.owner[a / 4][a % 4] >= 0);
                    return now.owner[a / 4][a % 4];
                case "boxesOf":
                    range(a, 0, 1);
                    return now.owned(a);
                case "boxesWith":
                    range(a, 0, 4);
                    return now.with(a);
                case "turn":
                    return now.turn;
                case "whyNot":
                    range(a, 0, 30);
                    return now.why(a);
                case "isOver":
                    return now.drawn() == 31 ? 1 : 0;
                default:
                    return callMore(name, a);
            }
        }

        double callMore(String name, int a) {
            int found = -1;
            int count = 0;
            switch (name) {
                case "canTake":
                case "canTakeByRounds":
                    return now.taken();
                case "takingFence":
                    for (int f = 30; f >= 0; f--) {
                        for (int[] box : now.beside(f)) {
                            found = !now.at(f) && now.has(box[0], box[1]) == 3 ? f : found;
                        }
                    }
                    there(found >= 0);
                    return found;
                case "isSafe":
                    range(a, 0, 30);
                    return now.safe(a) ? 1 : 0;
                case "safeFences":
                    for (int f = 0; f < 31; f++) {
                        count += now.safe(f) ? 1 : 0;
                    }
                    return count;
                case "safeInRow":
                    State s = now.copy();
                    for (int f = 0; f < 31; f++) {
                        if (s.safe(f)) {
                            s.set(f, true);
                            count++;
                        }
                    }
                    return count;
                case "gives":
                    range(a, 0, 30);
                    state(!now.at(a));
                    return now.gives(a);
                case "leastSacrifice":
                    for (int f = 30; f >= 0; f--) {
                        found = !now.at(f) && (found < 0 || now.gives(f) <= now.gives(found)) ? f : found;
                    }
                    there(found >= 0);
                    return found;
                case "chains":
                    return now.chains()[0];
                case "rings":
                    return now.chains()[1];
                case "longChains":
                    return now.chains()[2];
                case "ruleHoldsFor":
                    return now.chains()[2] % 2;
                case "chainOf":
                    range(a, 0, 11);
                    there(!now.chain(a).isEmpty());
                    return now.chain(a).size();
                default:
                    return callEnds(name, a);
            }
        }

        double callEnds(String name, int a) {
            switch (name) {
                case "endDifference":
                case "endByTrying":
                    there(now.drawn() >= 23);
                    return now.end(new HashMap<>());
                case "bestFence":
                    there(now.drawn() >= 23 && now.drawn() < 31);
                    Map<Integer, Integer> known = new HashMap<>();
                    for (int f = 0; ; f++) {
                        if (!now.at(f) && now.reach(f, known) == now.end(known)) {
                            return f;
                        }
                    }
                case "won":
                    range(a, 0, 1);
                    return now.won[a];
                case "evenGames":
                    return now.even;
                case "doubleDeals":
                    return now.doubles;
                case "share":
                    return (float) now.with(4) / 12f;
                case "keep":
                    kept = now.copy();
                    return kept.drawn();
                case "goBack":
                    state(kept != null);
                    record();
                    now = kept.copy();
                    return now.drawn();
                case "states":
                    return history.size();
                case "undo":
                    state(!history.isEmpty());
                    now = history.removeLast();
                    return history.size();
                default:
                    return callTexts(name, a);
            }
        }

        double callTexts(String name, int a) {
            State behind = tried();
            switch (name) {
                case "type":
                    range(a, 32, 126);
                    state(text.length() < 60);
                    text += (char) a;
                    return text.length();
                case "clearText":
                    int before = text.length();
                    text = "";
                    return before;
                case "faultPosition":
                    there(fault != null);
                    return fault[0];
                case "faultReason":
                    there(fault != null);
                    return fault[1];
                case "faultCause":
                    there(fault != null);
                    return fault[2];
                case "play":
                    state(fault == null);
                    record();
                    now = behind;
                    return orders;
                default:
                    throw new AssertionError(name);
            }
        }

        static void range(int value, int low, int high) {
            if (value < low || value > high) {
                throw new IllegalArgumentException();
            }
        }

        static void state(boolean holds) {
            if (!holds) {
                throw new IllegalStateException();
            }
        }

        static void there(boolean holds) {
            if (!holds) {
                throw new NoSuchElementException();
            }
        }
    }

    private static final String[] ASKED = {"isDrawn", "drawn", "fencesOf", "ownerOf", "boxesOf",
        "boxesWith", "turn", "whyNot", "isOver", "canTake", "canTakeByRounds", "takingFence",
        "isSafe", "safeFences", "safeInRow", "gives", "leastSacrifice", "chains", "chainOf",
        "rings", "longChains", "ruleHoldsFor", "endDifference", "endByTrying", "bestFence", "won",
        "evenGames", "doubleDeals", "share", "states", "faultPosition", "faultReason", "faultCause"};

    private static final String[] RARELY = {"newGame", "keep", "goBack", "undo", "clearText", "play"};

    private static double callReal(FencedBoxes x, String name, int a) {
        switch (name) {
            case "draw": return x.draw(a);
            case "newGame": return x.newGame();
            case "isDrawn": return x.isDrawn(a) ? 1 : 0;
            case "drawn": return x.drawn();
            case "fencesOf": return x.fencesOf(a);
            case "ownerOf": return x.ownerOf(a);
            case "boxesOf": return x.boxesOf(a);
            case "boxesWith": return x.boxesWith(a);
            case "turn": return x.turn();
            case "whyNot": return x.whyNot(a);
            case "isOver": return x.isOver() ? 1 : 0;
            case "canTake": return x.canTake();
            case "canTakeByRounds": return x.canTakeByRounds();
            case "takingFence": return x.takingFence();
            case "isSafe": return x.isSafe(a) ? 1 : 0;
            case "safeFences": return x.safeFences();
            case "safeInRow": return x.safeInRow();
            case "gives": return x.gives(a);
            case "leastSacrifice": return x.leastSacrifice();
            case "chains": return x.chains();
            case "chainOf": return x.chainOf(a);
            case "rings": return x.rings();
            case "longChains": return x.longChains();
            case "ruleHoldsFor": return x.ruleHoldsFor();
            case "endDifference": return x.endDifference();
            case "endByTrying": return x.endByTrying();
            case "bestFence": return x.bestFence();
            case "won": return x.won(a);
            case "evenGames": return x.evenGames();
            case "doubleDeals": return x.doubleDeals();
            case "share": return x.share();
            case "keep": return x.keep();
            case "goBack": return x.goBack();
            case "states": return x.states();
            case "undo": return x.undo();
            case "type": return x.type(a);
            case "clearText": return x.clearText();
            case "faultPosition": return x.faultPosition();
            case "faultReason": return x.faultReason();
            case "faultCause": return x.faultCause();
            case "play": return x.play();
            default: throw new AssertionError(name);
        }
    }

    private static String nameOf(RuntimeException e) {
        return "throws " + e.getClass().getSimpleName();
    }

    private static String real(FencedBoxes x, String name, int a) {
        try {
            return String.valueOf(callReal(x, name, a));
        } catch (RuntimeException e) {
            return nameOf(e);
        }
    }

    private static String due(Model m, String name, int a) {
        try {
            return String.valueOf(m.call(name, a));
        } catch (RuntimeException e) {
            return nameOf(e);
        }
    }

    /** A run: its log tells the calls so far, so that a wrong one can be done again. */
    private static final class Run {
        final FencedBoxes x = new FencedBoxes();
        final Model m = new Model();
        final Random random;
        final StringBuilder log = new StringBuilder();
        int calls;
        boolean wrong;

        Run(long seed) {
            random = new Random(seed);
        }

        void call(String name, int a) {
            if (wrong || calls >= CALLS) {
                return;
            }
            calls++;
            String got = real(x, name, a);
            String want = due(m, name, a);
            log.append(name).append('(').append(a).append(") ");
            if (!got.equals(want)) {
                wrong = true;
                System.out.println(log + "answered " + got + ", due is " + want);
            }
        }

        int anyArgument() {
            int kind = random.nextInt(20);
            return kind == 0 ? random.nextInt() : kind == 1 ? -1 : kind < 6 ? random.nextInt(6) : random.nextInt(33);
        }

        /** A fence that is not drawn, often one that the game's good players would draw. */
        int openFence(boolean careful) {
            List<Integer> open = new ArrayList<>();
            List<Integer> safe = new ArrayList<>();
            for (int f = 0; f < 31; f++) {
                if (!m.now.at(f)) {
                    open.add(f);
                }
                if (m.now.safe(f)) {
                    safe.add(f);
                }
            }
            List<Integer> from = careful && !safe.isEmpty() ? safe : open;
            return from.isEmpty() ? random.nextInt(31) : from.get(random.nextInt(from.size()));
        }

        void typeSome() {
            int kind = random.nextInt(12);
            String order = kind == 0 ? "n;" : kind == 1 ? randomSigns() : "f" + number() + ";";
            for (int i = 0; i < order.length(); i++) {
                call("type", order.charAt(i));
            }
        }

        String number() {
            int fence = random.nextInt(15) == 0 ? random.nextInt(100) : openFence(random.nextBoolean());
            return fence < 10 && random.nextBoolean() ? "0" + fence : String.valueOf(fence);
        }

        String randomSigns() {
            String signs = "fn;0123f;9 ~";
            StringBuilder s = new StringBuilder();
            for (int n = random.nextInt(4); n >= 0; n--) {
                s.append(signs.charAt(random.nextInt(signs.length())));
            }
            return s.toString();
        }

        void step(boolean careful, int draws) {
            int kind = random.nextInt(100);
            if (kind < draws) {
                call("draw", openFence(careful));
            } else if (kind < draws + 2) {
                call("draw", anyArgument());
            } else if (kind < draws + 8) {
                typeSome();
            } else if (kind < draws + 10) {
                call("type", random.nextInt(8) == 0 ? random.nextInt(140) - 5 : ';');
            } else if (kind < draws + 15) {
                String name = RARELY[random.nextInt(RARELY.length)];
                call(m.now.drawn() < 31 && name.equals("newGame") && random.nextInt(4) > 0 ? "undo" : name, 0);
            } else {
                call(ASKED[random.nextInt(ASKED.length)], anyArgument());
            }
            if (m.now.drawn() == 31 && random.nextInt(8) == 0) {
                call("newGame", 0);
            }
        }
    }

    public static void main(String[] args) {
        int wrong = 0;
        for (long seed = 1; seed <= 400 && wrong < 5; seed++) {
            Run run = new Run(seed);
            boolean careful = seed % 2 == 0;
            int draws = seed % 3 == 0 ? 60 : 25;
            while (run.calls < CALLS && !run.wrong) {
                run.step(careful, draws);
            }
            wrong += run.wrong ? 1 : 0;
        }
        for (long seed = 1001; seed <= 1300 && wrong < 5; seed++) {
            Run run = new Run(seed);
            for (int i = 0; i < 31 && !run.wrong; i++) {
                run.call("draw", run.openFence(seed % 2 == 0));
                for (String name : new String[] {"canTake", "canTakeByRounds", "leastSacrifice", "safeInRow",
                    "chains", "rings", "longChains", "endDifference", "endByTrying", "bestFence"}) {
                    run.call(name, 0);
                }
            }
            wrong += run.wrong ? 1 : 0;
        }
        System.out.println(wrong == 0 ? "all runs answer as the model" : wrong + " runs do not answer as the model");
        if (wrong != 0) {
            System.exit(1);
        }
    }
}
