import java.util.NoSuchElementException;

/** Fences around twelve boxes, drawn by two players; what each call does is told in DOC.md. */
public final class FencedBoxes {
    private static final int BOXES = 12;
    private static final int COLUMNS = 4;
    private static final int FENCES = 31;
    private static final int LEVEL_FENCES = 16;
    private static final int ALL_FENCES = 0x7FFFFFFF;
    private static final int SIDES = 4;
    private static final int NONE = -1;
    private static final int MOST_STATES = 4;
    private static final int MOST_CHARACTERS = 60;
    private static final int LOWEST_CHARACTER = 32;
    private static final int HIGHEST_CHARACTER = 126;
    private static final int MOST_OPEN_AT_END = 8;
    private static final int GAME_IS_OVER = 1;
    private static final int FENCE_IS_DRAWN = 2;
    private static final int SHORT_CHAIN = 0;
    private static final int LONG_CHAIN = 1;
    private static final int RING = 2;
    private static final int FAULT_OF_FORM = 1;
    private static final int FAULT_OF_CALL = 2;
    private static final int WRONG_ARGUMENT = 1;
    private static final int WRONG_STATE = 2;

    private final Game game;
    private final Game snapshot;
    private final History history;
    private final Orders orders;
    private final Ends ends;
    private boolean hasSnapshot;

    public FencedBoxes() {
        game = new Game();
        snapshot = new Game();
        history = new History();
        orders = new Orders();
        ends = new Ends();
        hasSnapshot = false;
    }

    // ---- changes

    public int draw(int fence) throws IllegalArgumentException, IllegalStateException {
        if (!isFence(fence)) {
            throw new IllegalArgumentException("there is no such fence");
        }
        if (game.refusal(fence) != 0) {
            throw new IllegalStateException("the game is over or the fence is drawn");
        }
        history.record(game);
        return game.put(fence);
    }

    public int newGame() {
        int before = game.countFences();
        history.record(game);
        game.begin();
        return before;
    }

    // ---- fences, boxes

    public boolean isDrawn(int fence) throws IllegalArgumentException {
        if (!isFence(fence)) {
            throw new IllegalArgumentException("there is no such fence");
        }
        return Grid.has(game.fences, fence);
    }

    public int drawn() {
        return game.countFences();
    }

    public int fencesOf(int box) throws IllegalArgumentException {
        if (!isBox(box)) {
            throw new IllegalArgumentException("there is no such box");
        }
        return Grid.countSides(game.fences, box);
    }

    public int ownerOf(int box) throws IllegalArgumentException, NoSuchElementException {
        if (!isBox(box)) {
            throw new IllegalArgumentException("there is no such box");
        }
        if (Grid.countSides(game.fences, box) < SIDES) {
            throw new NoSuchElementException("the box is open");
        }
        return Grid.has(game.closedBy(0), box) ? 0 : 1;
    }

    public int boxesOf(int player) throws IllegalArgumentException {
        if (!isPlayer(player)) {
            throw new IllegalArgumentException("there is no such player");
        }
        return Integer.bitCount(game.closedBy(player));
    }

    public int boxesWith(int fences) throws IllegalArgumentException {
        if (fences < 0 || fences > SIDES) {
            throw new IllegalArgumentException("no box can have so many fences");
        }
        return Integer.bitCount(Grid.boxesHaving(game.fences, fences));
    }

    public int turn() {
        return game.mover;
    }

    public int whyNot(int fence) throws IllegalArgumentException {
        if (!isFence(fence)) {
            throw new IllegalArgumentException("there is no such fence");
        }
        return game.refusal(fence);
    }

    public boolean isOver() {
        return game.hasEnded();
    }

    // ---- taking, giving

    public int canTake() {
        return Taking.oneByOne(game.fences);
    }

    public int canTakeByRounds() {
        return Taking.byRounds(game.fences);
    }

    public int takingFence() throws NoSuchElementException {
        int fence = Grid.lowestFence(Taking.lastFences(game.fences));
        if (fence == NONE) {
            throw new NoSuchElementException("no fence closes a box");
        }
        return fence;
    }

    public boolean isSafe(int fence) throws IllegalArgumentException {
        if (!isFence(fence)) {
            throw new IllegalArgumentException("there is no such fence");
        }
        return Grid.has(Taking.safe(game.fences), fence);
    }

    public int safeFences() {
        return Integer.bitCount(Taking.safe(game.fences));
    }

    public int safeInRow() {
        return Taking.safeOneByOne(game.fences);
    }

    public int gives(int fence) throws IllegalArgumentException, IllegalStateException {
        if (!isFence(fence)) {
            throw new IllegalArgumentException("there is no such fence");
        }
        if (Grid.has(game.fences, fence)) {
            throw new IllegalStateException("the fence is drawn");
        }
        return Taking.givenBy(game.fences, fence);
    }

    public int leastSacrifice() throws NoSuchElementException {
        int fence = Taking.leastGiving(game.fences);
        if (fence == NONE) {
            throw new NoSuchElementException("all fences are drawn");
        }
        return fence;
    }

    // ---- chains

    public int chains() {
        return Chains.count(game.fences, SHORT_CHAIN)
            + Chains.count(game.fences, LONG_CHAIN)
            + Chains.count(game.fences, RING);
    }

    public int chainOf(int box) throws IllegalArgumentException, NoSuchElementException {
        if (!isBox(box)) {
            throw new IllegalArgumentException("there is no such box");
        }
        if (Grid.countSides(game.fences, box) != 2) {
            throw new NoSuchElementException("the box is in no chain");
        }
        return Integer.bitCount(Chains.around(game.fences, box));
    }

    public int rings() {
        return Chains.count(game.fences, RING);
    }

    public int longChains() {
        return Chains.count(game.fences, LONG_CHAIN);
    }

    public int ruleHoldsFor() {
        return Chains.count(game.fences, LONG_CHAIN) & 1;
    }

    // ---- ends

    public int endDifference() throws NoSuchElementException {
        if (!Ends.isNear(game.fences)) {
            throw new NoSuchElementException("too many fences are not drawn");
        }
        ends.workOut(game.fences);
        return ends.difference();
    }

    public int endByTrying() throws NoSuchElementException {
        if (!Ends.isNear(game.fences)) {
            throw new NoSuchElementException("too many fences are not drawn");
        }
        return Ends.byTrying(game.fences);
    }

    public int bestFence() throws NoSuchElementException {
        if (!Ends.isNear(game.fences) || game.hasEnded()) {
            throw new NoSuchElementException("too many fences are not drawn, or none");
        }
        ends.workOut(game.fences);
        return ends.lowestBest();
    }

    // ---- accounts, the snapshot

    public int won(int player) throws IllegalArgumentException {
        if (!isPlayer(player)) {
            throw new IllegalArgumentException("there is no such player");
        }
        return player == 0 ? game.firstWins : game.secondWins;
    }

    public int evenGames() {
        return game.evens;
    }

    public int doubleDeals() {
        return game.doubles;
    }

    public float share() {
        int closed = Integer.bitCount(Grid.boxesHaving(game.fences, SIDES));
        return (float) closed / (float) BOXES;
    }

    public int keep() {
        snapshot.copyFrom(game);
        hasSnapshot = true;
        return game.countFences();
    }

    public int goBack() throws IllegalStateException {
        if (!hasSnapshot) {
            throw new IllegalStateException("there is no snapshot");
        }
        history.record(game);
        game.copyFrom(snapshot);
        return game.countFences();
    }

    // ---- history, texts

    public int states() {
        return history.size;
    }

    public int undo() throws IllegalStateException {
        if (history.size == 0) {
            throw new IllegalStateException("the history is empty");
        }
        history.restoreTo(game);
        return history.size;
    }

    public int type(int character) throws IllegalArgumentException, IllegalStateException {
        if (character < LOWEST_CHARACTER || character > HIGHEST_CHARACTER) {
            throw new IllegalArgumentException("the character is out of range");
        }
        if (orders.isFull()) {
            throw new IllegalStateException("the text is full");
        }
        orders.append(character);
        return orders.length;
    }

    public int clearText() {
        int before = orders.length;
        orders.length = 0;
        return before;
    }

    public int faultPosition() throws NoSuchElementException {
        if (!orders.haveFault(game)) {
            throw new NoSuchElementException("the text has no fault");
        }
        return orders.position;
    }

    public int faultReason() throws NoSuchElementException {
        if (!orders.haveFault(game)) {
            throw new NoSuchElementException("the text has no fault");
        }
        return orders.reason;
    }

    public int faultCause() throws NoSuchElementException {
        if (!orders.haveFault(game)) {
            throw new NoSuchElementException("the text has no fault");
        }
        return orders.cause;
    }

    public int play() throws IllegalStateException {
        if (orders.haveFault(game)) {
            throw new IllegalStateException("the text has a fault");
        }
        history.record(game);
        game.copyFrom(orders.trial);
        return orders.done;
    }

    private static boolean isFence(int fence) {
        return fence >= 0 && fence < FENCES;
    }

    private static boolean isBox(int box) {
        return box >= 0 && box < BOXES;
    }

    private static boolean isPlayer(int player) {
        return player == 0 || player == 1;
    }

    /** How fences and boxes lie; a set of fences or of boxes is an int with a bit for each. */
    private static final class Grid {
        static boolean has(int set, int member) {
            return (set >> member & 1) == 1;
        }

        static boolean isWithin(int part, int set) {
            return (part & ~set) == 0;
        }

        /** The fences of a box; the left and the right one have neighbouring numbers. */
        static int sides(int box) {
            int left = LEVEL_FENCES + (COLUMNS + 1) * (box / COLUMNS) + box % COLUMNS;
            return 1 << box | 1 << box + COLUMNS | 3 << left;
        }

        /** The box above a fence, or to the left of it. */
        static int boxAhead(int fence) {
            if (fence < LEVEL_FENCES) {
                return fence >= COLUMNS ? fence - COLUMNS : NONE;
            }
            int row = (fence - LEVEL_FENCES) / (COLUMNS + 1);
            int column = (fence - LEVEL_FENCES) % (COLUMNS + 1);
            return column > 0 ? COLUMNS * row + column - 1 : NONE;
        }

        /** The box below a fence, or to the right of it. */
        static int boxBehind(int fence) {
            if (fence < LEVEL_FENCES) {
                return fence < BOXES ? fence : NONE;
            }
            int row = (fence - LEVEL_FENCES) / (COLUMNS + 1);
            int column = (fence - LEVEL_FENCES) % (COLUMNS + 1);
            return column < COLUMNS ? COLUMNS * row + column : NONE;
        }

        static int boxesBeside(int fence) {
            int ahead = boxAhead(fence);
            int behind = boxBehind(fence);
            int set = ahead == NONE ? 0 : 1 << ahead;
            return behind == NONE ? set : set | 1 << behind;
        }

        static int countSides(int fences, int box) {
            return Integer.bitCount(fences & sides(box));
        }

        static boolean isClosed(int fences, int box) {
            return box != NONE && isWithin(sides(box), fences);
        }

        static int boxesHaving(int fences, int count) {
            int set = 0;
            for (int box = 0; box < BOXES; box++) {
                if (countSides(fences, box) == count) {
                    set |= 1 << box;
                }
            }
            return set;
        }

        /** Which boxes a fence has closed, it being among the fences. */
        static int closedWith(int fences, int fence) {
            int ahead = boxAhead(fence);
            int behind = boxBehind(fence);
            int set = isClosed(fences, ahead) ? 1 << ahead : 0;
            return isClosed(fences, behind) ? set | 1 << behind : set;
        }

        static int lowestFence(int set) {
            for (int fence = 0; fence < FENCES; fence++) {
                if (has(set, fence)) {
                    return fence;
                }
            }
            return NONE;
        }
    }

    /** All that a state of the history and a snapshot hold. */
    private static final class Game {
        private int fences;
        private int firstBoxes;
        private int secondBoxes;
        private int mover;
        private int firstWins;
        private int secondWins;
        private int evens;
        private int doubles;

        void copyFrom(Game other) {
            fences = other.fences;
            firstBoxes = other.firstBoxes;
            secondBoxes = other.secondBoxes;
            mover = other.mover;
            firstWins = other.firstWins;
            secondWins = other.secondWins;
            evens = other.evens;
            doubles = other.doubles;
        }

        void begin() {
            fences = 0;
            firstBoxes = 0;
            secondBoxes = 0;
            mover = 0;
        }

        int countFences() {
            return Integer.bitCount(fences);
        }

        int closedBy(int player) {
            return player == 0 ? firstBoxes : secondBoxes;
        }

        boolean hasEnded() {
            return fences == ALL_FENCES;
        }

        int refusal(int fence) {
            if (hasEnded()) {
                return GAME_IS_OVER;
            }
            return Grid.has(fences, fence) ? FENCE_IS_DRAWN : 0;
        }

        int put(int fence) {
            fences |= 1 << fence;
            int closed = Grid.closedWith(fences, fence);
            int count = Integer.bitCount(closed);
            if (mover == 0) {
                firstBoxes |= closed;
            } else {
                secondBoxes |= closed;
            }
            if (count == 2) {
                doubles++;
            }
            if (count == 0) {
                mover = 1 - mover;
            }
            if (hasEnded()) {
                settle();
            }
            return count;
        }

        private void settle() {
            int first = Integer.bitCount(firstBoxes);
            int second = Integer.bitCount(secondBoxes);
            if (first > second) {
                firstWins++;
            } else if (second > first) {
                secondWins++;
            } else {
                evens++;
            }
        }
    }

    /** What can be taken, and what a fence gives, when certain fences are drawn. */
    private static final class Taking {
        /** The last fences of all boxes that can be taken. */
        static int lastFences(int fences) {
            int set = 0;
            for (int box = 0; box < BOXES; box++) {
                if (Grid.countSides(fences, box) == SIDES - 1) {
                    set |= Grid.sides(box) & ~fences;
                }
            }
            return set;
        }

        static int oneByOne(int fences) {
            int now = fences;
            int taken = 0;
            for (int times = 0; times < FENCES; times++) {
                int fence = Grid.lowestFence(lastFences(now));
                if (fence == NONE) {
                    return taken;
                }
                now |= 1 << fence;
                taken += Integer.bitCount(Grid.closedWith(now, fence));
            }
            return taken;
        }

        static int byRounds(int fences) {
            int now = fences;
            int closedBefore = Integer.bitCount(Grid.boxesHaving(fences, SIDES));
            for (int rounds = 0; rounds < FENCES; rounds++) {
                int last = lastFences(now);
                if (last == 0) {
                    break;
                }
                now |= last;
            }
            return Integer.bitCount(Grid.boxesHaving(now, SIDES)) - closedBefore;
        }

        static int safe(int fences) {
            int risky = Grid.boxesHaving(fences, 2) | Grid.boxesHaving(fences, 3);
            int set = 0;
            for (int fence = 0; fence < FENCES; fence++) {
                if (!Grid.has(fences, fence) && (Grid.boxesBeside(fence) & risky) == 0) {
                    set |= 1 << fence;
                }
            }
            return set;
        }

        static int safeOneByOne(int fences) {
            int now = fences;
            for (int times = 0; times < FENCES; times++) {
                int fence = Grid.lowestFence(safe(now));
                if (fence == NONE) {
                    return times;
                }
                now |= 1 << fence;
            }
            return FENCES;
        }

        static int givenBy(int fences, int fence) {
            return oneByOne(fences | 1 << fence);
        }

        static int leastGiving(int fences) {
            int least = BOXES + 1;
            int lowest = NONE;
            for (int fence = 0; fence < FENCES; fence++) {
                if (!Grid.has(fences, fence)) {
                    int given = givenBy(fences, fence);
                    if (given < least) {
                        least = given;
                        lowest = fence;
                    }
                }
            }
            return lowest;
        }
    }

    /** The chains that the boxes with two fences form, each a set of boxes. */
    private static final class Chains {
        static int count(int fences, int kind) {
            int twos = Grid.boxesHaving(fences, 2);
            int seen = 0;
            int count = 0;
            for (int box = 0; box < BOXES; box++) {
                if (Grid.has(twos, box) && !Grid.has(seen, box)) {
                    int chain = around(fences, box);
                    seen |= chain;
                    if (kindOf(fences, chain) == kind) {
                        count++;
                    }
                }
            }
            return count;
        }

        /** The chain of a box with two fences: it grows until a round adds none. */
        static int around(int fences, int box) {
            int twos = Grid.boxesHaving(fences, 2);
            int chain = 1 << box;
            for (int rounds = 0; rounds < BOXES; rounds++) {
                int before = chain;
                chain = grown(fences, twos, before);
                if (chain == before) {
                    break;
                }
            }
            return chain;
        }

        private static int grown(int fences, int twos, int chain) {
            int now = chain;
            for (int fence = 0; fence < FENCES; fence++) {
                int beside = Grid.boxesBeside(fence);
                if (!Grid.has(fences, fence) && (beside & now) != 0 && Grid.isWithin(beside, twos)) {
                    now |= beside;
                }
            }
            return now;
        }

        private static int kindOf(int fences, int chain) {
            int size = Integer.bitCount(chain);
            if (size >= 4 && isClosedUpon(fences, chain)) {
                return RING;
            }
            return size >= 3 ? LONG_CHAIN : SHORT_CHAIN;
        }

        /**
         * A box of a chain has just two fences that are not drawn, so it has two boxes of the
         * chain beside it if neither leads out of the chain.
         */
        private static boolean isClosedUpon(int fences, int chain) {
            for (int fence = 0; fence < FENCES; fence++) {
                int beside = Grid.boxesBeside(fence);
                boolean leadsOut = Integer.bitCount(beside) < 2 || !Grid.isWithin(beside, chain);
                if (!Grid.has(fences, fence) && (beside & chain) != 0 && leadsOut) {
                    return false;
                }
            }
            return true;
        }
    }

    /** Ends of games: with remembering in a row that is used again, and by trying alone. */
    private static final class Ends {
        private final int[] open = new int[MOST_OPEN_AT_END];
        private final int[] found = new int[1 << MOST_OPEN_AT_END];
        private int size;

        static boolean isNear(int fences) {
            return FENCES - Integer.bitCount(fences) <= MOST_OPEN_AT_END;
        }

        /** Smaller sets of open fences stand ahead of greater ones, so what is asked for is found. */
        void workOut(int fences) {
            size = 0;
            for (int fence = 0; fence < FENCES; fence++) {
                if (!Grid.has(fences, fence) && size < MOST_OPEN_AT_END) {
                    open[size] = fence;
                    size++;
                }
            }
            for (int set = 0; set < 1 << size; set++) {
                found[set] = bestOf(set);
            }
        }

        int difference() {
            return found[(1 << size) - 1];
        }

        int lowestBest() {
            int all = (1 << size) - 1;
            int fences = drawnBut(all);
            for (int place = 0; place < size; place++) {
                if (reachedBy(all, fences, place) == found[all]) {
                    return open[place];
                }
            }
            return NONE;
        }

        private int bestOf(int set) {
            int fences = drawnBut(set);
            int best = set == 0 ? 0 : -BOXES;
            for (int place = 0; place < size; place++) {
                if (Grid.has(set, place)) {
                    best = Math.max(best, reachedBy(set, fences, place));
                }
            }
            return best;
        }

        private int reachedBy(int set, int fences, int place) {
            int closed = Integer.bitCount(Grid.closedWith(fences | 1 << open[place], open[place]));
            int rest = found[set & ~(1 << place)];
            return closed > 0 ? closed + rest : -rest;
        }

        private int drawnBut(int set) {
            int fences = ALL_FENCES;
            for (int place = 0; place < size; place++) {
                if (Grid.has(set, place)) {
                    fences &= ~(1 << open[place]);
                }
            }
            return fences;
        }

        static int byTrying(int fences) {
            int left = BOXES - Integer.bitCount(Grid.boxesHaving(fences, SIDES));
            return tryOut(fences, left, -left, left, 0);
        }

        /**
         * Exact between low and high, the differences that still matter. What lies outside them,
         * or follows when all boxes that are left are got, is not tried to its end: otherwise 8
         * fences would be tried in all their 40320 orders.
         */
        private static int tryOut(int fences, int left, int low, int high, int depth) {
            if (fences == ALL_FENCES || depth >= MOST_OPEN_AT_END) {
                return 0;
            }
            if (left <= low) {
                return left;
            }
            int best = -left;
            int enough = Math.min(left, high);
            for (int fence = 0; fence < FENCES && best < enough; fence++) {
                if (!Grid.has(fences, fence)) {
                    int next = fences | 1 << fence;
                    int closed = Integer.bitCount(Grid.closedWith(next, fence));
                    int from = Math.max(best, low);
                    int reached = closed > 0
                        ? closed + tryOut(next, left - closed, from - closed, enough - closed, depth + 1)
                        : -tryOut(next, left, -enough, -from, depth + 1);
                    best = Math.max(best, reached);
                }
            }
            return best;
        }
    }

    /** The latest states, the oldest first; their objects are used again. */
    private static final class History {
        private final Game[] kept = new Game[MOST_STATES];
        private int size;

        History() {
            for (int place = 0; place < MOST_STATES; place++) {
                kept[place] = new Game();
            }
        }

        void record(Game game) {
            if (size == MOST_STATES) {
                dropOldest();
            }
            kept[size].copyFrom(game);
            size++;
        }

        void restoreTo(Game game) {
            if (size > 0) {
                size--;
                game.copyFrom(kept[size]);
            }
        }

        private void dropOldest() {
            Game oldest = kept[0];
            for (int place = 1; place < MOST_STATES; place++) {
                kept[place - 1] = kept[place];
            }
            kept[MOST_STATES - 1] = oldest;
            size--;
        }
    }

    /** The text of orders, and what was found when it was last done on a game. */
    private static final class Orders {
        private final char[] characters = new char[MOST_CHARACTERS];
        private final Game trial = new Game();
        private int length;
        private int position;
        private int reason;
        private int cause;
        private int done;

        boolean isFull() {
            return length >= MOST_CHARACTERS;
        }

        void append(int character) {
            if (!isFull()) {
                characters[length] = (char) character;
                length++;
            }
        }

        /** Does the orders on the trial game, up to the first at fault, so that the game stays. */
        boolean haveFault(Game game) {
            trial.copyFrom(game);
            position = 0;
            done = 0;
            for (int times = 0; times < MOST_CHARACTERS && position < length; times++) {
                int fitting = fittingAt(position);
                if (fitting == 0 || at(position + fitting - 1) != ';') {
                    reason = FAULT_OF_FORM;
                    cause = fitting;
                    return true;
                }
                cause = doOrder(fitting);
                if (cause != 0) {
                    reason = FAULT_OF_CALL;
                    return true;
                }
                position += fitting;
                done++;
            }
            return false;
        }

        /** Which exception the call for the order at the position throws; 0 if it was done. */
        private int doOrder(int size) {
            if (at(position) == 'n') {
                trial.begin();
                return 0;
            }
            int fence = numberAt(position + 1, size - 2);
            if (!isFence(fence)) {
                return WRONG_ARGUMENT;
            }
            if (trial.refusal(fence) != 0) {
                return WRONG_STATE;
            }
            trial.put(fence);
            return 0;
        }

        /** How many characters from a place on are as in an order, up to its ";". */
        private int fittingAt(int start) {
            int letter = at(start);
            int digits = letter == 'f' ? digitsAt(start + 1) : 0;
            if (letter != 'n' && digits == 0) {
                return letter == 'f' ? 1 : 0;
            }
            return at(start + 1 + digits) == ';' ? digits + 2 : digits + 1;
        }

        private int digitsAt(int start) {
            if (!isDigit(at(start))) {
                return 0;
            }
            return isDigit(at(start + 1)) ? 2 : 1;
        }

        private int numberAt(int start, int digits) {
            int number = 0;
            for (int place = 0; place < digits; place++) {
                number = 10 * number + at(start + place) - '0';
            }
            return number;
        }

        private int at(int place) {
            return place >= 0 && place < length && place < MOST_CHARACTERS ? characters[place] : NONE;
        }

        private static boolean isDigit(int character) {
            return character >= '0' && character <= '9';
        }
    }
}
