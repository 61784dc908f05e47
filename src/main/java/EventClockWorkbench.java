import java.util.NoSuchElementException;

/** A workbench for two event-recording automata in discrete time. */
public final class EventClockWorkbench {
    private static final int LETTERS = 3;
    private static final int STATES = 4;
    private static final int SETS = 16;
    private static final int ALL_STATES = 15;
    private static final int MOST_TRANSITIONS = 10;
    private static final int MOST_CONSTRAINTS = 4;
    private static final int MOST_EVENTS = 10;
    private static final int MOST_CHARACTERS = 30;
    private static final int MOST_CHANGES = 8;
    private static final int LONGEST_DELAY = 4;
    private static final int NONE = -1;

    private final Automaton firstAutomaton = new Automaton();
    private final Automaton secondAutomaton = new Automaton();
    private final Powerset firstPowerset = new Powerset();
    private final Powerset secondPowerset = new Powerset();
    private final Powerset emptyPowerset = new Powerset();
    private final GuardText text = new GuardText();
    private final TimedWord word = new TimedWord();
    private final Runs runs = new Runs();
    private final Search search = new Search();
    private final WordCounter counter = new WordCounter();
    private final History history = new History();

    public EventClockWorkbench() {
    }

    public int appendCharacter(int character) throws IllegalArgumentException, IllegalStateException {
        requireArgument(isBetween(character, 33, 126));
        requireState(text.hasRoom());
        return text.append(character);
    }

    public int faultPosition() {
        return text.fault;
    }

    public int addTransition(int slot, int from, int letter, int to)
            throws IndexOutOfBoundsException, IllegalArgumentException, IllegalStateException {
        requireIndex(slot, 2);
        requireIndex(from, STATES);
        requireIndex(letter, LETTERS);
        requireIndex(to, STATES);
        text.read();
        requireArgument(text.fault == NONE);
        Automaton automaton = automaton(slot);
        requireState(automaton.size() < MOST_TRANSITIONS);
        beginChange();
        return automaton.add(from, letter, to, text);
    }

    public int removeTransition(int slot, int transition) throws IndexOutOfBoundsException {
        requireTransition(slot, transition);
        beginChange();
        return automaton(slot).remove(transition);
    }

    public boolean setInitial(int slot, int state, boolean on) throws IndexOutOfBoundsException {
        requireIndex(slot, 2);
        requireIndex(state, STATES);
        beginChange();
        Automaton automaton = automaton(slot);
        int before = automaton.initialStates();
        automaton.putInitialStates(withState(before, state, on));
        return hasState(before, state);
    }

    public boolean setFinal(int slot, int state, boolean on) throws IndexOutOfBoundsException {
        requireIndex(slot, 2);
        requireIndex(state, STATES);
        beginChange();
        Automaton automaton = automaton(slot);
        int before = automaton.finalStates();
        automaton.putFinalStates(withState(before, state, on));
        return hasState(before, state);
    }

    public void copyAutomaton(int slot) throws IndexOutOfBoundsException {
        requireIndex(slot, 2);
        beginChange();
        automaton(1 - slot).become(automaton(slot));
    }

    public void clearAutomaton(int slot) throws IndexOutOfBoundsException {
        requireIndex(slot, 2);
        beginChange();
        automaton(slot).reset();
    }

    public int transitionCount(int slot) throws IndexOutOfBoundsException {
        requireIndex(slot, 2);
        return automaton(slot).size();
    }

    public int transition(int slot, int transition, int column) throws IndexOutOfBoundsException {
        requireTransition(slot, transition);
        requireIndex(column, 4);
        return automaton(slot).cell(transition, column);
    }

    public int constraint(int slot, int transition, int index, int column) throws IndexOutOfBoundsException {
        requireTransition(slot, transition);
        requireIndex(index, automaton(slot).guardSize(transition));
        requireIndex(column, 3);
        return automaton(slot).constraintCell(transition, index, column);
    }

    public int satisfyingValuations(int slot, int transition) throws IndexOutOfBoundsException {
        requireTransition(slot, transition);
        return Values.countAllowed(automaton(slot).allowed(transition));
    }

    public int appendEvent(int delay, int letter) throws IllegalArgumentException, IllegalStateException {
        requireArgument(isBetween(delay, 0, LONGEST_DELAY));
        requireArgument(isBetween(letter, 0, LETTERS - 1));
        requireState(word.length < MOST_EVENTS);
        return word.append(delay, letter);
    }

    public int clearWord() {
        int before = word.length;
        word.clear();
        return before;
    }

    public int wordLength() {
        return word.length;
    }

    public int event(int index, int column) throws IndexOutOfBoundsException {
        requireIndex(index, word.length);
        requireIndex(column, 2);
        return column == 0 ? word.delayAt(index) : word.letterAt(index);
    }

    public int valuationBefore(int index) throws IndexOutOfBoundsException {
        requireIndex(index, word.length);
        return Values.written(word.valuationAt(index));
    }

    public int statesAfter(int slot, int events) throws IndexOutOfBoundsException {
        requireIndex(slot, 2);
        requireIndex(events, word.length + 1);
        return automaton(slot).statesAfterEvents(word, events);
    }

    public boolean accepts(int slot) throws IndexOutOfBoundsException {
        requireIndex(slot, 2);
        Automaton automaton = automaton(slot);
        return (automaton.statesAfterEvents(word, word.length) & automaton.finalStates()) != 0;
    }

    public long runCount(int slot) throws IndexOutOfBoundsException {
        requireIndex(slot, 2);
        return runs.count(automaton(slot), word, ALL_STATES);
    }

    public long acceptingRuns(int slot) throws IndexOutOfBoundsException {
        requireIndex(slot, 2);
        return runs.count(automaton(slot), word, automaton(slot).finalStates());
    }

    public int firstRun(int slot, int index) throws IndexOutOfBoundsException, NoSuchElementException {
        requireIndex(slot, 2);
        requireIndex(index, word.length);
        int transition = runs.first(automaton(slot), word, index);
        requireElement(transition != NONE);
        return transition;
    }

    public int stuckAt(int slot) throws IndexOutOfBoundsException, NoSuchElementException {
        requireIndex(slot, 2);
        int index = automaton(slot).firstUnreadable(word);
        requireElement(index != NONE);
        return index;
    }

    public int blockingConstraint(int slot, int transition, int index)
            throws IndexOutOfBoundsException, IllegalArgumentException {
        requireTransition(slot, transition);
        requireIndex(index, word.length);
        Automaton automaton = automaton(slot);
        requireArgument(automaton.letter(transition) == word.letterAt(index));
        return automaton.firstUnsatisfied(transition, word.valuationAt(index));
    }

    public int deterministicStates(int slot) throws IndexOutOfBoundsException {
        requireIndex(slot, 2);
        return powerset(slot).count;
    }

    public int deterministicSet(int slot, int index) throws IndexOutOfBoundsException {
        requireDeterministicState(slot, index);
        return powerset(slot).setAt(index);
    }

    public int branches(int slot, int index, int letter) throws IndexOutOfBoundsException {
        requireDeterministicState(slot, index);
        requireIndex(letter, LETTERS);
        return powerset(slot).countBranches(index, letter);
    }

    public int branchTarget(int slot, int index, int letter, int branch) throws IndexOutOfBoundsException {
        requireBranch(slot, index, letter, branch);
        Powerset powerset = powerset(slot);
        return powerset.numberOf(powerset.branchSet(index, letter, branch));
    }

    public int branchValuations(int slot, int index, int letter, int branch) throws IndexOutOfBoundsException {
        requireBranch(slot, index, letter, branch);
        Powerset powerset = powerset(slot);
        return powerset.countValuations(index, letter, powerset.branchSet(index, letter, branch));
    }

    public int deterministicRun(int slot) throws IndexOutOfBoundsException {
        requireIndex(slot, 2);
        return powerset(slot).numberOf(automaton(slot).statesAfterEvents(word, word.length));
    }

    public boolean isDeterministic(int slot) throws IndexOutOfBoundsException {
        requireIndex(slot, 2);
        Automaton automaton = automaton(slot);
        return Integer.bitCount(automaton.initialStates()) == 1 && !automaton.hasConflict();
    }

    public boolean isEmpty(int slot) throws IndexOutOfBoundsException {
        requireIndex(slot, 2);
        return !search.findsAny(powerset(slot), emptyPowerset);
    }

    public int takeWitness(int slot) throws IndexOutOfBoundsException, NoSuchElementException {
        requireIndex(slot, 2);
        requireElement(search.takeFirst(powerset(slot), emptyPowerset, word));
        return word.length;
    }

    public int takeDifference(int slot) throws IndexOutOfBoundsException, NoSuchElementException {
        requireIndex(slot, 2);
        requireElement(search.takeFirst(powerset(slot), powerset(1 - slot), word));
        return word.length;
    }

    public boolean isIncluded(int slot) throws IndexOutOfBoundsException {
        requireIndex(slot, 2);
        return !search.findsAny(powerset(slot), powerset(1 - slot));
    }

    public long acceptedWords(int slot, int events, int longest)
            throws IndexOutOfBoundsException, IllegalArgumentException {
        requireIndex(slot, 2);
        requireArgument(isBetween(events, 0, MOST_EVENTS));
        requireArgument(isBetween(longest, 0, LONGEST_DELAY));
        return counter.count(powerset(slot), events, longest);
    }

    public double acceptedShare(int slot, int events) throws IndexOutOfBoundsException, IllegalArgumentException {
        requireIndex(slot, 2);
        requireArgument(isBetween(events, 0, MOST_EVENTS));
        double accepted = (double) counter.count(powerset(slot), events, LONGEST_DELAY);
        return accepted / (double) WordCounter.countAll(events);
    }

    public float averageBranches(int slot) throws IndexOutOfBoundsException {
        requireIndex(slot, 2);
        Powerset powerset = powerset(slot);
        int states = Math.max(1, powerset.count);
        return (float) powerset.countAllBranches() / (float) (LETTERS * states);
    }

    public int undo() throws IllegalStateException {
        requireState(history.changes > 0);
        markStale();
        return history.takeBack(firstAutomaton, secondAutomaton);
    }

    public void save() {
        history.keep(firstAutomaton, secondAutomaton);
    }

    public void restore() throws IllegalStateException {
        requireState(history.kept);
        beginChange();
        history.bringBack(firstAutomaton, secondAutomaton);
    }

    private Automaton automaton(int slot) {
        return slot == 0 ? firstAutomaton : secondAutomaton;
    }

    /** Answers the powerset automaton of a slot, brought up to date. */
    private Powerset powerset(int slot) {
        Powerset powerset = slot == 0 ? firstPowerset : secondPowerset;
        powerset.refresh(automaton(slot));
        return powerset;
    }

    private void beginChange() {
        history.remember(firstAutomaton, secondAutomaton);
        markStale();
    }

    private void markStale() {
        firstPowerset.fresh = false;
        secondPowerset.fresh = false;
    }

    private void requireTransition(int slot, int transition) {
        requireIndex(slot, 2);
        requireIndex(transition, automaton(slot).size());
    }

    private void requireDeterministicState(int slot, int index) {
        requireIndex(slot, 2);
        requireIndex(index, powerset(slot).count);
    }

    private void requireBranch(int slot, int index, int letter, int branch) {
        requireDeterministicState(slot, index);
        requireIndex(letter, LETTERS);
        requireIndex(branch, powerset(slot).countBranches(index, letter));
    }

    private static void requireIndex(int index, int size) {
        if (index < 0 || index >= size) {
            throw new IndexOutOfBoundsException();
        }
    }

    private static void requireArgument(boolean holds) {
        if (!holds) {
            throw new IllegalArgumentException();
        }
    }

    private static void requireState(boolean holds) {
        if (!holds) {
            throw new IllegalStateException();
        }
    }

    private static void requireElement(boolean holds) {
        if (!holds) {
            throw new NoSuchElementException();
        }
    }

    private static boolean isBetween(int number, int least, int most) {
        return number >= least && number <= most;
    }

    private static boolean isIndex(int index, int size) {
        return index >= 0 && index < size;
    }

    private static boolean hasState(int set, int state) {
        return (set >> state & 1) != 0;
    }

    private static int withState(int set, int state, boolean on) {
        return on ? set | 1 << state : set & ~(1 << state);
    }

    /**
     * Valuations, numbered 0 to 215 by the digits of base 6, where 5 stands for undefined: so their numbers
     * ascend as the ints do that the document writes.
     */
    private static final class Values {
        static final int COUNT = 216;
        static final int UNDEFINED = 5;
        static final int GREATEST = 4;
        static final int FIRST = 215;
        /** The values that an unconstrained clock may have, as a bit mask. */
        static final int ANY_VALUE = 63;
        static final int DEFINED_VALUES = 31;
        /** A bit mask for each clock, six bits each. */
        static final int ANY_VALUATION = ANY_VALUE | ANY_VALUE << 6 | ANY_VALUE << 12;

        static int valueOf(int valuation, int clock) {
            if (clock == 0) {
                return valuation % 6;
            }
            return clock == 1 ? valuation / 6 % 6 : valuation / 36;
        }

        static int later(int valuation, int delay) {
            return grown(valuation % 6, delay) + 6 * grown(valuation / 6 % 6, delay)
                    + 36 * grown(valuation / 36, delay);
        }

        private static int grown(int value, int delay) {
            if (value == UNDEFINED) {
                return UNDEFINED;
            }
            return value + delay > GREATEST ? GREATEST : value + delay;
        }

        static int withZero(int valuation, int clock) {
            if (clock == 0) {
                return valuation - valuation % 6;
            }
            return clock == 1 ? valuation - valuation / 6 % 6 * 6 : valuation % 36;
        }

        static int written(int valuation) {
            return writtenDigit(valuation % 6) + 10 * writtenDigit(valuation / 6 % 6)
                    + 100 * writtenDigit(valuation / 36);
        }

        private static int writtenDigit(int value) {
            return value == UNDEFINED ? 9 : value;
        }

        /** Answers the values that satisfy a constraint, as a bit mask. */
        static int satisfying(int kind, int number) {
            switch (kind) {
                case 0:
                    return (1 << number) - 1;
                case 1:
                    return (2 << number) - 1;
                case 2:
                    return 1 << number;
                case 3:
                    return DEFINED_VALUES & ~((1 << number) - 1);
                case 4:
                    return DEFINED_VALUES & ~((2 << number) - 1);
                case 5:
                    return 1 << UNDEFINED;
                default:
                    return DEFINED_VALUES;
            }
        }

        /** Narrows the allowed values of one clock, and leaves those of the others. */
        static int narrowed(int allowed, int clock, int values) {
            int shift = 6 * clock;
            return allowed & (ANY_VALUATION & ~(ANY_VALUE << shift) | values << shift);
        }

        static boolean isAllowed(int allowed, int valuation) {
            return (allowed >> valuation % 6 & allowed >> 6 + valuation / 6 % 6
                    & allowed >> 12 + valuation / 36 & 1) != 0;
        }

        static int countAllowed(int allowed) {
            return Integer.bitCount(allowed & ANY_VALUE) * Integer.bitCount(allowed >> 6 & ANY_VALUE)
                    * Integer.bitCount(allowed >> 12 & ANY_VALUE);
        }
    }

    /** The text that is being written, and the guard that was read last. */
    private static final class GuardText {
        private final int[] characters = new int[MOST_CHARACTERS];
        private int length = 0;
        private final int[] numbers = new int[3 * MOST_CONSTRAINTS];
        int constraints = 0;
        int fault = NONE;

        boolean hasRoom() {
            return length < MOST_CHARACTERS;
        }

        int append(int character) {
            if (isIndex(length, characters.length)) {
                characters[length] = character;
                length++;
            }
            return length;
        }

        /** Reads the text as a guard and empties it. */
        void read() {
            constraints = 0;
            fault = NONE;
            int at = 0;
            boolean more = length > 0;
            for (int i = 0; i < MOST_CONSTRAINTS && more; i++) {
                at = readConstraint(at);
                more = fault == NONE && i < MOST_CONSTRAINTS - 1 && characterAt(at) == '&';
                if (more) {
                    at++;
                }
            }
            if (fault == NONE && at < length) {
                fault = at;
            }
            length = 0;
        }

        /** Reads a constraint and answers the position behind it; at a fault the answer does not matter. */
        private int readConstraint(int at) {
            int clock = characterAt(at) - 'a';
            if (!isIndex(clock, LETTERS)) {
                return stopAt(at);
            }
            int sign = characterAt(at + 1);
            if (sign == '?' || sign == '!') {
                addConstraint(clock, sign == '?' ? 5 : 6, 0);
                return at + 2;
            }
            if (sign != '<' && sign != '=' && sign != '>') {
                return stopAt(at + 1);
            }
            boolean orEqual = sign != '=' && characterAt(at + 2) == '=';
            int digitAt = orEqual ? at + 3 : at + 2;
            int number = characterAt(digitAt) - '0';
            if (!isBetween(number, 0, 3)) {
                return stopAt(digitAt);
            }
            addConstraint(clock, comparison(sign, orEqual), number);
            return digitAt + 1;
        }

        private static int comparison(int sign, boolean orEqual) {
            if (sign == '<') {
                return orEqual ? 1 : 0;
            }
            if (sign == '=') {
                return 2;
            }
            return orEqual ? 3 : 4;
        }

        private int stopAt(int position) {
            fault = position;
            return position;
        }

        /** Answers 0 behind the end, which no guard text contains. */
        private int characterAt(int at) {
            return isIndex(at, length) && at < characters.length ? characters[at] : 0;
        }

        private void addConstraint(int clock, int kind, int number) {
            int at = 3 * constraints;
            if (isIndex(at, numbers.length - 2)) {
                numbers[at] = clock;
                numbers[at + 1] = kind;
                numbers[at + 2] = number;
                constraints++;
            }
        }

        int numberAt(int index, int column) {
            int at = 3 * index + column;
            return isIndex(at, numbers.length) ? numbers[at] : 0;
        }
    }

    /** The current word, with the valuation with which each event is read. */
    private static final class TimedWord {
        private final int[] delays = new int[MOST_EVENTS];
        private final int[] letters = new int[MOST_EVENTS];
        private final int[] valuations = new int[MOST_EVENTS];
        private int valuation = Values.FIRST;
        int length = 0;

        int append(int delay, int letter) {
            if (isIndex(length, MOST_EVENTS)) {
                int reading = Values.later(valuation, delay);
                delays[length] = delay;
                letters[length] = letter;
                valuations[length] = reading;
                valuation = Values.withZero(reading, letter);
                length++;
            }
            return length;
        }

        void clear() {
            length = 0;
            valuation = Values.FIRST;
        }

        int delayAt(int index) {
            return isIndex(index, delays.length) ? delays[index] : 0;
        }

        int letterAt(int index) {
            return isIndex(index, letters.length) ? letters[index] : 0;
        }

        int valuationAt(int index) {
            return isIndex(index, valuations.length) ? valuations[index] : Values.FIRST;
        }
    }

    /** An automaton, wholly in one row of numbers, so that the history can copy it at once. */
    private static final class Automaton {
        static final int SIZE_CELL = 0;
        static final int INITIAL_CELL = 1;
        static final int FINAL_CELL = 2;
        static final int HEAD = 3;
        static final int SOURCE = 0;
        static final int LETTER = 1;
        static final int TARGET = 2;
        static final int GUARD_SIZE = 3;
        static final int GUARD = 4;
        static final int ALLOWED = GUARD + 3 * MOST_CONSTRAINTS;
        static final int COLUMNS = ALLOWED + 1;
        static final int CELLS = HEAD + COLUMNS * MOST_TRANSITIONS;

        private final int[] cells = new int[CELLS];

        Automaton() {
            cells[INITIAL_CELL] = 1;
        }

        int size() {
            return cells[SIZE_CELL];
        }

        int initialStates() {
            return cells[INITIAL_CELL];
        }

        int finalStates() {
            return cells[FINAL_CELL];
        }

        void putInitialStates(int set) {
            cells[INITIAL_CELL] = set;
        }

        void putFinalStates(int set) {
            cells[FINAL_CELL] = set;
        }

        int cell(int transition, int column) {
            int at = HEAD + COLUMNS * transition + column;
            return isIndex(at, CELLS) ? cells[at] : 0;
        }

        int letter(int transition) {
            return cell(transition, LETTER);
        }

        int guardSize(int transition) {
            return cell(transition, GUARD_SIZE);
        }

        int allowed(int transition) {
            return cell(transition, ALLOWED);
        }

        int constraintCell(int transition, int index, int column) {
            return cell(transition, GUARD + 3 * index + column);
        }

        private void putCell(int transition, int column, int number) {
            int at = HEAD + COLUMNS * transition + column;
            if (isIndex(at, CELLS)) {
                cells[at] = number;
            }
        }

        int add(int from, int letter, int to, GuardText guard) {
            int added = size();
            putCell(added, SOURCE, from);
            putCell(added, LETTER, letter);
            putCell(added, TARGET, to);
            putCell(added, GUARD_SIZE, guard.constraints);
            int allowed = Values.ANY_VALUATION;
            for (int i = 0; i < guard.constraints; i++) {
                for (int column = 0; column < 3; column++) {
                    putCell(added, GUARD + 3 * i + column, guard.numberAt(i, column));
                }
                allowed = Values.narrowed(allowed, guard.numberAt(i, 0), satisfyingValues(added, i));
            }
            putCell(added, ALLOWED, allowed);
            cells[SIZE_CELL] = added + 1;
            return added;
        }

        int remove(int transition) {
            int remaining = size() - 1;
            for (int t = transition; t < remaining; t++) {
                for (int column = 0; column < COLUMNS; column++) {
                    putCell(t, column, cell(t + 1, column));
                }
            }
            cells[SIZE_CELL] = remaining;
            return remaining;
        }

        void reset() {
            cells[SIZE_CELL] = 0;
            cells[INITIAL_CELL] = 1;
            cells[FINAL_CELL] = 0;
        }

        void become(Automaton other) {
            System.arraycopy(other.cells, 0, cells, 0, CELLS);
        }

        void writeTo(int[] row, int at) {
            if (isIndex(at, row.length - CELLS + 1)) {
                System.arraycopy(cells, 0, row, at, CELLS);
            }
        }

        void readFrom(int[] row, int at) {
            if (isIndex(at, row.length - CELLS + 1)) {
                System.arraycopy(row, at, cells, 0, CELLS);
            }
        }

        private int satisfyingValues(int transition, int index) {
            return Values.satisfying(constraintCell(transition, index, 1), constraintCell(transition, index, 2));
        }

        int firstUnsatisfied(int transition, int valuation) {
            for (int i = 0; i < guardSize(transition); i++) {
                int value = Values.valueOf(valuation, constraintCell(transition, i, 0));
                if ((satisfyingValues(transition, i) >> value & 1) == 0) {
                    return i;
                }
            }
            return NONE;
        }

        private boolean canRead(int transition, int letter, int valuation) {
            return letter(transition) == letter && Values.isAllowed(allowed(transition), valuation);
        }

        /** Answers the states that an event leads to from a set of states. */
        int statesBehind(int set, int letter, int valuation) {
            int found = 0;
            for (int t = 0; t < size(); t++) {
                if (hasState(set, cell(t, SOURCE)) && canRead(t, letter, valuation)) {
                    found |= 1 << cell(t, TARGET);
                }
            }
            return found;
        }

        /** Answers the states from which an event can lead into a set of states. */
        int statesAhead(int set, int letter, int valuation) {
            int found = 0;
            for (int t = 0; t < size(); t++) {
                if (hasState(set, cell(t, TARGET)) && canRead(t, letter, valuation)) {
                    found |= 1 << cell(t, SOURCE);
                }
            }
            return found;
        }

        int statesAfterEvents(TimedWord word, int events) {
            int set = initialStates();
            for (int i = 0; i < events; i++) {
                set = statesBehind(set, word.letterAt(i), word.valuationAt(i));
            }
            return set;
        }

        int firstUnreadable(TimedWord word) {
            int set = initialStates();
            for (int i = 0; i < word.length; i++) {
                set = statesBehind(set, word.letterAt(i), word.valuationAt(i));
                if (set == 0) {
                    return i;
                }
            }
            return NONE;
        }

        /** Answers the first transition from a state into a set with an event of a word, or NONE. */
        int firstMove(int state, int set, TimedWord word, int index) {
            for (int t = 0; t < size(); t++) {
                if (cell(t, SOURCE) == state && hasState(set, cell(t, TARGET))
                        && canRead(t, word.letterAt(index), word.valuationAt(index))) {
                    return t;
                }
            }
            return NONE;
        }

        /** Tells whether two transitions can be used at once from a state. */
        boolean hasConflict() {
            for (int t = 0; t < size(); t++) {
                for (int u = 0; u < t; u++) {
                    if (cell(t, SOURCE) == cell(u, SOURCE) && letter(t) == letter(u)
                            && Values.countAllowed(allowed(t) & allowed(u)) > 0) {
                        return true;
                    }
                }
            }
            return false;
        }
    }

    /** Counts runs on a word and finds the first accepting one. */
    private static final class Runs {
        private final long[] counts = new long[STATES];
        private final long[] nextCounts = new long[STATES];
        /** For each position of the word the states from which the rest can be accepted. */
        private final int[] hopeful = new int[MOST_EVENTS + 1];

        /** Counts the runs that end in a set of states. */
        long count(Automaton automaton, TimedWord word, int ends) {
            for (int state = 0; state < STATES; state++) {
                counts[state] = hasState(automaton.initialStates(), state) ? 1 : 0;
            }
            for (int i = 0; i < word.length; i++) {
                readEvent(automaton, word.letterAt(i), word.valuationAt(i));
            }
            long sum = 0;
            for (int state = 0; state < STATES; state++) {
                if (hasState(ends, state)) {
                    sum += counts[state];
                }
            }
            return sum;
        }

        private void readEvent(Automaton automaton, int letter, int valuation) {
            for (int state = 0; state < STATES; state++) {
                nextCounts[state] = 0;
            }
            for (int t = 0; t < automaton.size(); t++) {
                int from = automaton.cell(t, Automaton.SOURCE);
                int to = automaton.cell(t, Automaton.TARGET);
                if (automaton.canRead(t, letter, valuation) && isIndex(from, STATES) && isIndex(to, STATES)) {
                    nextCounts[to] += counts[from];
                }
            }
            for (int state = 0; state < STATES; state++) {
                counts[state] = nextCounts[state];
            }
        }

        /** Answers the transition for an event in the first accepting run, or NONE. */
        int first(Automaton automaton, TimedWord word, int index) {
            findHopeful(automaton, word);
            int starts = automaton.initialStates() & hopefulAt(0);
            if (starts == 0) {
                return NONE;
            }
            int state = Integer.bitCount((starts & -starts) - 1);
            int transition = NONE;
            for (int i = 0; i <= index && i < word.length; i++) {
                transition = automaton.firstMove(state, hopefulAt(i + 1), word, i);
                state = automaton.cell(transition, Automaton.TARGET);
            }
            return transition;
        }

        private void findHopeful(Automaton automaton, TimedWord word) {
            int set = automaton.finalStates();
            for (int i = word.length; i >= 0; i--) {
                if (i < word.length) {
                    set = automaton.statesAhead(set, word.letterAt(i), word.valuationAt(i));
                }
                if (isIndex(i, hopeful.length)) {
                    hopeful[i] = set;
                }
            }
        }

        private int hopefulAt(int position) {
            return isIndex(position, hopeful.length) ? hopeful[position] : 0;
        }
    }

    /** The deterministic automaton; as it is made it has no states and accepts nothing. */
    private static final class Powerset {
        /** For each letter and valuation the targets from each single state, four bits a state. */
        private final int[] moves = new int[LETTERS * Values.COUNT];
        private final int[] sets = new int[SETS];
        private final int[] numbers = new int[SETS];
        int count = 0;
        int initial = 0;
        int finals = 0;
        boolean fresh = false;

        void refresh(Automaton automaton) {
            if (fresh) {
                return;
            }
            initial = automaton.initialStates();
            finals = automaton.finalStates();
            findMoves(automaton);
            findSets();
            fresh = true;
        }

        private void findMoves(Automaton automaton) {
            for (int i = 0; i < moves.length; i++) {
                moves[i] = 0;
            }
            for (int t = 0; t < automaton.size(); t++) {
                int bit = 1 << STATES * automaton.cell(t, Automaton.SOURCE) + automaton.cell(t, Automaton.TARGET);
                addMoves(automaton.cell(t, Automaton.LETTER), automaton.cell(t, Automaton.ALLOWED), bit);
            }
        }

        private void addMoves(int letter, int allowed, int bit) {
            for (int valuation = 0; valuation < Values.COUNT; valuation++) {
                int at = letter * Values.COUNT + valuation;
                if (Values.isAllowed(allowed, valuation) && isIndex(at, moves.length)) {
                    moves[at] |= bit;
                }
            }
        }

        private void findSets() {
            count = 0;
            for (int i = 0; i < SETS; i++) {
                numbers[i] = NONE;
            }
            addSet(initial);
            for (int i = 0; i < count && i < SETS; i++) {
                for (int letter = 0; letter < LETTERS; letter++) {
                    for (int valuation = 0; valuation < Values.COUNT; valuation++) {
                        addSet(successor(sets[i], letter, valuation));
                    }
                }
            }
        }

        private void addSet(int set) {
            if (isIndex(set, SETS) && isIndex(count, SETS) && numbers[set] == NONE) {
                numbers[set] = count;
                sets[count] = set;
                count++;
            }
        }

        int successor(int set, int letter, int valuation) {
            int at = letter * Values.COUNT + valuation;
            int targets = isIndex(at, moves.length) ? moves[at] : 0;
            int found = 0;
            if ((set & 1) != 0) {
                found |= targets;
            }
            if ((set & 2) != 0) {
                found |= targets >> STATES;
            }
            if ((set & 4) != 0) {
                found |= targets >> 2 * STATES;
            }
            if ((set & 8) != 0) {
                found |= targets >> 3 * STATES;
            }
            return found & ALL_STATES;
        }

        int setAt(int index) {
            return isIndex(index, SETS) ? sets[index] : 0;
        }

        int numberOf(int set) {
            return isIndex(set, SETS) ? numbers[set] : NONE;
        }

        int countBranches(int index, int letter) {
            int set = setAt(index);
            int seen = 0;
            for (int valuation = 0; valuation < Values.COUNT; valuation++) {
                seen |= 1 << successor(set, letter, valuation);
            }
            return Integer.bitCount(seen);
        }

        int countAllBranches() {
            int sum = 0;
            for (int i = 0; i < count; i++) {
                for (int letter = 0; letter < LETTERS; letter++) {
                    sum += countBranches(i, letter);
                }
            }
            return sum;
        }

        /** Answers the set to which a branch leads, or NONE. */
        int branchSet(int index, int letter, int branch) {
            int set = setAt(index);
            int seen = 0;
            int number = 0;
            for (int valuation = 0; valuation < Values.COUNT; valuation++) {
                int next = successor(set, letter, valuation);
                if ((seen >> next & 1) == 0) {
                    if (number == branch) {
                        return next;
                    }
                    seen |= 1 << next;
                    number++;
                }
            }
            return NONE;
        }

        int countValuations(int index, int letter, int target) {
            int set = setAt(index);
            int found = 0;
            for (int valuation = 0; valuation < Values.COUNT; valuation++) {
                if (successor(set, letter, valuation) == target) {
                    found++;
                }
            }
            return found;
        }
    }

    /**
     * Searches words that one powerset automaton accepts and another one does not, breadth first. A
     * configuration is a valuation, a set of the one and a set of the other, written valuation * 256 + own set *
     * 16 + other set.
     */
    private static final class Search {
        /** After an event some clock is 0; with the first valuation this leaves 92 of the 216 valuations. */
        static final int PLACES = 92 * SETS * SETS;
        static final int FAR = 1000;

        /** For each configuration its position in the queue plus 1, or 0 if it was not found. */
        private final int[] places = new int[PLACES];
        private final int[] queue = new int[PLACES];
        /** For each position the least sum of delays with which a shortest word goes on from there. */
        private final int[] costs = new int[PLACES];
        /** For each number of events the position of the first configuration that needs so many. */
        private final int[] starts = new int[MOST_EVENTS + 2];
        private int size = 0;

        boolean findsAny(Powerset own, Powerset other) {
            return shortest(own, other, PLACES) != NONE;
        }

        /** Makes a word the first one that is found with at most 10 events, or leaves it and answers false. */
        boolean takeFirst(Powerset own, Powerset other, TimedWord word) {
            int events = shortest(own, other, MOST_EVENTS);
            if (events == NONE) {
                return false;
            }
            findCosts(own, other, events);
            word.clear();
            int position = 0;
            for (int i = 0; i < events; i++) {
                position = takeEvent(own, other, position, i, word);
            }
            return true;
        }

        /** Answers the number of events of the shortest word, or NONE if none has at most so many. */
        private int shortest(Powerset own, Powerset other, int most) {
            forget();
            enter(Values.FIRST, own.initial, other.initial);
            int from = 0;
            for (int events = 0; events <= most && from < size; events++) {
                int to = size;
                putStart(events, from);
                putStart(events + 1, to);
                if (hasGoal(own, other, from, to)) {
                    return events;
                }
                for (int i = from; i < to && events < most; i++) {
                    expand(own, other, configurationAt(i));
                }
                from = to;
            }
            return NONE;
        }

        private void forget() {
            for (int i = 0; i < size && i < PLACES; i++) {
                int configuration = queue[i];
                int place = placeOf(configuration / 256, configuration % 256);
                if (isIndex(place, PLACES)) {
                    places[place] = 0;
                }
            }
            size = 0;
        }

        /** Numbers the configurations by the valuations that can be after an event, and last the first one. */
        private static int placeOf(int valuation, int sets) {
            int a = valuation % 6;
            int b = valuation / 6 % 6;
            int c = valuation / 36;
            if (a == 0) {
                return 256 * (b + 6 * c) + sets;
            }
            if (b == 0) {
                return 256 * (36 + a - 1 + 5 * c) + sets;
            }
            return c == 0 ? 256 * (66 + a - 1 + 5 * (b - 1)) + sets : 256 * 91 + sets;
        }

        private void enter(int valuation, int ownSet, int otherSet) {
            int sets = ownSet * SETS + otherSet;
            int place = placeOf(valuation, sets);
            if (isIndex(place, PLACES) && places[place] == 0 && isIndex(size, PLACES)) {
                queue[size] = 256 * valuation + sets;
                size++;
                places[place] = size;
            }
        }

        private void putStart(int events, int position) {
            if (isIndex(events, starts.length)) {
                starts[events] = position;
            }
        }

        private int startOf(int events) {
            return isIndex(events, starts.length) ? starts[events] : 0;
        }

        private int configurationAt(int position) {
            return isIndex(position, PLACES) ? queue[position] : 0;
        }

        private int costAt(int position) {
            return isIndex(position, PLACES) ? costs[position] : FAR;
        }

        private static boolean isGoal(Powerset own, Powerset other, int configuration) {
            return (configuration / SETS % SETS & own.finals) != 0 && (configuration % SETS & other.finals) == 0;
        }

        private boolean hasGoal(Powerset own, Powerset other, int from, int to) {
            for (int i = from; i < to; i++) {
                if (isGoal(own, other, configurationAt(i))) {
                    return true;
                }
            }
            return false;
        }

        /** Where no own state is left nothing is accepted, so nothing is entered. */
        private void expand(Powerset own, Powerset other, int configuration) {
            int ownSet = configuration / SETS % SETS;
            int otherSet = configuration % SETS;
            for (int delay = 0; delay <= LONGEST_DELAY; delay++) {
                int reading = Values.later(configuration / 256, delay);
                for (int letter = 0; letter < LETTERS; letter++) {
                    int ownNext = own.successor(ownSet, letter, reading);
                    if (ownNext != 0) {
                        enter(Values.withZero(reading, letter), ownNext,
                                other.successor(otherSet, letter, reading));
                    }
                }
            }
        }

        /** Answers the position to which an event leads from a configuration, or NONE. */
        private int positionBehind(Powerset own, Powerset other, int configuration, int letter, int delay) {
            int reading = Values.later(configuration / 256, delay);
            int ownNext = own.successor(configuration / SETS % SETS, letter, reading);
            if (ownNext == 0) {
                return NONE;
            }
            int otherNext = other.successor(configuration % SETS, letter, reading);
            int place = placeOf(Values.withZero(reading, letter), ownNext * SETS + otherNext);
            return isIndex(place, PLACES) ? places[place] - 1 : NONE;
        }

        private void findCosts(Powerset own, Powerset other, int events) {
            for (int i = startOf(events); i < startOf(events + 1) && i < PLACES; i++) {
                costs[i] = isGoal(own, other, configurationAt(i)) ? 0 : FAR;
            }
            for (int level = events - 1; level >= 0; level--) {
                for (int i = startOf(level); i < startOf(level + 1) && i < PLACES; i++) {
                    costs[i] = leastCost(own, other, i, startOf(level + 1));
                }
            }
        }

        /** A shortest word leads to a configuration of the next level with each event, so others are left out. */
        private int leastCost(Powerset own, Powerset other, int position, int nextLevel) {
            int least = FAR;
            for (int letter = 0; letter < LETTERS; letter++) {
                for (int delay = 0; delay <= LONGEST_DELAY; delay++) {
                    int next = positionBehind(own, other, configurationAt(position), letter, delay);
                    if (next >= nextLevel) {
                        least = Math.min(least, delay + costAt(next));
                    }
                }
            }
            return least;
        }

        /** Appends the first event that goes on with the least cost, and answers where it leads. */
        private int takeEvent(Powerset own, Powerset other, int position, int index, TimedWord word) {
            for (int letter = 0; letter < LETTERS; letter++) {
                for (int delay = 0; delay <= LONGEST_DELAY; delay++) {
                    int next = positionBehind(own, other, configurationAt(position), letter, delay);
                    if (next >= startOf(index + 1) && delay + costAt(next) == costAt(position)) {
                        word.append(delay, letter);
                        return next;
                    }
                }
            }
            return position;
        }
    }

    /** Counts accepted words, by the valuation and the set of states that they lead to. */
    private static final class WordCounter {
        static final int PLACES = Values.COUNT * SETS;

        private final long[] counts = new long[PLACES];
        private final long[] nextCounts = new long[PLACES];

        static long countAll(int events) {
            long all = 1;
            for (int i = 0; i < events; i++) {
                all *= LETTERS * (LONGEST_DELAY + 1);
            }
            return all;
        }

        long count(Powerset powerset, int events, int longest) {
            for (int i = 0; i < PLACES; i++) {
                counts[i] = 0;
            }
            addTo(counts, SETS * Values.FIRST + powerset.initial, 1);
            for (int i = 0; i < events; i++) {
                readEvent(powerset, longest);
            }
            long sum = 0;
            for (int i = 0; i < PLACES; i++) {
                if ((i % SETS & powerset.finals) != 0) {
                    sum += counts[i];
                }
            }
            return sum;
        }

        private void readEvent(Powerset powerset, int longest) {
            for (int i = 0; i < PLACES; i++) {
                nextCounts[i] = 0;
            }
            for (int i = 0; i < PLACES; i++) {
                if (counts[i] != 0) {
                    spread(powerset, i, longest);
                }
            }
            System.arraycopy(nextCounts, 0, counts, 0, PLACES);
        }

        private void spread(Powerset powerset, int place, int longest) {
            long words = isIndex(place, PLACES) ? counts[place] : 0;
            for (int delay = 0; delay <= longest; delay++) {
                int reading = Values.later(place / SETS, delay);
                for (int letter = 0; letter < LETTERS; letter++) {
                    int set = powerset.successor(place % SETS, letter, reading);
                    addTo(nextCounts, SETS * Values.withZero(reading, letter) + set, words);
                }
            }
        }

        private static void addTo(long[] row, int place, long words) {
            if (isIndex(place, row.length)) {
                row[place] += words;
            }
        }
    }

    /** Both automata as they were before the latest changes, in a ring, and as they were saved. */
    private static final class History {
        static final int PAIR = 2 * Automaton.CELLS;

        private final int[] past = new int[MOST_CHANGES * PAIR];
        private final int[] saved = new int[PAIR];
        private int next = 0;
        int changes = 0;
        boolean kept = false;

        void remember(Automaton first, Automaton second) {
            first.writeTo(past, next * PAIR);
            second.writeTo(past, next * PAIR + Automaton.CELLS);
            next = (next + 1) % MOST_CHANGES;
            changes = Math.min(MOST_CHANGES, changes + 1);
        }

        int takeBack(Automaton first, Automaton second) {
            next = (next + MOST_CHANGES - 1) % MOST_CHANGES;
            first.readFrom(past, next * PAIR);
            second.readFrom(past, next * PAIR + Automaton.CELLS);
            changes--;
            return changes;
        }

        void keep(Automaton first, Automaton second) {
            first.writeTo(saved, 0);
            second.writeTo(saved, Automaton.CELLS);
            kept = true;
        }

        void bringBack(Automaton first, Automaton second) {
            first.readFrom(saved, 0);
            second.readFrom(saved, Automaton.CELLS);
        }
    }
}
