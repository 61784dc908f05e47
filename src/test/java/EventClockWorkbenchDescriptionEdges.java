import java.util.List;

/** The sentences of the document's description, each with the last that it allows and the first that it does not. */
public final class EventClockWorkbenchDescriptionEdges extends WorkbenchTest {
    /** Beginnings of sentences that tell what something is, not how far it goes. */
    private static final List<String> WITHOUT_A_BOUNDARY = List.of("A workbench for event-recording automata",
            "The class is not thread-safe.", "Letters and clocks.", "Each letter has a clock.", "Constraints.",
            "A constraint belongs to a clock.", "Automata.", "A transition leads from a state to a state",
            "Timed words.", "Guard texts.", "Deterministic automaton.", "Search.", "Changes.", "Details.");
    /** Beginnings of sentences that EventClockWorkbenchRefusals and EventClockWorkbenchGuardTexts quote. */
    private static final List<String> TESTED_ELSEWHERE = List.of("A call that throws an exception leaves the state",
            "If a method can throw several exceptions,", "There is a text of at most 30 characters", "A guard text is",
            "A constraint is the name of a letter", "There are no spaces.", "The fault position of a text is",
            "A \"&\" behind the fourth constraint");

    /** For each constraint the values 0 to 4 and undefined that satisfy it. */
    private static final String[][] SATISFIED = {
        {"<0", "......"}, {"<1", "0....."}, {"<2", "01...."}, {"<3", "012..."},
        {"<=0", "0....."}, {"<=1", "01...."}, {"<=2", "012..."}, {"<=3", "0123.."},
        {"=0", "0....."}, {"=1", ".1...."}, {"=2", "..2..."}, {"=3", "...3.."},
        {">=0", "01234."}, {">=1", ".1234."}, {">=2", "..234."}, {">=3", "...34."},
        {">0", ".1234."}, {">1", "..234."}, {">2", "...34."}, {">3", "....4."},
        {"?", ".....9"}, {"!", "01234."}};

    public static void main(String[] args) {
        lastCall();
        letters();
        firstOccurrence();
        valuesBeyondThree();
        valuationAsInt();
        firstValuation();
        growing();
        kinds();
        undefinedClocks();
        four();
        fourConstraints();
        emptyGuard();
        slots();
        statesAndTransitions();
        atFirst();
        events();
        beginningOfRuns();
        stepsOfRuns();
        acceptingRuns();
        acceptedWords();
        fullWord();
        numberZero();
        successors();
        numbering();
        emptySet();
        branches();
        allValuations();
        orderOfSearch();
        witness();
        kindsOfChanges();
        eightChanges();
        beyondChanges();
        nothingDifferent();
        noInitialState();
        anyLength();
        conflicts();
        leftFault();
        anySource();
        allAreTested();
        finish("the description holds at its edges");
    }

    private static void allAreTested() {
        for (String sentence : Document.sentences(0)) {
            if (!beginsLikeOneOf(WITHOUT_A_BOUNDARY, sentence) && !beginsLikeOneOf(TESTED_ELSEWHERE, sentence)) {
                dueQuoted(0, sentence);
            }
        }
    }

    private static boolean beginsLikeOneOf(List<String> beginnings, String sentence) {
        for (String beginning : beginnings) {
            if (sentence.startsWith(beginning)) {
                return true;
            }
        }
        return false;
    }

    private static void lastCall() {
        quote(0, "An object is used for at most 512 calls after it has been made; what later calls answer is free.");
        EventClockWorkbench x = fresh();
        for (int i = 1; i <= 512; i++) {
            boolean was = i % 2 == 0;
            due("call " + i, was, () -> x.setFinal(1, 3, !was));
        }
        EventClockWorkbench y = fresh();
        for (int i = 1; i <= 502; i++) {
            y.setInitial(0, 0, i % 2 == 0);
        }
        for (int i = 503; i <= 510; i++) {
            due("call " + i, 510 - i, y::undo);
        }
        due("call 511", STATE, y::undo);
        due("call 512", 1, () -> y.statesAfter(0, 0));
        EventClockWorkbench z = fresh();
        for (int i = 1; i <= 510; i += 2) {
            due("call " + i, 1, () -> z.appendEvent(4, 2));
            due("call " + (i + 1), 1, z::clearWord);
        }
        due("call 511", 1, () -> z.appendEvent(4, 2));
        due("call 512", 1L, () -> 1L + z.acceptedWords(0, 10, 4));
    }

    private static void letters() {
        quote(0, "There are three letters, numbered 0 to 2, with the names a, b and c.");
        EventClockWorkbench x = fresh();
        due("letter 0", 1, () -> x.appendEvent(0, 0));
        due("letter 2", 2, () -> x.appendEvent(0, 2));
        due("letter -1", ARGUMENT, () -> x.appendEvent(0, -1));
        due("letter 3", ARGUMENT, () -> x.appendEvent(0, 3));
        due("a transition with letter 2", 0, () -> x.addTransition(0, 0, 2, 0));
        due("a transition with letter 3", INDEX, () -> x.addTransition(0, 0, 3, 0));
        due("a transition with letter -1", INDEX, () -> x.addTransition(0, 0, -1, 0));
        String names = "abc";
        for (int clock = 0; clock < 3; clock++) {
            int c = clock;
            due("the name " + names.charAt(c), c + 1, () -> add(x, 0, 0, "a", names.charAt(c) + "?", 0));
            due("its clock", c, () -> x.constraint(0, c + 1, 0, 0));
        }
        for (String name : new String[] {"`", "d", "A", "C", "0"}) {
            due("no name " + name, ARGUMENT, () -> add(x, 0, 0, "a", name + "?", 0));
            due("its fault", 0, x::faultPosition);
        }
    }

    private static void dueValuations(String events, int... valuations) {
        EventClockWorkbench x = fresh();
        word(x, events);
        for (int i = 0; i < valuations.length; i++) {
            int at = i;
            due("valuation " + i + " of " + events, valuations[at], () -> x.valuationBefore(at));
        }
    }

    private static void firstOccurrence() {
        quote(0, "The value of a clock is undefined before the first occurrence of its letter, and then the time since"
                + " the last occurrence.");
        dueValuations("4b4b0a3a", 999, 949, 909, 933);
        dueValuations("0a0a", 999, 990);
        dueValuations("0c1c2c3c", 999, 199, 299, 399);
        dueValuations("1a1b1c1a1b1c1a", 999, 991, 912, 123, 231, 312, 123);
    }

    private static void valuesBeyondThree() {
        quote(0, "Values that are greater than 3 are all written as 4 and are not distinguished.");
        dueValuations("0a3c", 999, 993);
        dueValuations("0a4c", 999, 994);
        dueValuations("0a3c1c", 999, 993, 194);
        dueValuations("0a3c2c", 999, 993, 294);
        dueValuations("0a4c4c4c", 999, 994, 494, 494);
        EventClockWorkbench x = fresh();
        add(x, 0, 0, "b", "a<=3", 1);
        add(x, 0, 0, "b", "a>3", 2);
        x.addTransition(0, 0, 0, 0);
        x.addTransition(0, 0, 2, 0);
        for (String longer : new String[] {"0a4b", "0a2c2b", "0a1c4b", "0a4c0b", "0a4c4c4b"}) {
            word(x, longer);
            due("the states after " + longer, 4, () -> x.statesAfter(0, x.wordLength()));
        }
        word(x, "0a3b");
        due("the states after 3", 2, () -> x.statesAfter(0, 2));
        word(x, "0a1c2b");
        due("the states after 1 and 2", 2, () -> x.statesAfter(0, 3));
    }

    private static void valuationAsInt() {
        quote(0, "A valuation gives each clock a value, which is undefined or a number from 0 to 4; it is written as an"
                + " int, namely the value of clock 0 plus 10 times the value of clock 1 plus 100 times the value of"
                + " clock 2, where undefined is written as 9.");
        dueValuations("0a0b0c0a", 999, 990, 900, 0);
        dueValuations("0a0b0c4a", 999, 990, 900, 444);
        dueValuations("0c1b1a0a", 999, 199, 219, 210);
        dueValuations("0a1b1c0a", 999, 991, 912, 12);
        dueValuations("4b", 999);
    }

    private static void firstValuation() {
        quote(0, "In the first valuation all clocks are undefined.");
        for (String first : new String[] {"0a", "0b", "0c", "1a", "4a", "4b", "4c"}) {
            dueValuations(first, 999);
        }
        EventClockWorkbench x = fresh();
        word(x, "0a0b0c");
        x.clearWord();
        x.appendEvent(2, 1);
        due("after a cleared word", 999, () -> x.valuationBefore(0));
        add(x, 0, 0, "c", "a?&b?&c?", 1);
        x.setFinal(0, 1, true);
        x.takeWitness(0);
        due("after a word that was taken", 999, () -> x.valuationBefore(0));
    }

    private static void growing() {
        quote(0, "When time passes, each defined value grows by the number of units, but not beyond 4.");
        int[] grown = {0, 1, 2, 3, 4, 4, 4, 4, 4};
        for (int value = 0; value <= 4; value++) {
            for (int delay = 0; delay <= 4; delay++) {
                dueValuations("0a" + value + "c" + delay + "c", 999, 990 + value, 100 * delay + 90
                        + grown[value + delay]);
                dueValuations("0b0a" + value + "c" + delay + "c", 999, 909, 900 + 11 * value,
                        100 * delay + 11 * grown[value + delay]);
            }
        }
    }

    private static void kinds() {
        quote(0, "It has a kind: less than (0), at most (1), equal to (2), at least (3) or greater than (4) a number"
                + " from 0 to 3; or undefined (5), or defined (6).");
        for (int clock = 0; clock < 3; clock++) {
            for (int i = 0; i < SATISFIED.length; i++) {
                dueSatisfied(clock, i);
            }
        }
        for (String sign : new String[] {"<", "<=", "=", ">=", ">"}) {
            EventClockWorkbench x = fresh();
            due("the number 4", ARGUMENT, () -> add(x, 0, 0, "a", "b" + sign + "4", 0));
            due("its fault", 1 + sign.length(), x::faultPosition);
        }
    }

    private static void dueSatisfied(int clock, int row) {
        String name = String.valueOf((char) ('a' + clock));
        String guard = name + SATISFIED[row][0];
        EventClockWorkbench x = fresh();
        due("adding " + guard, 0, () -> add(x, 0, 3, name, guard, 3));
        due("kind of " + guard, row < 20 ? row / 4 : row - 15, () -> x.constraint(0, 0, 0, 1));
        due("number of " + guard, row < 20 ? row % 4 : 0, () -> x.constraint(0, 0, 0, 2));
        int satisfying = 0;
        for (int value = 0; value <= 5; value++) {
            boolean holds = SATISFIED[row][1].charAt(value) != '.';
            satisfying += holds ? 36 : 0;
            word(x, value == 5 ? "4" + name : "0" + name + value + name);
            due(guard + " with " + value, holds ? -1 : 0, () -> x.blockingConstraint(0, 0, x.wordLength() - 1));
        }
        due("valuations of " + guard, satisfying, () -> x.satisfyingValuations(0, 0));
    }

    private static void undefinedClocks() {
        quote(0, "An undefined clock satisfies only a constraint of kind 5, and a defined one none of this kind.");
        for (String[] row : SATISFIED) {
            EventClockWorkbench x = fresh();
            add(x, 0, 0, "b", "b" + row[0], 0);
            word(x, "0a0c0b");
            due("b" + row[0] + ", undefined among defined clocks", row[0].equals("?") ? -1 : 0,
                    () -> x.blockingConstraint(0, 0, 2));
        }
        for (int value = 0; value <= 4; value++) {
            EventClockWorkbench x = fresh();
            add(x, 0, 0, "b", "b?", 0);
            word(x, "0b" + value + "b");
            due("b? with " + value, 0, () -> x.blockingConstraint(0, 0, 1));
        }
    }

    private static void four() {
        quote(0, "The value 4 is greater than 3.");
        EventClockWorkbench x = fresh();
        add(x, 0, 0, "a", "a>3", 0);
        add(x, 0, 0, "a", "a<=3", 0);
        add(x, 0, 0, "a", "a>=3", 0);
        add(x, 0, 0, "a", "a=3", 0);
        int[] withFour = {-1, 0, -1, 0};
        int[] withThree = {0, -1, -1, -1};
        word(x, "0a4a3a");
        for (int t = 0; t < 4; t++) {
            int transition = t;
            due("transition " + t + " with 4", withFour[t], () -> x.blockingConstraint(0, transition, 1));
            due("transition " + t + " with 3", withThree[t], () -> x.blockingConstraint(0, transition, 2));
        }
    }

    private static void fourConstraints() {
        quote(0, "A guard is a sequence of at most 4 constraints; a valuation satisfies it if it satisfies all of them.");
        EventClockWorkbench x = fresh();
        due("four constraints", 0, () -> add(x, 0, 0, "a", "a>=1&b=2&c=3&a<=1", 0));
        due("their number", 4, () -> x.transition(0, 0, 3));
        due("five constraints", ARGUMENT, () -> add(x, 0, 0, "a", "a>=1&b=2&c=3&a<=1&a!", 0));
        due("their fault", 17, x::faultPosition);
        due("one valuation", 1, () -> x.satisfyingValuations(0, 0));
        String[] words = {"0c1b1a1a", "0c1b2a0a", "0c0b2a1a", "0c2b1a1a", "0c1b0a2a"};
        for (int i = 0; i < words.length; i++) {
            word(x, words[i]);
            due("the constraint that alone is not satisfied", i - 1, () -> x.blockingConstraint(0, 0, 3));
        }
    }

    private static void emptyGuard() {
        quote(0, "The empty guard is always satisfied.");
        EventClockWorkbench x = fresh();
        x.addTransition(0, 0, 0, 0);
        due("constraints", 0, () -> x.transition(0, 0, 3));
        due("valuations", 216, () -> x.satisfyingValuations(0, 0));
        word(x, "4a0a4a4a");
        for (int i = 0; i < 4; i++) {
            int index = i;
            due("event " + i, -1, () -> x.blockingConstraint(0, 0, index));
        }
        due("a run", 1L, () -> x.runCount(0));
    }

    private static void slots() {
        quote(0, "There are two automata, 0 and 1.");
        EventClockWorkbench x = fresh();
        x.addTransition(1, 0, 0, 0);
        due("automaton -1", INDEX, () -> x.transitionCount(-1));
        due("automaton 0", 0, () -> x.transitionCount(0));
        due("automaton 1", 1, () -> x.transitionCount(1));
        due("automaton 2", INDEX, () -> x.transitionCount(2));
    }

    private static void statesAndTransitions() {
        quote(0, "Each has the states 0 to 3, of which some are initial and some are final, and at most 10 transitions,"
                + " numbered from 0 in the order in which they were added.");
        for (int slot = 0; slot < 2; slot++) {
            int s = slot;
            EventClockWorkbench x = fresh();
            due("state 4 as a source", INDEX, () -> x.addTransition(s, 4, 0, 0));
            due("state 4 as a target", INDEX, () -> x.addTransition(s, 0, 0, 4));
            for (int i = 0; i < 10; i++) {
                int number = i;
                due("transition " + i, number, () -> x.addTransition(s, number % 4, number % 3, 3 - number % 4));
            }
            due("an eleventh", STATE, () -> x.addTransition(s, 0, 0, 0));
            for (int i = 0; i < 10; i++) {
                int number = i;
                due("source of " + i, number % 4, () -> x.transition(s, number, 0));
                due("letter of " + i, number % 3, () -> x.transition(s, number, 1));
                due("target of " + i, 3 - number % 4, () -> x.transition(s, number, 2));
            }
            due("no transition 10", INDEX, () -> x.transition(s, 10, 0));
            for (int state = 0; state < 4; state++) {
                x.setInitial(s, state, true);
                x.setFinal(s, state, true);
            }
            due("all initial", 15, () -> x.statesAfter(s, 0));
            due("all final", 4L, () -> x.acceptingRuns(s));
            for (int state = 0; state < 4; state++) {
                x.setInitial(s, state, false);
            }
            due("none initial", 0, () -> x.statesAfter(s, 0));
        }
    }

    private static void atFirst() {
        quote(0, "At first both automata have no transitions, state 0 is initial, and no state is final.");
        for (int slot = 0; slot < 2; slot++) {
            int s = slot;
            EventClockWorkbench x = fresh();
            due("transitions", 0, () -> x.transitionCount(s));
            for (int state = 0; state < 4; state++) {
                int q = state;
                due("initial " + q, q == 0, () -> x.setInitial(s, q, q == 0));
                due("final " + q, false, () -> x.setFinal(s, q, false));
            }
        }
    }

    private static void events() {
        quote(0, "A timed word is a sequence of events; an event is a delay from 0 to 4 and a letter.");
        EventClockWorkbench x = fresh();
        due("delay -1", ARGUMENT, () -> x.appendEvent(-1, 0));
        due("delay 0", 1, () -> x.appendEvent(0, 1));
        due("delay 4", 2, () -> x.appendEvent(4, 2));
        due("delay 5", ARGUMENT, () -> x.appendEvent(5, 0));
        due("the word", "0b4c", () -> shownWord(x));
    }

    private static void beginningOfRuns() {
        quote(0, "A run of an automaton on a timed word begins in an initial state with the first valuation.");
        EventClockWorkbench x = fresh();
        x.setInitial(0, 0, false);
        for (long states = 0; states <= 4; states++) {
            long initial = states;
            due("runs on the empty word", initial, () -> x.runCount(0));
            if (states < 4) {
                x.setInitial(0, (int) states, true);
            }
        }
        EventClockWorkbench y = fresh();
        add(y, 0, 0, "a", "a?&b?&c?", 1);
        add(y, 0, 1, "b", "", 2);
        word(y, "4a");
        due("from the initial state", 2, () -> y.statesAfter(0, 1));
        word(y, "0b");
        due("from another state", 0, () -> y.statesAfter(0, 1));
    }

    private static void stepsOfRuns() {
        quote(0, "For each event, time passes by its delay; then a transition with its letter is used, whose source is"
                + " the state and whose guard is satisfied by the valuation then; after this the clock of the letter"
                + " becomes 0.");
        EventClockWorkbench x = fresh();
        add(x, 0, 0, "a", "a?", 1);
        add(x, 0, 1, "a", "a=0", 2);
        add(x, 0, 1, "a", "a=1", 3);
        word(x, "3a0a");
        due("its clock is undefined as it is read", 2, () -> x.statesAfter(0, 1));
        due("then 0, and no time passes", 4, () -> x.statesAfter(0, 2));
        word(x, "3a1a");
        due("then 0, and one unit passes", 8, () -> x.statesAfter(0, 2));
        word(x, "3a2a");
        due("then 0, and two units pass", 0, () -> x.statesAfter(0, 2));
        word(x, "3a1b");
        due("another letter", 0, () -> x.statesAfter(0, 2));
    }

    private static void acceptingRuns() {
        quote(0, "A run is accepting if it ends in a final state.");
        EventClockWorkbench x = fresh();
        x.setFinal(0, 1, true);
        due("the empty word, state 0 not final", 0L, () -> x.acceptingRuns(0));
        x.setFinal(0, 0, true);
        due("the empty word, state 0 final", 1L, () -> x.acceptingRuns(0));
        x.addTransition(0, 0, 0, 2);
        word(x, "0a");
        due("behind a final state", 0L, () -> x.acceptingRuns(0));
    }

    private static void acceptedWords() {
        quote(0, "A word is accepted if it has an accepting run.");
        EventClockWorkbench x = fresh();
        x.addTransition(0, 0, 0, 0);
        x.addTransition(0, 0, 0, 1);
        x.setFinal(0, 3, true);
        word(x, "0a");
        due("none of two runs", false, () -> x.accepts(0));
        x.setFinal(0, 1, true);
        due("one of two runs", true, () -> x.accepts(0));
        word(x, "0b");
        due("no run", false, () -> x.accepts(0));
    }

    private static void fullWord() {
        quote(0, "There is one current word of at most 10 events, which is empty at first.");
        EventClockWorkbench x = fresh();
        due("at first", 0, x::wordLength);
        for (int i = 1; i <= 10; i++) {
            due("event " + i, i, () -> x.appendEvent(1, 1));
        }
        due("the eleventh", STATE, () -> x.appendEvent(1, 1));
        due("ten", 10, x::wordLength);
    }

    private static void numberZero() {
        quote(0, "A set of states is written as a bit mask.");
        EventClockWorkbench x = fresh();
        for (int set = 15; set >= 0; set--) {
            int mask = set;
            for (int state = 0; state < 4; state++) {
                x.setInitial(0, state, (set >> state & 1) == 1);
            }
            quote(0, "A set of states is written as a bit mask.");
            due("the initial states", mask, () -> x.statesAfter(0, 0));
            quote(0, "The deterministic states of an automaton are found as follows: number 0 is the set of the initial"
                    + " states.");
            due("number 0", mask, () -> x.deterministicSet(0, 0));
            due("number 0 is reached without events", 0, () -> x.deterministicRun(0));
        }
    }

    private static void successors() {
        quote(0, "For a set of states, a letter and a valuation, the successor is the set of the targets of all"
                + " transitions whose source is in the set, whose letter is this one, and whose guard is satisfied.");
        EventClockWorkbench x = fresh();
        x.setInitial(0, 3, true);
        x.addTransition(0, 0, 1, 1);
        x.addTransition(0, 3, 1, 2);
        x.addTransition(0, 2, 1, 3);
        x.addTransition(0, 3, 2, 3);
        add(x, 0, 3, "b", "a!", 0);
        due("with b, the first", 7, () -> x.deterministicSet(0, x.branchTarget(0, 0, 1, 0)));
        due("it is taken for", 180, () -> x.branchValuations(0, 0, 1, 0));
        due("with b, the second", 6, () -> x.deterministicSet(0, x.branchTarget(0, 0, 1, 1)));
        due("it is taken for", 36, () -> x.branchValuations(0, 0, 1, 1));
        due("with c", 8, () -> x.deterministicSet(0, x.branchTarget(0, 0, 2, 0)));
        due("with a", 0, () -> x.deterministicSet(0, x.branchTarget(0, 0, 0, 0)));
    }

    private static void numbering() {
        quote(0, "The deterministic states are taken in the order of their numbers; for each of them the letters are"
                + " taken in ascending order, and for each letter all valuations in the ascending order of their ints;"
                + " each successor that has no number yet gets the next one.");
        EventClockWorkbench x = fresh();
        add(x, 0, 0, "c", "", 0);
        add(x, 0, 0, "b", "", 1);
        add(x, 0, 0, "a", "b=1&a=0&c=0", 2);
        add(x, 0, 0, "a", "a=1&b=0&c=0", 3);
        add(x, 0, 0, "a", "c=1&a=0&b=0", 0);
        add(x, 0, 3, "a", "", 2);
        add(x, 0, 3, "a", "", 3);
        int[] sets = {1, 0, 8, 4, 2, 12};
        due("their number", sets.length, () -> x.deterministicStates(0));
        for (int i = 0; i < sets.length; i++) {
            int number = i;
            due("number " + i, sets[i], () -> x.deterministicSet(0, number));
        }
        int[] targets = {1, 2, 3, 0};
        for (int i = 0; i < targets.length; i++) {
            int branch = i;
            due("branch " + i, targets[i], () -> x.branchTarget(0, 0, 0, branch));
        }
    }

    private static void emptySet() {
        quote(0, "The empty set is a deterministic state, too, if it is found.");
        EventClockWorkbench x = fresh();
        for (int letter = 0; letter < 3; letter++) {
            x.addTransition(0, 0, letter, 0);
        }
        due("it is not found", 1, () -> x.deterministicStates(0));
        for (int letter = 0; letter < 3; letter++) {
            int l = letter;
            due("nor among the branches", 1, () -> x.branches(0, 0, l));
        }
        add(x, 0, 1, "a", "", 1);
        x.removeTransition(0, 2);
        add(x, 0, 0, "c", "a<=3", 0);
        add(x, 0, 0, "c", "a?", 0);
        due("it is found with the value 4", 2, () -> x.deterministicStates(0));
        due("it is number 1", 0, () -> x.deterministicSet(0, 1));
        due("it is taken for", 36, () -> x.branchValuations(0, 0, 2, 1));
        for (int letter = 0; letter < 3; letter++) {
            int l = letter;
            due("it has one branch", 1, () -> x.branches(0, 1, l));
            due("which leads back", 1, () -> x.branchTarget(0, 1, l, 0));
        }
        x.setInitial(0, 0, false);
        due("it is number 0", 0, () -> x.deterministicSet(0, 0));
        due("it is the only one", 1, () -> x.deterministicStates(0));
    }

    private static void branches() {
        quote(0, "For each deterministic state and each letter, its different successors, over all valuations, are"
                + " called its branches; they are numbered from 0 in the order in which they are first found.");
        EventClockWorkbench x = fresh();
        addAllSets(x, 1);
        due("all sets are found", 16, () -> x.deterministicStates(1));
        due("sixteen branches", 16, () -> x.branches(1, 0, 0));
        due("one branch", 1, () -> x.branches(1, 0, 1));
        // By a first, then by b, then by c: for b and c, 2 is the first value that counts.
        int[] sets = {1, 3, 2, 0, 5, 7, 6, 4, 9, 11, 10, 8, 13, 15, 14, 12};
        int seen = 0;
        for (int i = 0; i < 16; i++) {
            int branch = i;
            due("branch " + i, sets[i], () -> x.deterministicSet(1, x.branchTarget(1, 0, 0, branch)));
            due("its number", i, () -> x.branchTarget(1, 0, 0, branch));
            seen += x.branchValuations(1, 0, 0, i);
        }
        int all = seen;
        due("all valuations", 216, () -> all);
        due("branch 16", INDEX, () -> x.branchTarget(1, 0, 0, 16));
        due("branch 1 of one", INDEX, () -> x.branchTarget(1, 0, 1, 1));
    }

    private static void allValuations() {
        quote(0, "All valuations are meant here, whether they can occur or not.");
        EventClockWorkbench x = fresh();
        add(x, 0, 0, "a", "a=1&b=2&c>3", 1);
        due("in state 0 all clocks are undefined, but", 2, () -> x.branches(0, 0, 0));
        due("all valuations but one", 215, () -> x.branchValuations(0, 0, 0, 0));
        due("one valuation", 1, () -> x.branchValuations(0, 0, 0, 1));
        due("state 1 is found", 3, () -> x.deterministicStates(0));
        x.setFinal(0, 1, true);
        due("though no word leads to it", true, () -> x.isEmpty(0));
        dueAlone("a=0&b=0&c=0", 0);
        dueAlone("a>3&b>3&c>3", 1);
        dueAlone("a?&b?&c?", 1);
    }

    /** A guard that one valuation satisfies, which is the first one of all or not. */
    private static void dueAlone(String guard, int branch) {
        for (int letter = 0; letter < 3; letter++) {
            int l = letter;
            EventClockWorkbench x = fresh();
            x.addTransition(0, 0, l, 0);
            add(x, 0, 0, String.valueOf((char) ('a' + letter)), guard, 1);
            due("branches with " + guard, 2, () -> x.branches(0, 0, l));
            due("one valuation", 1, () -> x.branchValuations(0, 0, l, branch));
            due("all others", 215, () -> x.branchValuations(0, 0, l, 1 - branch));
            due("two states", 3, () -> x.deterministicSet(0, x.branchTarget(0, 0, l, branch)));
            due("one state", 1, () -> x.deterministicSet(0, x.branchTarget(0, 0, l, 1 - branch)));
            x.removeTransition(0, 1);
            due("one branch without it", 1, () -> x.branches(0, 0, l));
            due("for all valuations", 216, () -> x.branchValuations(0, 0, l, 0));
            x.removeTransition(0, 0);
            due("the empty set alone", 0, () -> x.deterministicSet(0, x.branchTarget(0, 0, l, 0)));
        }
    }

    private static void dueWitness(EventClockWorkbench x, String word) {
        due("the witness's events", word.length() / 2, () -> x.takeWitness(0));
        due("the witness", word, () -> shownWord(x));
    }

    private static void orderOfSearch() {
        quote(0, "Words are searched by the number of events first, then by the sum of the delays, and then"
                + " lexicographically, where words are compared event by event, by the letter first and by the delay"
                + " then.");
        EventClockWorkbench x = fresh();
        x.setFinal(0, 3, true);
        x.addTransition(0, 0, 0, 1);
        add(x, 0, 1, "b", "a>3", 3);
        x.addTransition(0, 1, 0, 2);
        x.addTransition(0, 2, 0, 3);
        dueWitness(x, "0a4b");
        add(x, 0, 1, "c", "a=3", 3);
        dueWitness(x, "0a3c");
        add(x, 0, 1, "a", "a=3", 3);
        dueWitness(x, "0a3a");
        EventClockWorkbench y = fresh();
        y.setFinal(0, 3, true);
        y.addTransition(0, 0, 1, 1);
        y.addTransition(0, 0, 2, 2);
        add(y, 0, 1, "c", "b=1", 3);
        dueWitness(y, "0b1c");
        add(y, 0, 2, "a", "c=1", 3);
        dueWitness(y, "0b1c");
        add(y, 0, 1, "b", "b=1", 3);
        dueWitness(y, "0b1b");
        EventClockWorkbench z = fresh();
        z.setFinal(0, 3, true);
        z.addTransition(0, 0, 0, 0);
        add(z, 0, 0, "c", "a=2&b=1", 3);
        z.addTransition(0, 0, 1, 0);
        dueWitness(z, "0a1b1c");
        add(z, 0, 0, "c", "b=2&a=1", 3);
        dueWitness(z, "0a1b1c");
        add(z, 0, 0, "a", "b=2&a=0", 3);
        dueWitness(z, "0a1b1c");
        add(z, 0, 0, "a", "a=0&b=1", 3);
        dueWitness(z, "0b1a0a");
    }

    private static void witness() {
        quote(0, "A word is a witness against the emptiness of an automaton if it is accepted by it.");
        EventClockWorkbench x = fresh();
        due("no witness", ELEMENT, () -> x.takeWitness(1));
        due("empty", true, () -> x.isEmpty(1));
        x.setFinal(1, 0, true);
        due("the empty word", 0, () -> x.takeWitness(1));
        due("it is accepted", true, () -> x.accepts(1));
        due("not empty", false, () -> x.isEmpty(1));
        x.setInitial(1, 0, false);
        due("no initial state", ELEMENT, () -> x.takeWitness(1));
    }

    private static void kindsOfChanges() {
        quote(0, "The changes are the successful calls of addTransition, removeTransition, setInitial, setFinal,"
                + " copyAutomaton, clearAutomaton and restore.");
        EventClockWorkbench x = fresh();
        x.save();
        x.addTransition(0, 0, 0, 0);
        x.removeTransition(0, 0);
        x.setInitial(0, 1, true);
        x.setFinal(0, 1, true);
        x.copyAutomaton(0);
        x.clearAutomaton(0);
        x.restore();
        allOtherCalls(x);
        for (int left = 6; left >= 0; left--) {
            due("seven changes", left, x::undo);
        }
        due("and no other", STATE, x::undo);
        EventClockWorkbench y = fresh();
        allOtherCalls(y);
        due("none of these is a change", STATE, y::undo);
    }

    /** All calls that are not changes, and changes that are refused. */
    private static void allOtherCalls(EventClockWorkbench x) {
        write(x, "a<");
        due("a fault", ARGUMENT, () -> x.addTransition(0, 0, 0, 0));
        due("no automaton", INDEX, () -> x.addTransition(2, 0, 0, 0));
        due("no transition", INDEX, () -> x.removeTransition(0, 9));
        due("no state", INDEX, () -> x.setInitial(0, 4, true));
        due("no state", INDEX, () -> x.setFinal(0, 4, true));
        dueCall("no automaton", INDEX, () -> x.copyAutomaton(2));
        dueCall("no automaton", INDEX, () -> x.clearAutomaton(2));
        x.faultPosition();
        x.appendEvent(0, 0);
        answerOf(() -> x.takeWitness(0));
        answerOf(() -> x.takeDifference(0));
        answerOf(() -> x.firstRun(0, 0));
        answerOf(() -> x.stuckAt(0));
        x.wordLength();
        x.clearWord();
        x.save();
        x.isEmpty(0);
        x.isIncluded(0);
        x.isDeterministic(0);
        x.deterministicRun(0);
        x.acceptedShare(0, 1);
        x.averageBranches(0);
    }

    private static void eightChanges() {
        quote(0, "At most 8 of them can be taken back by undo; older ones are forgotten.");
        for (int changes = 0; changes <= 26; changes++) {
            EventClockWorkbench x = fresh();
            for (int i = 0; i < changes; i++) {
                x.setFinal(0, i % 4, i / 4 % 2 == 0);
            }
            int kept = Math.min(8, changes);
            for (int left = kept - 1; left >= 0; left--) {
                due(changes + " changes", left, x::undo);
            }
            due(changes + " changes, and no more", STATE, x::undo);
            for (int state = 0; state < 4; state++) {
                int q = state;
                int forgotten = changes - kept;
                boolean on = forgotten > q && (forgotten - 1 - q) / 4 % 2 == 0;
                due("what was forgotten remains", on, () -> x.setFinal(0, q, true));
            }
            due("new changes", 3, x::undo);
        }
        EventClockWorkbench y = fresh();
        y.save();
        for (int i = 0; i < 8; i++) {
            y.addTransition(1, 0, 0, 0);
        }
        y.restore();
        due("the ninth is a restore", 7, y::undo);
        due("it is taken back", 8, () -> y.transitionCount(1));
        for (int left = 6; left >= 0; left--) {
            due("those before it", left, y::undo);
        }
        due("but the first", STATE, y::undo);
        due("it remains", 1, () -> y.transitionCount(1));
    }

    private static void beyondChanges() {
        quote(0, "The current word and the text are not affected by undo, save and restore.");
        EventClockWorkbench x = fresh();
        word(x, "1a2b3c4a0b1c2a3b4c0a");
        write(x, "a<=0&b>=3&c?&a!&b<=0&c>=3&c?&a");
        x.save();
        x.setFinal(0, 0, true);
        due("undo", 0, x::undo);
        dueCall("restore", "nothing", x::restore);
        due("undo of restore", 0, x::undo);
        due("a full word", "1a2b3c4a0b1c2a3b4c0a", () -> shownWord(x));
        due("a full text", STATE, () -> x.appendCharacter('!'));
        due("its fault", ARGUMENT, () -> x.addTransition(0, 0, 0, 0));
        due("its position", 15, x::faultPosition);
        x.clearWord();
        x.setFinal(0, 0, true);
        x.undo();
        x.save();
        x.restore();
        due("an empty word", 0, x::wordLength);
        due("an empty text", 1, () -> x.appendCharacter('c'));
        EventClockWorkbench y = fresh();
        write(y, "b?");
        y.addTransition(0, 0, 0, 0);
        y.undo();
        due("the text that was read does not come back", 1, () -> y.appendCharacter('b'));
    }

    private static void nothingDifferent() {
        quote(0, "The calls that are changes are so even if nothing is different afterwards; changes that were taken back"
                + " do not count among those that can be taken back.");
        EventClockWorkbench x = fresh();
        x.save();
        x.setInitial(0, 0, true);
        x.setInitial(0, 1, false);
        x.setFinal(0, 0, false);
        x.copyAutomaton(0);
        x.copyAutomaton(1);
        x.clearAutomaton(1);
        x.restore();
        for (int left = 6; left >= 0; left--) {
            due("nothing is different", left, x::undo);
        }
        due("no more", STATE, x::undo);
        EventClockWorkbench y = fresh();
        for (int i = 0; i < 8; i++) {
            y.addTransition(0, 0, 0, 0);
        }
        for (int left = 7; left >= 5; left--) {
            due("three are taken back", left, y::undo);
        }
        for (int i = 0; i < 4; i++) {
            y.addTransition(1, 0, 0, 0);
        }
        for (int left = 7; left >= 0; left--) {
            due("four are added, and one is forgotten", left, y::undo);
        }
        due("no more", STATE, y::undo);
        due("the first remains", 1, () -> y.transitionCount(0));
        due("the other is as at first", 0, () -> y.transitionCount(1));
    }

    private static void noInitialState() {
        quote(0, "If no state is initial, the first event is the one at which a word gets stuck.");
        EventClockWorkbench x = fresh();
        x.addTransition(0, 0, 0, 0);
        word(x, "0a0a0a0a0a0a0a0a0a0a");
        due("with an initial state", ELEMENT, () -> x.stuckAt(0));
        x.setInitial(0, 0, false);
        due("a word of ten", 0, () -> x.stuckAt(0));
        word(x, "0a");
        due("a word of one", 0, () -> x.stuckAt(0));
        x.clearWord();
        due("the empty word", ELEMENT, () -> x.stuckAt(0));
    }

    private static void anyLength() {
        quote(0, "Whether an automaton accepts no word, or is included in the other one, is told by words of any length,"
                + " while words that are taken have at most as many events as the current word can have.");
        EventClockWorkbench x = fresh();
        countUpTwice(x, 0, "c>3");
        due("eleven events: not empty", false, () -> x.isEmpty(0));
        due("eleven events: not included", false, () -> x.isIncluded(0));
        due("eleven events: no witness", ELEMENT, () -> x.takeWitness(0));
        due("eleven events: no difference", ELEMENT, () -> x.takeDifference(0));
        for (int events = 0; events <= 10; events++) {
            int length = events;
            due("no word of " + events, 0L, () -> x.acceptedWords(0, length, 4));
        }
        EventClockWorkbench y = fresh();
        countUpTwice(y, 0, "c=3");
        due("ten events: not empty", false, () -> y.isEmpty(0));
        due("ten events: not included", false, () -> y.isIncluded(0));
        due("ten events: a witness", 10, () -> y.takeWitness(0));
        due("ten events: a difference", 10, () -> y.takeDifference(0));
        y.removeTransition(0, 5);
        due("no word at all: empty", true, () -> y.isEmpty(0));
        due("no word at all: included", true, () -> y.isIncluded(0));
    }

    private static void dueDeterministic(boolean want, String guard, String otherGuard, int target) {
        EventClockWorkbench x = fresh();
        add(x, 0, 1, "b", guard, 2);
        add(x, 0, 1, "b", otherGuard, target);
        due(guard + " and " + otherGuard, want, () -> x.isDeterministic(0));
    }

    private static void conflicts() {
        quote(0, "Two transitions with the same source and letter whose guards a valuation satisfies make an automaton"
                + " not deterministic, also if they lead to the same state, and whether that valuation can occur or"
                + " not.");
        dueDeterministic(false, "", "", 2);
        dueDeterministic(false, "", "", 3);
        dueDeterministic(true, "a<1", "a>=1", 2);
        dueDeterministic(false, "a<=1", "a>=1", 2);
        dueDeterministic(true, "a<=3", "a>3", 3);
        dueDeterministic(true, "a<=0&a>=0", "a?", 3);
        dueDeterministic(true, "c?", "c!", 2);
        dueDeterministic(false, "a=1&b=2", "c=3", 2);
        dueDeterministic(false, "a=1&b=2&c=3", "c>=3&b<3&a>0&a<2", 2);
        dueDeterministic(false, "c>3", "a?&b?", 2);
        dueDeterministic(true, "c<0", "", 2);
        EventClockWorkbench x = fresh();
        add(x, 0, 1, "b", "", 2);
        add(x, 0, 2, "b", "", 2);
        add(x, 0, 1, "c", "", 2);
        due("another source or letter", true, () -> x.isDeterministic(0));
        for (int first = 0; first < 10; first++) {
            for (int second = 0; second < first; second++) {
                dueConflict(first, second);
            }
        }
        EventClockWorkbench y = fresh();
        add(y, 0, 0, "a", "b=2", 1);
        add(y, 0, 0, "a", "b=2", 1);
        due("in state 0 all clocks are undefined, but", false, () -> y.isDeterministic(0));
    }

    /** Ten transitions, of which these two share one valuation and no others do. */
    private static void dueConflict(int first, int second) {
        EventClockWorkbench x = fresh();
        for (int i = 0; i < 10; i++) {
            boolean shared = i == first || i == second;
            add(x, 0, shared ? 3 : i % 3, shared ? "c" : String.valueOf((char) ('a' + i / 3 % 3)),
                    shared ? i == first ? "a>3" : "b?" : i == 9 ? "a?" : "a!", i % 4);
        }
        due("transitions " + first + " and " + second, false, () -> x.isDeterministic(0));
        x.removeTransition(0, first);
        due("without the first", true, () -> x.isDeterministic(0));
    }

    private static void leftFault() {
        quote(0, "A guard that was read leaves its fault position, or -1 without a fault, also if there are too many"
                + " transitions.");
        EventClockWorkbench x = fresh();
        for (int i = 0; i < 9; i++) {
            x.addTransition(0, 0, 0, 0);
        }
        write(x, "a=");
        due("a fault", ARGUMENT, () -> x.addTransition(0, 0, 0, 0));
        due("it is left", 2, x::faultPosition);
        due("the tenth", 9, () -> x.addTransition(0, 0, 0, 0));
        due("no fault is left", -1, x::faultPosition);
        write(x, "a=1&");
        due("a fault, and too many", ARGUMENT, () -> x.addTransition(0, 0, 0, 0));
        due("it is left", 4, x::faultPosition);
        write(x, "a=1");
        due("too many", STATE, () -> x.addTransition(0, 0, 0, 0));
        due("no fault is left", -1, x::faultPosition);
        write(x, "?");
        due("a fault again", ARGUMENT, () -> x.addTransition(0, 0, 0, 0));
        due("the empty text, and too many", STATE, () -> x.addTransition(0, 0, 0, 0));
        due("no fault is left", -1, x::faultPosition);
    }

    private static void anySource() {
        quote(0, "For blockingConstraint the source of the transition does not matter.");
        EventClockWorkbench x = fresh();
        for (int state = 0; state < 4; state++) {
            add(x, 0, state, "a", "c?&a=3", state);
        }
        word(x, "0b0a3a");
        for (int state = 0; state < 4; state++) {
            int transition = state;
            due("satisfied", -1, () -> x.blockingConstraint(0, transition, 2));
            due("not satisfied", 1, () -> x.blockingConstraint(0, transition, 1));
        }
        for (int state = 0; state < 4; state++) {
            x.setInitial(0, state, false);
        }
        due("without an initial state", -1, () -> x.blockingConstraint(0, 3, 2));
    }
}
