/**
 * What each promise does and answers at its edges: the least and the greatest answer, the empty and the full
 * automaton, word, text and history. EventClockWorkbenchRefusals has the parameters and the exceptions.
 */
public final class EventClockWorkbenchPromiseEdges extends WorkbenchTest {
    private static final String RUNS = "Returns the number of runs.";
    private static final String NUMBER = "Returns the number.";
    private static final String SET = "Returns the set of states.";
    private static final String VALUATIONS = "Returns the number of valuations.";
    private static final String DETERMINISTIC_STATE = "Returns the number of the deterministic state.";
    private static final String EVENTS = "Returns the number of its events.";

    public static void main(String[] args) {
        newObject();
        texts();
        faultPositions();
        readingTexts();
        adding();
        removing();
        initialStates();
        finalStates();
        copying();
        clearing();
        transitionCounts();
        transitionsAndConstraints();
        satisfyingValuations();
        growingWords();
        events();
        valuations();
        statesAfter();
        acceptance();
        numbersOfRuns();
        firstRuns();
        stuckEvents();
        blockingConstraints();
        deterministicStates();
        deterministicSets();
        branches();
        deterministicRuns();
        determinism();
        emptiness();
        witnesses();
        differences();
        inclusion();
        acceptedWords();
        acceptedShares();
        averageBranches();
        undoing();
        saving();
        restoring();
        restoringFullAutomata();
        allAreTested();
        finish("the promises hold at their edges");
    }

    private static void allAreTested() {
        for (int promise = 1; promise <= Document.PROMISES; promise++) {
            for (String sentence : Document.sentences(promise)) {
                if (!sentence.startsWith("`") && !sentence.startsWith("Throws")) {
                    dueQuoted(promise, sentence);
                }
            }
        }
    }

    private static EventClockWorkbench withAllSets() {
        EventClockWorkbench x = fresh();
        addAllSets(x, 0);
        return x;
    }

    private static EventClockWorkbench withTransitions(int slot, int count) {
        EventClockWorkbench x = fresh();
        for (int i = 0; i < count; i++) {
            add(x, slot, i % 4, "a", i % 2 == 0 ? "b?" : "b!&c=" + i % 4, (i + 1) % 4);
        }
        return x;
    }

    private static void newObject() {
        quote(1, "Creates a workbench with two automata without transitions.");
        EventClockWorkbench x = fresh();
        due("automaton 0", 0, () -> x.transitionCount(0));
        due("automaton 1", 0, () -> x.transitionCount(1));
        due("no word", 0, x::wordLength);
        due("no fault", -1, x::faultPosition);
        due("no change", STATE, x::undo);
        dueCall("nothing saved", STATE, x::restore);
        x.addTransition(0, 0, 0, 0);
        due("another object", 0, () -> fresh().transitionCount(0));
    }

    private static void texts() {
        quote(2, "Appends a character to the text.");
        EventClockWorkbench x = fresh();
        due("the least", 1, () -> x.appendCharacter(33));
        due("it is read", ARGUMENT, () -> x.addTransition(0, 0, 0, 0));
        due("it is the fault", 0, x::faultPosition);
        due("b", 1, () -> x.appendCharacter('b'));
        due("the greatest", 2, () -> x.appendCharacter(126));
        due("they are read", ARGUMENT, () -> x.addTransition(0, 0, 0, 0));
        due("the greatest is the fault", 1, x::faultPosition);
        quote(2, "Returns the new length of the text.");
        for (int length = 1; length <= 30; length++) {
            due("length " + length, length, () -> x.appendCharacter('c'));
        }
        due("a full text", STATE, () -> x.appendCharacter('c'));
        due("it is read", ARGUMENT, () -> x.addTransition(0, 0, 0, 0));
        due("length 1 again", 1, () -> x.appendCharacter('c'));
    }

    private static void faultPositions() {
        quote(3, "Returns the fault position of the text that was read by the latest call of addTransition that did not"
                + " throw IndexOutOfBoundsException.");
        EventClockWorkbench x = fresh();
        write(x, "b=1&");
        due("no automaton", INDEX, () -> x.addTransition(2, 0, 0, 0));
        due("no call that counts", -1, x::faultPosition);
        due("a fault", ARGUMENT, () -> x.addTransition(1, 0, 0, 0));
        due("its position", 4, x::faultPosition);
        due("and again", 4, x::faultPosition);
        write(x, "c");
        due("a new text alone", 4, x::faultPosition);
        due("no state", INDEX, () -> x.addTransition(1, 4, 0, 0));
        due("an index does not count", 4, x::faultPosition);
        due("a fault", ARGUMENT, () -> x.addTransition(1, 0, 0, 0));
        due("its position", 1, x::faultPosition);
        due("the empty text", 0, () -> x.addTransition(1, 0, 0, 0));
        quote(3, "Returns the fault position, or -1 if the text had no fault or there was no such call.");
        due("no fault", -1, x::faultPosition);
        due("no such call", -1, () -> fresh().faultPosition());
        write(x, "~");
        due("a fault", ARGUMENT, () -> x.addTransition(1, 0, 0, 0));
        due("the least position", 0, x::faultPosition);
        write(x, "a<=0&b>=3&c<=2&a>=1&");
        due("a fault", ARGUMENT, () -> x.addTransition(1, 0, 0, 0));
        due("the greatest position", 19, x::faultPosition);
        x.clearAutomaton(1);
        x.undo();
        due("after other calls", 19, x::faultPosition);
    }

    private static void readingTexts() {
        quote(4, "Reads the text as a guard text, empties it, and adds a transition with this guard.");
        EventClockWorkbench x = fresh();
        due("a guard", 0, () -> add(x, 0, 3, "c", "a<=0&b>=3&c?&a!", 3));
        due("its constraints", 4, () -> x.transition(0, 0, 3));
        due("the text is empty", 1, () -> x.addTransition(0, 0, 0, 0));
        due("the empty guard", 0, () -> x.transition(0, 1, 3));
        due("length 1", 1, () -> x.appendCharacter('b'));
        quote(4, "The text is emptied also if IllegalArgumentException or IllegalStateException is thrown.");
        due("a fault", ARGUMENT, () -> x.addTransition(0, 0, 0, 0));
        due("the text is empty", 2, () -> x.addTransition(0, 0, 0, 0));
        for (int i = 3; i < 10; i++) {
            x.addTransition(0, 0, 0, 0);
        }
        write(x, "b");
        due("a fault, and full", ARGUMENT, () -> x.addTransition(0, 0, 0, 0));
        due("the text is empty", STATE, () -> x.addTransition(0, 0, 0, 0));
        write(x, "b?");
        due("full", STATE, () -> x.addTransition(0, 0, 0, 0));
        due("the text is empty", 1, () -> x.appendCharacter('c'));
        due("an index", INDEX, () -> x.addTransition(0, 0, 0, 4));
        due("the text is not emptied", 2, () -> x.appendCharacter('!'));
        due("it is read by the other automaton", 0, () -> x.addTransition(1, 0, 0, 0));
        due("its clock", 2, () -> x.constraint(1, 0, 0, 0));
    }

    private static void adding() {
        quote(4, "Returns the number of the transition.");
        for (int slot = 0; slot < 2; slot++) {
            int s = slot;
            EventClockWorkbench x = fresh();
            for (int i = 0; i < 10; i++) {
                due("transition " + i, i, () -> x.addTransition(s, 3, 2, 3));
            }
            due("no eleventh", STATE, () -> x.addTransition(s, 0, 0, 0));
            due("the other's first", 0, () -> x.addTransition(1 - s, 0, 0, 0));
            x.removeTransition(s, 0);
            due("room again", 9, () -> x.addTransition(s, 0, 0, 0));
            due("full again", STATE, () -> x.addTransition(s, 0, 0, 0));
        }
    }

    private static void removing() {
        quote(5, "Removes a transition.");
        EventClockWorkbench x = withTransitions(1, 1);
        due("the only one", 0, () -> x.removeTransition(1, 0));
        due("none is left", 0, () -> x.transitionCount(1));
        due("no more", INDEX, () -> x.removeTransition(1, 0));
        EventClockWorkbench z = withTwoSteps();
        z.removeTransition(0, 2);
        z.removeTransition(0, 1);
        dueOneStep(z);
        for (int removed = 0; removed < 10; removed++) {
            removingOne(removed);
        }
        quote(5, "Returns the number of transitions that remain.");
        EventClockWorkbench y = withTransitions(0, 10);
        due("ten are there", INDEX, () -> y.removeTransition(0, 10));
        for (int remaining = 9; remaining >= 0; remaining--) {
            int last = remaining;
            due("the last one", remaining, () -> y.removeTransition(0, last));
            due("it is gone", INDEX, () -> y.removeTransition(0, last));
        }
    }

    /** From state 0 to 1 with a, and to the final state 2 with b, twice. */
    private static EventClockWorkbench withTwoSteps() {
        EventClockWorkbench x = fresh();
        x.addTransition(0, 0, 0, 1);
        x.addTransition(0, 1, 1, 2);
        x.addTransition(0, 1, 1, 2);
        x.setFinal(0, 2, true);
        word(x, "0a0b");
        due("two runs", 2L, () -> x.runCount(0));
        due("the first", 1, () -> x.firstRun(0, 1));
        due("not deterministic", false, () -> x.isDeterministic(0));
        due("the deterministic states", 4, () -> x.deterministicStates(0));
        return x;
    }

    /** Without the second step nothing can read b. */
    private static void dueOneStep(EventClockWorkbench x) {
        due("one transition", 1, () -> x.transitionCount(0));
        due("no run", 0L, () -> x.runCount(0));
        due("no accepting run", ELEMENT, () -> x.firstRun(0, 0));
        due("no state", 0, () -> x.statesAfter(0, 2));
        due("stuck at b", 1, () -> x.stuckAt(0));
        due("deterministic", true, () -> x.isDeterministic(0));
        due("the deterministic states", 3, () -> x.deterministicStates(0));
        due("the empty set from state 1 with b", 2, () -> x.branchTarget(0, 1, 1, 0));
        due("empty", true, () -> x.isEmpty(0));
        due("no words", 0L, () -> x.acceptedWords(0, 2, 4));
    }

    private static void removingOne(int removed) {
        quote(5, "The numbers of all transitions of the automaton with greater numbers decrease by 1.");
        EventClockWorkbench x = withTransitions(0, 10);
        x.copyAutomaton(0);
        due("removing " + removed, 9, () -> x.removeTransition(0, removed));
        for (int i = 0; i < 9; i++) {
            int number = i;
            int before = i < removed ? i : i + 1;
            for (int column = 0; column < 4; column++) {
                int c = column;
                due("transition " + i + " column " + c, x.transition(1, before, c), () -> x.transition(0, number, c));
            }
            int last = x.transition(1, before, 3) - 1;
            due("its last number", x.constraint(1, before, last, 2), () -> x.constraint(0, number, last, 2));
            due("its valuations", x.satisfyingValuations(1, before), () -> x.satisfyingValuations(0, number));
        }
        due("no transition 9", INDEX, () -> x.transition(0, 9, 0));
        due("ten in the other", 10, () -> x.transitionCount(1));
    }

    private static void initialStates() {
        EventClockWorkbench x = fresh();
        for (int state = 0; state < 4; state++) {
            int q = state;
            quote(6, "Returns whether it was initial before.");
            due("on " + q, q == 0, () -> x.setInitial(1, q, true));
            due("on again " + q, true, () -> x.setInitial(1, q, true));
            quote(6, "Makes a state initial or not.");
            due("initial", (2 << q) - 1, () -> x.statesAfter(1, 0));
        }
        for (int state = 0; state < 4; state++) {
            int q = state;
            quote(6, "Returns whether it was initial before.");
            due("off " + q, true, () -> x.setInitial(1, q, false));
            due("off again " + q, false, () -> x.setInitial(1, q, false));
            quote(6, "Makes a state initial or not.");
            due("initial", 15 - ((2 << q) - 1), () -> x.statesAfter(1, 0));
        }
        due("the other", 1, () -> x.statesAfter(0, 0));
    }

    private static void finalStates() {
        EventClockWorkbench x = fresh();
        for (int state = 0; state < 4; state++) {
            x.setInitial(1, state, true);
            int q = state;
            quote(7, "Returns whether it was final before.");
            due("on " + q, false, () -> x.setFinal(1, q, true));
            due("on again " + q, true, () -> x.setFinal(1, q, true));
            quote(7, "Makes a state final or not.");
            due("final", q + 1L, () -> x.acceptingRuns(1));
        }
        for (int state = 0; state < 4; state++) {
            int q = state;
            quote(7, "Returns whether it was final before.");
            due("off " + q, true, () -> x.setFinal(1, q, false));
            due("off again " + q, false, () -> x.setFinal(1, q, false));
            quote(7, "Makes a state final or not.");
            due("final", 3L - q, () -> x.acceptingRuns(1));
        }
        due("the other", false, () -> x.setFinal(0, 3, false));
    }

    private static void copying() {
        quote(8, "Replaces the other automaton by a copy of an automaton.");
        EventClockWorkbench x = withTransitions(0, 10);
        x.setFinal(0, 3, true);
        x.setInitial(0, 0, false);
        dueCall("a full automaton", "nothing", () -> x.copyAutomaton(0));
        due("ten", 10, () -> x.transitionCount(1));
        due("the copy is full", STATE, () -> x.addTransition(1, 0, 0, 0));
        due("its initial states", 0, () -> x.statesAfter(1, 0));
        due("its final states", true, () -> x.setFinal(1, 3, false));
        due("those of the first stay", true, () -> x.setFinal(0, 3, true));
        due("its last guard", 1, () -> x.constraint(1, 9, 1, 2));
        due("the copy alone", 9, () -> x.removeTransition(1, 9));
        due("is removed from", 10, () -> x.transitionCount(0));
        EventClockWorkbench y = withTransitions(0, 10);
        dueCall("an automaton without transitions", "nothing", () -> y.copyAutomaton(1));
        due("none", 0, () -> y.transitionCount(0));
        due("it has room", 0, () -> y.addTransition(0, 0, 0, 0));
        due("with the empty guard", 0, () -> y.transition(0, 0, 3));
    }

    private static void clearing() {
        quote(9, "Makes an automaton what it was at first.");
        for (int slot = 0; slot < 2; slot++) {
            int s = slot;
            EventClockWorkbench x = withTransitions(s, 10);
            x.setInitial(s, 0, false);
            x.setInitial(s, 3, true);
            x.setFinal(s, 3, true);
            x.setFinal(1 - s, 1, true);
            dueCall("a full automaton", "nothing", () -> x.clearAutomaton(s));
            due("no transition", 0, () -> x.transitionCount(s));
            due("state 0 is initial", 1, () -> x.statesAfter(s, 0));
            due("no state is final", false, () -> x.setFinal(s, 3, false));
            due("the other stays", true, () -> x.setFinal(1 - s, 1, true));
            dueCall("an automaton as at first", "nothing", () -> x.clearAutomaton(s));
            due("no transition", 0, () -> x.transitionCount(s));
            due("state 0 is initial", 1, () -> x.statesAfter(s, 0));
        }
        EventClockWorkbench y = withTwoSteps();
        y.clearAutomaton(0);
        y.addTransition(0, 0, 0, 1);
        y.setFinal(0, 2, true);
        dueOneStep(y);
    }

    private static void transitionCounts() {
        quote(10, "Returns the number of transitions.");
        for (int count = 0; count <= 10; count++) {
            EventClockWorkbench x = withTransitions(1, count);
            due("added", count, () -> x.transitionCount(1));
            due("the other", 0, () -> x.transitionCount(0));
        }
        quote(10, "Returns 0 to 10.");
        due("the least", 0, () -> fresh().transitionCount(0));
        EventClockWorkbench y = withTransitions(0, 10);
        due("one more", STATE, () -> y.addTransition(0, 0, 0, 0));
        due("the greatest", 10, () -> y.transitionCount(0));
    }

    private static void transitionsAndConstraints() {
        quote(11, "Returns a number of a transition.");
        EventClockWorkbench x = withTransitions(0, 9);
        add(x, 0, 3, "c", "a<0&b>=3&c?&c!", 2);
        int[] row = {3, 2, 2, 4};
        for (int column = 0; column < 4; column++) {
            int c = column;
            due("the last transition, column " + c, row[c], () -> x.transition(0, 9, c));
        }
        quote(11, NUMBER);
        due("the first transition, the least number", 0, () -> x.transition(0, 0, 0));
        quote(12, "Returns a number of a constraint of the guard of a transition.");
        int[][] constraints = {{0, 0, 0}, {1, 3, 3}, {2, 5, 0}, {2, 6, 0}};
        for (int index = 0; index < 4; index++) {
            for (int column = 0; column < 3; column++) {
                int i = index;
                int c = column;
                due("constraint " + i + " column " + c, constraints[i][c], () -> x.constraint(0, 9, i, c));
            }
        }
        due("no constraint 4", INDEX, () -> x.constraint(0, 9, 4, 0));
        due("one constraint", 5, () -> x.constraint(0, 0, 0, 1));
        due("no constraint 1", INDEX, () -> x.constraint(0, 0, 1, 1));
        quote(12, NUMBER);
        x.addTransition(1, 0, 0, 0);
        due("no constraint at all", INDEX, () -> x.constraint(1, 0, 0, 0));
    }

    private static void satisfyingValuations() {
        quote(13, "Returns how many of all 216 valuations satisfy the guard of a transition.");
        EventClockWorkbench x = fresh();
        String[] guards = {"", "a<0", "a?&b?&c?", "a?&a!", "a>3&b>3&c>3", "a!&b!&c!", "c<=3", "b>=0"};
        int[] counts = {216, 0, 1, 0, 1, 125, 144, 180};
        for (int i = 0; i < guards.length; i++) {
            int number = i;
            add(x, 0, 0, "a", guards[i], 0);
            due("guard " + guards[i], counts[i], () -> x.satisfyingValuations(0, number));
        }
        quote(13, VALUATIONS);
        due("the greatest", 216, () -> x.satisfyingValuations(0, 0));
        due("the least", 0, () -> x.satisfyingValuations(0, 1));
    }

    private static void growingWords() {
        EventClockWorkbench x = fresh();
        quote(15, "Returns the number of events that it had.");
        due("an empty word", 0, x::clearWord);
        for (int i = 1; i <= 10; i++) {
            int length = i;
            quote(14, "Appends an event to the current word.");
            quote(14, "Returns the new number of events.");
            due("event " + i, length, () -> x.appendEvent(length % 5, length % 3));
            quote(16, "Returns the number of events of the current word.");
            due("length " + i, length, x::wordLength);
        }
        due("one more", STATE, () -> x.appendEvent(0, 0));
        due("the word", "1b2c3a4b0c1a2b3c4a0b", () -> shownWord(x));
        quote(16, "Returns 0 to 10.");
        due("the greatest", 10, x::wordLength);
        quote(15, "Returns the number of events that it had.");
        due("a full word", 10, x::clearWord);
        quote(16, "Returns 0 to 10.");
        due("the least", 0, x::wordLength);
        quote(15, "Makes the current word empty.");
        due("no event", INDEX, () -> x.event(0, 0));
        due("room again", 1, () -> x.appendEvent(0, 0));
        due("a word of one", 1, x::clearWord);
        due("an empty word", 0, x::clearWord);
    }

    private static void events() {
        quote(17, "Returns a number of an event of the current word.");
        EventClockWorkbench x = fresh();
        due("the empty word", INDEX, () -> x.event(0, 0));
        due("before the empty word", INDEX, () -> x.event(-1, 0));
        word(x, "4c0a");
        due("the first delay", 4, () -> x.event(0, 0));
        due("the first letter", 2, () -> x.event(0, 1));
        due("the last delay", 0, () -> x.event(1, 0));
        due("the last letter", 0, () -> x.event(1, 1));
        due("behind the last", INDEX, () -> x.event(2, 0));
        word(x, "0a0a0a0a0a0a0a0a0a3b");
        quote(17, NUMBER);
        due("the tenth delay", 3, () -> x.event(9, 0));
        due("the tenth letter", 1, () -> x.event(9, 1));
        due("behind the tenth", INDEX, () -> x.event(10, 1));
        x.clearWord();
        due("none is left", INDEX, () -> x.event(0, 1));
    }

    private static void valuations() {
        quote(18, "Returns the valuation with which an event of the current word is read, that is, after its delay and"
                + " before its clock becomes 0.");
        EventClockWorkbench x = fresh();
        due("the empty word", INDEX, () -> x.valuationBefore(0));
        word(x, "0a0b0c0a4b0a0a0c1b2c");
        int[] valuations = {999, 990, 900, 0, 444, 404, 400, 400, 111, 323};
        for (int i = 0; i < 10; i++) {
            int index = i;
            due("event " + i, valuations[i], () -> x.valuationBefore(index));
        }
        due("behind the tenth", INDEX, () -> x.valuationBefore(10));
        quote(18, "Returns the valuation as an int.");
        due("the greatest", 999, () -> x.valuationBefore(0));
        due("the least", 0, () -> x.valuationBefore(3));
    }

    private static void statesAfter() {
        quote(19, "Returns the states in which runs of an automaton on a prefix of the current word can end.");
        EventClockWorkbench x = fresh();
        for (int state = 0; state < 4; state++) {
            x.addTransition(0, state, 0, (state + 1) % 4);
            x.addTransition(0, state, 1, 3);
        }
        due("the empty prefix of the empty word", 1, () -> x.statesAfter(0, 0));
        due("one event of none", INDEX, () -> x.statesAfter(0, 1));
        word(x, "0a0a0a0a0a0a0a0a0a0a");
        for (int events = 0; events <= 10; events++) {
            int prefix = events;
            due("after " + events, 1 << events % 4, () -> x.statesAfter(0, prefix));
        }
        due("eleven events of ten", INDEX, () -> x.statesAfter(0, 11));
        quote(19, SET);
        due("the empty set", 0, () -> x.statesAfter(1, 10));
        for (int state = 0; state < 4; state++) {
            x.setInitial(0, state, true);
        }
        due("the full set", 15, () -> x.statesAfter(0, 10));
        word(x, "0b");
        due("state 3", 8, () -> x.statesAfter(0, 1));
    }

    private static void acceptance() {
        quote(20, "Returns whether an automaton accepts the current word.");
        EventClockWorkbench x = fresh();
        due("the empty word, no final state", false, () -> x.accepts(0));
        x.setFinal(0, 0, true);
        due("the empty word, state 0 is final", true, () -> x.accepts(0));
        x.setInitial(0, 0, false);
        due("the empty word, no initial state", false, () -> x.accepts(0));
        quote(20, "Returns whether it is accepted.");
        countUpTwice(x, 1, "c=3");
        word(x, "4c0b1b1b1b1c0b1b1b1b");
        due("ten events", true, () -> x.accepts(1));
        word(x, "0c0b1b1b1b1c0b1b1b");
        due("one less", false, () -> x.accepts(1));
        word(x, "0c0b1b1b1b1c0b1b1b2b");
        due("a longer delay at the last event", false, () -> x.accepts(1));
    }

    private static void numbersOfRuns() {
        EventClockWorkbench x = fresh();
        for (int i = 0; i < 10; i++) {
            x.addTransition(0, 0, 2, 0);
        }
        x.setFinal(0, 0, true);
        quote(21, "Returns the number of runs of an automaton on the current word, accepting or not.");
        quote(21, "Runs with different transitions are different.");
        quote(21, RUNS);
        quote(22, "Returns the number of accepting runs of an automaton on the current word.");
        quote(22, RUNS);
        long runs = 1;
        for (int events = 0; events <= 10; events++) {
            long want = runs;
            due("runs on " + events, want, () -> x.runCount(0));
            due("accepting runs on " + events, want, () -> x.acceptingRuns(0));
            if (events < 10) {
                x.appendEvent(4, 2);
            }
            runs *= 10;
        }
        due("no transition", 0L, () -> x.runCount(1));
        x.setFinal(0, 0, false);
        due("no final state: runs", 10000000000L, () -> x.runCount(0));
        due("no final state: accepting runs", 0L, () -> x.acceptingRuns(0));
        x.setFinal(0, 0, true);
        x.setInitial(0, 0, false);
        due("no initial state: runs", 0L, () -> x.runCount(0));
        due("no initial state: accepting runs", 0L, () -> x.acceptingRuns(0));
        x.clearWord();
        due("no initial state, the empty word", 0L, () -> x.runCount(0));
        for (int state = 0; state < 4; state++) {
            x.setInitial(0, state, true);
        }
        due("four initial states, the empty word", 4L, () -> x.runCount(0));
        due("one of them final", 1L, () -> x.acceptingRuns(0));
        EventClockWorkbench y = fresh();
        for (int state = 0; state < 4; state++) {
            y.addTransition(1, state, 0, (state + 1) % 4);
            y.addTransition(1, state, 0, (state + 3) % 4);
        }
        y.setFinal(1, 3, true);
        word(y, "0a0a0a0a0a0a0a0a0a");
        due("runs through all states", 512L, () -> y.runCount(1));
        due("half of them end in state 3", 256L, () -> y.acceptingRuns(1));
        y.appendEvent(0, 0);
        due("runs through all states", 1024L, () -> y.runCount(1));
        due("none of them ends in state 3", 0L, () -> y.acceptingRuns(1));
        y.setInitial(1, 3, true);
        due("runs from state 3, too", 2048L, () -> y.runCount(1));
        due("half of them end there", 512L, () -> y.acceptingRuns(1));
    }

    private static void firstRuns() {
        quote(23, "Returns a transition of the accepting run of an automaton on the current word that is first by its"
                + " initial state, and then lexicographically by the numbers of its transitions.");
        EventClockWorkbench x = fresh();
        x.setInitial(0, 3, true);
        x.setFinal(0, 3, true);
        due("the empty word, though it is accepted", INDEX, () -> x.firstRun(0, 0));
        x.addTransition(0, 3, 0, 3);
        x.addTransition(0, 1, 0, 3);
        x.addTransition(0, 0, 0, 0);
        x.addTransition(0, 0, 0, 1);
        word(x, "0a");
        due("state 3 alone accepts", 0, () -> x.firstRun(0, 0));
        word(x, "0a0a");
        due("state 0 before state 3", 3, () -> x.firstRun(0, 0));
        due("then", 1, () -> x.firstRun(0, 1));
        word(x, "0a0a0a");
        due("the least number first", 2, () -> x.firstRun(0, 0));
        due("then", 3, () -> x.firstRun(0, 1));
        due("at last", 1, () -> x.firstRun(0, 2));
        quote(23, "Returns the number of the transition.");
        word(x, "0a0a0a0a0a0a0a0a0a0a");
        int[] run = {2, 2, 2, 2, 2, 2, 2, 2, 3, 1};
        for (int index = 0; index < 10; index++) {
            int i = index;
            due("event " + i + " of ten", run[i], () -> x.firstRun(0, i));
        }
        due("no event 10", INDEX, () -> x.firstRun(0, 10));
        EventClockWorkbench y = fresh();
        for (int i = 0; i < 9; i++) {
            y.addTransition(1, 0, 0, 1);
        }
        y.addTransition(1, 0, 0, 2);
        y.setFinal(1, 2, true);
        word(y, "4a");
        due("the greatest number", 9, () -> y.firstRun(1, 0));
        y.setFinal(1, 1, true);
        due("the least number", 0, () -> y.firstRun(1, 0));
    }

    private static void stuckEvents() {
        quote(24, "Returns the first event of the current word that no run of an automaton can read.");
        quote(24, "Returns the index of the event.");
        EventClockWorkbench x = fresh();
        add(x, 0, 0, "a", "", 0);
        add(x, 0, 0, "a", "a!", 1);
        add(x, 0, 1, "b", "b?", 2);
        for (int events = 0; events < 10; events++) {
            int index = events;
            StringBuilder text = new StringBuilder();
            for (int i = 0; i < 10; i++) {
                text.append(i == index ? "0c" : "0a");
            }
            word(x, text.toString());
            due("event " + index, index, () -> x.stuckAt(0));
        }
        word(x, "0a0a0b0b0a");
        due("behind the last state", 3, () -> x.stuckAt(0));
        word(x, "0a0b");
        due("one run too early", 1, () -> x.stuckAt(0));
        due("no transition", 0, () -> x.stuckAt(1));
    }

    private static void blockingConstraints() {
        quote(25, "Explains why a transition cannot be used at an event: returns the index of the first constraint of"
                + " its guard that is not satisfied by the valuation with which the event is read.");
        EventClockWorkbench x = fresh();
        add(x, 0, 0, "b", "a!&a<=3&b?&a>=1", 0);
        word(x, "0b4a0b1b4b");
        due("the first, though others are not satisfied", 0, () -> x.blockingConstraint(0, 0, 0));
        due("the third before the fourth", 2, () -> x.blockingConstraint(0, 0, 2));
        due("the third alone", 2, () -> x.blockingConstraint(0, 0, 3));
        due("the second before the third", 1, () -> x.blockingConstraint(0, 0, 4));
        word(x, "4a0b");
        due("the fourth", 3, () -> x.blockingConstraint(0, 0, 1));
        quote(25, "Returns the index of the constraint, or -1 if the guard is satisfied.");
        word(x, "4a3b");
        due("the greatest that satisfies", -1, () -> x.blockingConstraint(0, 0, 1));
        word(x, "4a1b");
        due("the least that satisfies", -1, () -> x.blockingConstraint(0, 0, 1));
        word(x, "4a4b");
        due("one more", 1, () -> x.blockingConstraint(0, 0, 1));
    }

    private static void deterministicStates() {
        quote(26, "Returns the number of deterministic states of an automaton.");
        EventClockWorkbench x = fresh();
        due("state 0 and the empty set", 2, () -> x.deterministicStates(0));
        quote(26, "Returns 1 to 16.");
        x.setInitial(0, 0, false);
        due("the least", 1, () -> x.deterministicStates(0));
        EventClockWorkbench y = withAllSets();
        due("the greatest", 16, () -> y.deterministicStates(0));
        y.removeTransition(0, 3);
        due("all sets without state 3", 8, () -> y.deterministicStates(0));
    }

    private static void deterministicSets() {
        quote(27, "Returns a deterministic state of an automaton as a set of states.");
        quote(27, SET);
        EventClockWorkbench x = withAllSets();
        int seen = 0;
        for (int number = 0; number < 16; number++) {
            seen |= 1 << x.deterministicSet(0, number);
        }
        int all = seen;
        due("each of them once", 65535, () -> all);
        due("the first", 1, () -> x.deterministicSet(0, 0));
        due("the last", 12, () -> x.deterministicSet(0, 15));
        due("no seventeenth", INDEX, () -> x.deterministicSet(0, 16));
        due("the other's last", 0, () -> x.deterministicSet(1, 1));
        due("the other has no third", INDEX, () -> x.deterministicSet(1, 2));
        x.setInitial(0, 0, false);
        due("the only one", 0, () -> x.deterministicSet(0, 0));
        due("no second", INDEX, () -> x.deterministicSet(0, 1));
    }

    private static void branches() {
        EventClockWorkbench x = withAllSets();
        quote(28, "Returns the number of branches of a deterministic state for a letter.");
        quote(28, "Returns the number of branches.");
        due("the greatest", 16, () -> x.branches(0, 0, 0));
        due("the least", 1, () -> x.branches(0, 15, 2));
        due("of the empty set", 1, () -> x.branches(0, 3, 0));
        quote(29, "Returns the deterministic state to which a branch leads.");
        quote(29, DETERMINISTIC_STATE);
        due("the least", 0, () -> x.branchTarget(0, 0, 0, 0));
        due("the greatest", 15, () -> x.branchTarget(0, 0, 0, 15));
        due("the empty set to itself", 3, () -> x.branchTarget(0, 3, 2, 0));
        quote(30, "Returns for how many of all 216 valuations a branch is taken.");
        quote(30, VALUATIONS);
        due("the greatest", 216, () -> x.branchValuations(0, 0, 1, 0));
        due("a is 0, and b and c at most 1 or undefined", 9, () -> x.branchValuations(0, 0, 0, 0));
        due("a is above 2 or undefined, and b and c so, too", 27, () -> x.branchValuations(0, 0, 0, 3));
        add(x, 1, 0, "c", "a?&b=0&c>3", 0);
        due("the least", 1, () -> x.branchValuations(1, 0, 2, 1));
        due("all but one", 215, () -> x.branchValuations(1, 0, 2, 0));
        due("it leads to the empty set", 1, () -> x.branchTarget(1, 0, 2, 0));
    }

    private static void deterministicRuns() {
        quote(31, "Returns the deterministic state that is reached with the current word from the deterministic state 0,"
                + " where each event leads to the successor for its letter and the valuation with which it is read.");
        quote(31, DETERMINISTIC_STATE);
        EventClockWorkbench x = withAllSets();
        due("the empty word", 0, () -> x.deterministicRun(0));
        word(x, "0a");
        due("all clocks undefined: the empty set", 3, () -> x.deterministicRun(0));
        add(x, 0, 0, "b", "", 0);
        add(x, 0, 0, "c", "", 0);
        add(x, 0, 0, "a", "a?", 0);
        word(x, "0b0c0a2a");
        due("1, 2 and 3", 14, () -> x.deterministicSet(0, x.deterministicRun(0)));
        word(x, "0b4c4a0c0b0c0b0c0b2a");
        due("ten events", 14, () -> x.deterministicSet(0, x.deterministicRun(0)));
        x.setInitial(0, 0, false);
        due("no initial state", 0, () -> x.deterministicRun(0));
    }

    private static void determinism() {
        quote(32, "Returns whether an automaton is deterministic as it is: it has exactly one initial state, and no"
                + " valuation satisfies the guards of two transitions with the same source and the same letter.");
        quote(32, "Returns whether it is deterministic.");
        EventClockWorkbench x = fresh();
        x.setInitial(0, 0, false);
        for (int states = 0; states < 4; states++) {
            due(states + " initial states", states == 1, () -> x.isDeterministic(0));
            x.setInitial(0, 3 - states, true);
        }
        due("4 initial states", false, () -> x.isDeterministic(0));
        EventClockWorkbench y = fresh();
        for (int i = 0; i < 9; i++) {
            y.addTransition(0, i / 3, i % 3, 0);
        }
        due("nine transitions", true, () -> y.isDeterministic(0));
        y.addTransition(0, 3, 2, 0);
        due("ten transitions", true, () -> y.isDeterministic(0));
        y.removeTransition(0, 9);
        add(y, 0, 0, "a", "a=1&b=1&c=1", 0);
        due("the first and the last share one valuation", false, () -> y.isDeterministic(0));
        y.removeTransition(0, 0);
        due("without the first", true, () -> y.isDeterministic(0));
    }

    private static void emptiness() {
        quote(33, "Returns whether an automaton accepts no word.");
        quote(33, "Returns whether it accepts none.");
        EventClockWorkbench x = fresh();
        due("at first", true, () -> x.isEmpty(0));
        x.setFinal(0, 0, true);
        due("the empty word alone", false, () -> x.isEmpty(0));
        x.setInitial(0, 0, false);
        due("no initial state", true, () -> x.isEmpty(0));
        EventClockWorkbench y = fresh();
        y.setFinal(1, 1, true);
        add(y, 1, 0, "a", "a?&a!", 1);
        due("a guard that nothing satisfies", true, () -> y.isEmpty(1));
        add(y, 1, 0, "b", "b=0", 1);
        due("a clock that is not defined yet", true, () -> y.isEmpty(1));
        add(y, 1, 0, "c", "", 0);
        due("it is not defined by c", true, () -> y.isEmpty(1));
        add(y, 1, 0, "b", "c>3", 1);
        due("a delay of 4", false, () -> y.isEmpty(1));
        due("the other", true, () -> y.isEmpty(0));
    }

    private static void witnesses() {
        quote(34, "Makes the first witness against the emptiness of an automaton the current word.");
        EventClockWorkbench x = fresh();
        countUpTwice(x, 1, "c=3");
        word(x, "1a");
        due("ten events", 10, () -> x.takeWitness(1));
        due("the first one", "0c0b1b1b1b1c0b1b1b1b", () -> shownWord(x));
        due("it is accepted", true, () -> x.accepts(1));
        due("a full word", STATE, () -> x.appendEvent(0, 0));
        quote(34, EVENTS);
        x.setFinal(1, 0, true);
        due("no event", 0, () -> x.takeWitness(1));
        due("an empty word", 0, x::wordLength);
        due("room again", 1, () -> x.appendEvent(4, 1));
        due("from the first valuation", 999, () -> x.valuationBefore(0));
    }

    private static void differences() {
        quote(35, "Makes the first word that an automaton accepts and the other one does not accept the current word.");
        EventClockWorkbench x = fresh();
        countUpTwice(x, 0, "c=3");
        x.copyAutomaton(0);
        word(x, "1a");
        due("the same automata", ELEMENT, () -> x.takeDifference(0));
        due("the word stays", "1a", () -> shownWord(x));
        x.removeTransition(1, 5);
        due("none in the other direction", ELEMENT, () -> x.takeDifference(1));
        quote(35, EVENTS);
        due("ten events", 10, () -> x.takeDifference(0));
        due("the first one", "0c0b1b1b1b1c0b1b1b1b", () -> shownWord(x));
        add(x, 1, 2, "b", "b=1&c=3&a?", 3);
        due("a does not occur", ELEMENT, () -> x.takeDifference(0));
        x.setFinal(1, 0, true);
        due("no event", 0, () -> x.takeDifference(1));
        due("an empty word", 0, x::wordLength);
        x.setFinal(0, 0, true);
        due("both accept it", ELEMENT, () -> x.takeDifference(1));
    }

    private static void inclusion() {
        quote(36, "Returns whether the other automaton accepts all words that an automaton accepts.");
        quote(36, "Returns whether it does.");
        EventClockWorkbench x = fresh();
        due("both accept nothing", true, () -> x.isIncluded(0) && x.isIncluded(1));
        x.setFinal(0, 0, true);
        due("nothing in the empty word", true, () -> x.isIncluded(1));
        due("the empty word in nothing", false, () -> x.isIncluded(0));
        for (int letter = 0; letter < 3; letter++) {
            x.addTransition(0, 0, letter, 0);
        }
        x.copyAutomaton(0);
        due("all words", true, () -> x.isIncluded(0) && x.isIncluded(1));
        x.removeTransition(1, 2);
        add(x, 1, 0, "c", "c?", 0);
        add(x, 1, 0, "c", "c<=3", 0);
        due("all words but with a clock above 3", false, () -> x.isIncluded(0));
        add(x, 1, 0, "c", "c>3", 0);
        due("and with it", true, () -> x.isIncluded(0));
        EventClockWorkbench y = fresh();
        countUpTwice(y, 0, "c=3");
        countUpTwice(y, 1, "c>3");
        due("ten events are not among eleven", false, () -> y.isIncluded(0));
        due("eleven events are not among ten", false, () -> y.isIncluded(1));
    }

    private static void acceptedWords() {
        quote(37, "Returns how many words with a certain number of events, whose delays are not longer than a bound, are"
                + " accepted by an automaton.");
        quote(37, "Returns the number of words.");
        EventClockWorkbench x = fresh();
        x.setFinal(0, 0, true);
        for (int letter = 0; letter < 3; letter++) {
            x.addTransition(0, 0, letter, 0);
        }
        for (int longest = 0; longest <= 4; longest++) {
            int bound = longest;
            long all = 1;
            for (int events = 0; events <= 10; events++) {
                int length = events;
                long want = all;
                due("all words of " + events + " up to " + longest, want, () -> x.acceptedWords(0, length, bound));
                due("none", 0L, () -> x.acceptedWords(1, length, bound));
                all *= 3 * (longest + 1);
            }
        }
        EventClockWorkbench y = fresh();
        y.setFinal(0, 1, true);
        y.addTransition(0, 0, 0, 0);
        add(y, 0, 0, "b", "a>3", 1);
        due("no words up to 3", 0L, () -> y.acceptedWords(0, 2, 3));
        due("the first delay is free, the second is 4", 5L, () -> y.acceptedWords(0, 2, 4));
        due("none of one event", 0L, () -> y.acceptedWords(0, 1, 4));
        due("none of no event", 0L, () -> y.acceptedWords(0, 0, 4));
        countUpTwice(y, 1, "c=3");
        due("the first of ten", 5L, () -> y.acceptedWords(1, 10, 4));
        due("up to 1", 2L, () -> y.acceptedWords(1, 10, 1));
        due("up to 0", 0L, () -> y.acceptedWords(1, 10, 0));
        due("none of nine", 0L, () -> y.acceptedWords(1, 9, 4));
    }

    private static void acceptedShares() {
        quote(38, "Returns the share of accepted words among all words with a certain number of events: the number of"
                + " acceptedWords with delays of at most 4, divided by the number of all such words, both converted to"
                + " double.");
        quote(38, "Returns the share.");
        EventClockWorkbench x = fresh();
        due("none of no event", 0.0, () -> x.acceptedShare(0, 0));
        due("none of ten events", 0.0, () -> x.acceptedShare(0, 10));
        x.setFinal(0, 0, true);
        due("all of no event", 1.0, () -> x.acceptedShare(0, 0));
        due("none of one event", 0.0, () -> x.acceptedShare(0, 1));
        x.addTransition(0, 0, 0, 0);
        due("a third", 5.0 / 15.0, () -> x.acceptedShare(0, 1));
        due("a third of ten events", 9765625.0 / 576650390625.0, () -> x.acceptedShare(0, 10));
        x.addTransition(0, 0, 1, 0);
        x.addTransition(0, 0, 2, 0);
        due("all of ten events", 1.0, () -> x.acceptedShare(0, 10));
        countUpTwice(x, 1, "c=3");
        due("five of ten events", 5.0 / 576650390625.0, () -> x.acceptedShare(1, 10));
    }

    private static void averageBranches() {
        quote(39, "Returns the sum of the numbers of branches over all deterministic states and all letters, divided by"
                + " 3 times the number of deterministic states, both converted to float.");
        quote(39, "Returns the average.");
        EventClockWorkbench x = withAllSets();
        due("eight of the sets have sixteen branches with a", 3.5f, () -> x.averageBranches(0));
        due("the least", 1.0f, () -> x.averageBranches(1));
        x.setInitial(0, 0, false);
        due("the empty set alone", 1.0f, () -> x.averageBranches(0));
        add(x, 1, 0, "b", "a?", 0);
        due("a rounded one", 7.0f / 6.0f, () -> x.averageBranches(1));
    }

    private static void undoing() {
        quote(40, "Takes back the latest change that was not taken back.");
        EventClockWorkbench x = fresh();
        x.setInitial(0, 1, true);
        x.setInitial(0, 2, true);
        x.undo();
        due("the latest", 3, () -> x.statesAfter(0, 0));
        x.setInitial(0, 3, true);
        due("a new one", 11, () -> x.statesAfter(0, 0));
        x.undo();
        due("the new one", 3, () -> x.statesAfter(0, 0));
        x.undo();
        due("the one before, not the one that was taken back", 1, () -> x.statesAfter(0, 0));
        due("no more", STATE, x::undo);
        quote(40, "Returns the number of changes that can still be taken back.");
        EventClockWorkbench y = withTransitions(0, 10);
        for (int left = 7; left >= 0; left--) {
            int transitions = left + 2;
            due("changes", left, y::undo);
            due("transitions", transitions, () -> y.transitionCount(0));
        }
        due("two are forgotten", STATE, y::undo);
        due("they remain", 2, () -> y.transitionCount(0));
        EventClockWorkbench z = fresh();
        for (int round = 0; round < 30; round++) {
            z.addTransition(round % 2, 0, 0, 0);
            z.setFinal(round % 2, 0, true);
            due("two a round", 1, z::undo);
            due("one a round", 0, z::undo);
        }
        due("nothing is left", STATE, z::undo);
        due("no transition", 0, () -> z.transitionCount(0) + z.transitionCount(1));
        undoingBothAutomata();
        EventClockWorkbench steps = withTwoSteps();
        due("an accepted word", false, () -> steps.isEmpty(0));
        steps.setFinal(0, 2, false);
        steps.undo();
        steps.undo();
        steps.undo();
        steps.undo();
        steps.setFinal(0, 2, true);
        dueOneStep(steps);
    }

    private static void undoingBothAutomata() {
        EventClockWorkbench x = withTransitions(0, 10);
        x.setFinal(1, 2, true);
        x.copyAutomaton(0);
        due("sets of the copy", 5, () -> x.deterministicStates(1));
        due("undo of a copy", 7, x::undo);
        due("sets of the other", 2, () -> x.deterministicStates(1));
        due("the other as before", 0, () -> x.transitionCount(1));
        due("its final state", true, () -> x.setFinal(1, 2, true));
        x.undo();
        x.clearAutomaton(0);
        due("undo of a clearing", 7, x::undo);
        due("a full automaton", STATE, () -> x.addTransition(0, 0, 0, 0));
        due("its last guard", 1, () -> x.constraint(0, 9, 1, 2));
        x.removeTransition(0, 0);
        due("undo of a removal", 7, x::undo);
        due("the first guard", 5, () -> x.constraint(0, 0, 0, 1));
        due("a full automaton", 10, () -> x.transitionCount(0));
    }

    private static void saving() {
        quote(41, "Saves both automata, in place of what was saved before.");
        EventClockWorkbench x = fresh();
        dueCall("automata as at first", "nothing", x::save);
        x.setInitial(0, 2, true);
        x.setInitial(1, 3, true);
        dueCall("restore", "nothing", x::restore);
        due("as at first", 1, () -> x.statesAfter(0, 0));
        due("the other as at first", 1, () -> x.statesAfter(1, 0));
        x.undo();
        dueCall("save in place of it", "nothing", x::save);
        x.clearAutomaton(0);
        x.clearAutomaton(1);
        x.restore();
        due("as saved last", 5, () -> x.statesAfter(0, 0));
        due("the other as saved last", 9, () -> x.statesAfter(1, 0));
        x.undo();
        due("save does not change what undo takes back", 1, () -> x.statesAfter(1, 0));
        due("the clearing before", 3, x::undo);
        due("the other as before", 9, () -> x.statesAfter(1, 0));
    }

    private static void restoring() {
        quote(42, "Restores both automata as they were saved last.");
        EventClockWorkbench x = withTransitions(0, 3);
        x.save();
        for (int i = 0; i < 9; i++) {
            x.setFinal(1, i % 4, true);
        }
        for (int left = 7; left >= 0; left--) {
            due("undo", left, x::undo);
        }
        dueCall("restore behind what is forgotten", "nothing", x::restore);
        due("the transitions", 3, () -> x.transitionCount(0));
        due("the forgotten change", 0, () -> x.undo());
        due("it is there again", true, () -> x.setFinal(1, 0, true));
        quote(42, "They stay saved.");
        for (int i = 1; i <= 10; i++) {
            x.restore();
            due("restored", false, () -> x.setFinal(1, 0, true));
            x.removeTransition(0, 0);
        }
        dueCall("once more", "nothing", x::restore);
        due("eight are kept", 7, x::undo);
        due("before the last restore", 2, () -> x.transitionCount(0));
        for (int left = 6; left >= 0; left--) {
            due("undo", left, x::undo);
        }
        due("no more", STATE, x::undo);
        dueCall("undo does not take back what is saved", "nothing", x::restore);
        due("the transitions", 3, () -> x.transitionCount(0));
    }

    private static void restoringFullAutomata() {
        quote(42, "Restores both automata as they were saved last.");
        EventClockWorkbench x = withTransitions(1, 10);
        x.setInitial(1, 0, false);
        x.setFinal(1, 3, true);
        x.save();
        x.clearAutomaton(1);
        x.addTransition(0, 0, 0, 0);
        dueCall("restore", "nothing", x::restore);
        due("a full automaton", STATE, () -> x.addTransition(1, 0, 0, 0));
        due("the other without transitions", 0, () -> x.transitionCount(0));
        due("its last guard", 1, () -> x.constraint(1, 9, 1, 2));
        due("no initial state", 0, () -> x.statesAfter(1, 0));
        due("its final state", true, () -> x.setFinal(1, 3, true));
        x.undo();
        due("undo of restore", 6, x::undo);
        due("the other as before", 1, () -> x.transitionCount(0));
        due("a cleared automaton", 0, () -> x.transitionCount(1));
        x.save();
        x.restore();
        due("saved in place of it", 0, () -> x.transitionCount(1));
    }
}
