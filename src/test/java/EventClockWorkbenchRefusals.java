import java.util.Arrays;

/**
 * Every parameter of every promise at its bounds and beyond them, every exception that a promise lists, what
 * stands behind a refused call, and which of two refusals is told.
 */
public final class EventClockWorkbenchRefusals extends WorkbenchTest {
    /** Among them such whose product with 3, 5, 6 or 17 wraps around to a small number. */
    private static final int[] FAR = {Integer.MIN_VALUE, Integer.MIN_VALUE + 1, -1 << 28, 1 << 28, 252645136,
        715827883, 858993460, 1431655766, Integer.MAX_VALUE - 1, Integer.MAX_VALUE};

    private static final String SLOT = "`slot`: the automaton, 0 or 1";
    private static final String STATE_LINE = "`state`: the state, 0 to 3";
    private static final String TRANSITION = "`transition`: the number of the transition";
    private static final String EVENT = "`index`: the index of the event, from 0";
    private static final String NUMBER = "`index`: the number of the deterministic state";
    private static final String LETTER = "`letter`: the letter, 0 to 2";
    private static final String BRANCH = "`branch`: the number of the branch";
    private static final String EVENTS = "`events`: the number of events, 0 to 10";
    private static final String NO_AUTOMATON = "Throws `IndexOutOfBoundsException` if there is no such automaton";

    private static final String LEAVES_THE_STATE = "A call that throws an exception leaves the state unchanged, except"
            + " that the text and its fault position are treated as described.";
    private static final String IN_ORDER = "If a method can throw several exceptions, they are checked in the order in"
            + " which they are listed.";

    private static final String UNTOUCHED = seen(stand());

    private interface Method {
        Object answer(EventClockWorkbench x, int... arguments);
    }

    /** A parameter by its line in the document, with the least and the greatest number that is allowed. */
    private record Range(String line, int least, int most) {
    }

    public static void main(String[] args) {
        changes();
        looks();
        words();
        explanations();
        deterministicStates();
        searchesAndCounts();
        switches();
        fullText();
        fullAutomaton();
        fullWord();
        nothingToTakeBack();
        nothingSaved();
        noRun();
        noWord();
        faultyText();
        anotherLetter();
        orderOfTexts();
        orderOfWords();
        orderOfElements();
        orderOfArguments();
        allAreTested();
        finish("all refusals are as due");
    }

    /** Each line of a parameter and each exception is tested here; the other sentences are elsewhere. */
    private static void allAreTested() {
        for (int promise = 1; promise <= Document.PROMISES; promise++) {
            for (String sentence : Document.sentences(promise)) {
                boolean parameter = sentence.startsWith("`") && sentence.contains("`: ");
                if (parameter || sentence.startsWith("Throws")) {
                    dueQuoted(promise, sentence);
                }
            }
        }
        dueQuoted(0, LEAVES_THE_STATE);
        dueQuoted(0, IN_ORDER);
    }

    /** Each automaton has a, from state 0 to 1 and 2, and b behind it; the changes before are more than 8. */
    private static EventClockWorkbench stand() {
        EventClockWorkbench x = fresh();
        x.setFinal(1, 3, true);
        x.save();
        return filled(x);
    }

    private static EventClockWorkbench filled(EventClockWorkbench x) {
        add(x, 0, 0, "a", "a?", 1);
        add(x, 0, 1, "b", "a<=2&b?", 2);
        add(x, 0, 0, "a", "a!&c?", 2);
        x.setFinal(0, 2, true);
        x.setInitial(0, 1, true);
        x.copyAutomaton(0);
        add(x, 1, 2, "c", "c>3", 3);
        x.setFinal(1, 1, true);
        write(x, "b?c");
        due("the text with a fault", ARGUMENT, () -> x.addTransition(0, 0, 0, 0));
        word(x, "1a2b");
        write(x, "a!");
        return x;
    }

    /** Tells all that can be seen of a workbench, and takes it apart by that. */
    private static String seen(EventClockWorkbench x) {
        StringBuilder seen = new StringBuilder("fault " + x.faultPosition() + " word " + shownWord(x));
        seen.append(automata(x)).append(" undo");
        for (int i = 0; i < 9; i++) {
            seen.append(' ').append(answerOf(x::undo)).append(outline(x));
        }
        seen.append(" restored ").append(answerOf(() -> {
            x.restore();
            return "";
        })).append(automata(x));
        seen.append(" text ").append(answerOf(() -> x.appendCharacter('&')));
        seen.append(answerOf(() -> x.appendCharacter('c'))).append(answerOf(() -> x.appendCharacter('!')));
        seen.append(answerOf(() -> x.addTransition(0, 0, 0, 0))).append(automata(x)).append(x.faultPosition());
        for (int state = 0; state < 8; state++) {
            seen.append(x.setFinal(state / 4, state % 4, true));
        }
        return seen.toString();
    }

    private static String outline(EventClockWorkbench x) {
        StringBuilder outline = new StringBuilder();
        for (int slot = 0; slot < 2; slot++) {
            outline.append('/').append(x.transitionCount(slot)).append(',').append(x.statesAfter(slot, 0));
            outline.append(',').append(x.acceptedWords(slot, 2, 4)).append(',').append(x.acceptedWords(slot, 1, 0));
        }
        return outline.toString();
    }

    private static String automata(EventClockWorkbench x) {
        StringBuilder shown = new StringBuilder(outline(x));
        for (int slot = 0; slot < 2; slot++) {
            for (int t = 0; t < x.transitionCount(slot); t++) {
                shown.append(' ').append(x.satisfyingValuations(slot, t));
                for (int column = 0; column < 4; column++) {
                    shown.append(x.transition(slot, t, column));
                }
            }
        }
        return shown.toString();
    }

    /** Tells all but the fault position, which a refused call of addTransition may change. */
    private static String seenBesidesFault(EventClockWorkbench x) {
        String seen = seen(x);
        return seen.substring(seen.indexOf(" word"));
    }

    private static void dueUnchanged(String what, EventClockWorkbench x, EventClockWorkbench untouched) {
        dueBy(0, LEAVES_THE_STATE, "what stands behind " + what, seen(untouched), () -> seen(x));
    }

    private static void dueUnchangedBesidesFault(String what, EventClockWorkbench x, EventClockWorkbench untouched) {
        dueBy(0, LEAVES_THE_STATE, "what stands behind " + what, seenBesidesFault(untouched),
                () -> seenBesidesFault(x));
    }

    /** The least and the greatest number of each parameter are allowed; those beyond are refused. */
    private static void bounds(int promise, String thrown, Method method, int[] base, Range... ranges) {
        Class<?> refusal = thrown.contains("IndexOutOfBounds") ? INDEX : ARGUMENT;
        for (int i = 0; i < ranges.length; i++) {
            Range range = ranges[i];
            quote(promise, range.line);
            for (int number : new int[] {range.least, range.most}) {
                int[] arguments = with(base, i, number);
                EventClockWorkbench x = stand();
                if (refusal.equals(answerOf(() -> method.answer(x, arguments)))) {
                    tell("promise " + promise + Arrays.toString(arguments) + " is refused");
                }
            }
            quote(promise, thrown);
            refused(promise, refusal, method, with(base, i, range.least - 1));
            refused(promise, refusal, method, with(base, i, range.most + 1));
            for (int far : FAR) {
                refused(promise, refusal, method, with(base, i, far));
            }
        }
    }

    private static int[] with(int[] base, int at, int number) {
        int[] arguments = base.clone();
        arguments[at] = number;
        return arguments;
    }

    private static void refused(int promise, Class<?> refusal, Method method, int[] arguments) {
        String what = "promise " + promise + Arrays.toString(arguments);
        EventClockWorkbench x = stand();
        due(what, refusal, () -> method.answer(x, arguments));
        dueBy(0, LEAVES_THE_STATE, "what stands behind " + what, UNTOUCHED, () -> seen(x));
    }

    /** A call without an answer counts as one that answers 0. */
    private static Object made(Runnable call) {
        call.run();
        return 0;
    }

    private static Range slot() {
        return new Range(SLOT, 0, 1);
    }

    private static void changes() {
        bounds(2, "Throws `IllegalArgumentException` if character is not from 33 to 126",
                (x, a) -> x.appendCharacter(a[0]), new int[] {'!'},
                new Range("`character`: the character code, 33 to 126", 33, 126));
        bounds(4, "Throws `IndexOutOfBoundsException` if there is no such automaton, state or letter",
                (x, a) -> x.addTransition(a[0], a[1], a[2], a[3]), new int[] {0, 0, 0, 0}, slot(),
                new Range("`from`: the source, 0 to 3", 0, 3), new Range(LETTER, 0, 2),
                new Range("`to`: the target, 0 to 3", 0, 3));
        bounds(5, "Throws `IndexOutOfBoundsException` if there is no such automaton or transition",
                (x, a) -> x.removeTransition(a[0], a[1]), new int[] {0, 0}, slot(), new Range(TRANSITION, 0, 2));
        for (boolean on : new boolean[] {false, true}) {
            bounds(6, "Throws `IndexOutOfBoundsException` if there is no such automaton or state",
                    (x, a) -> x.setInitial(a[0], a[1], on), new int[] {0, 0}, slot(), new Range(STATE_LINE, 0, 3));
            bounds(7, "Throws `IndexOutOfBoundsException` if there is no such automaton or state",
                    (x, a) -> x.setFinal(a[0], a[1], on), new int[] {0, 0}, slot(), new Range(STATE_LINE, 0, 3));
        }
        bounds(8, NO_AUTOMATON, (x, a) -> made(() -> x.copyAutomaton(a[0])), new int[] {0}, slot());
        bounds(9, NO_AUTOMATON, (x, a) -> made(() -> x.clearAutomaton(a[0])), new int[] {0}, slot());
    }

    private static void looks() {
        bounds(10, NO_AUTOMATON, (x, a) -> x.transitionCount(a[0]), new int[] {0}, slot());
        bounds(11, "Throws `IndexOutOfBoundsException` if there is no such automaton, transition or column",
                (x, a) -> x.transition(a[0], a[1], a[2]), new int[] {0, 0, 0}, slot(), new Range(TRANSITION, 0, 2),
                new Range("`column`: 0 for the source, 1 for the letter, 2 for the target, 3 for the number of"
                        + " constraints of the guard", 0, 3));
        bounds(12, "Throws `IndexOutOfBoundsException` if there is no such automaton, transition, constraint or column",
                (x, a) -> x.constraint(a[0], a[1], a[2], a[3]), new int[] {0, 1, 0, 0}, slot(),
                new Range(TRANSITION, 0, 2), new Range("`index`: the index of the constraint, from 0", 0, 1),
                new Range("`column`: 0 for the clock, 1 for the kind, 2 for the number, which is 0 for the kinds 5 and"
                        + " 6", 0, 2));
        bounds(13, "Throws `IndexOutOfBoundsException` if there is no such automaton or transition",
                (x, a) -> x.satisfyingValuations(a[0], a[1]), new int[] {0, 0}, slot(), new Range(TRANSITION, 0, 2));
    }

    private static void words() {
        bounds(14, "Throws `IllegalArgumentException` if the delay or the letter is out of range",
                (x, a) -> x.appendEvent(a[0], a[1]), new int[] {0, 0}, new Range("`delay`: the delay, 0 to 4", 0, 4),
                new Range(LETTER, 0, 2));
        bounds(17, "Throws `IndexOutOfBoundsException` if there is no such event or column",
                (x, a) -> x.event(a[0], a[1]), new int[] {0, 0}, new Range("`index`: the index, from 0", 0, 1),
                new Range("`column`: 0 for the delay, 1 for the letter", 0, 1));
        bounds(18, "Throws `IndexOutOfBoundsException` if there is no such event",
                (x, a) -> x.valuationBefore(a[0]), new int[] {0}, new Range(EVENT, 0, 1));
        bounds(19, "Throws `IndexOutOfBoundsException` if there is no such automaton or prefix",
                (x, a) -> x.statesAfter(a[0], a[1]), new int[] {0, 0}, slot(),
                new Range("`events`: the number of events of the prefix, 0 to the length of the word", 0, 2));
        bounds(20, NO_AUTOMATON, (x, a) -> x.accepts(a[0]), new int[] {0}, slot());
        bounds(21, NO_AUTOMATON, (x, a) -> x.runCount(a[0]), new int[] {0}, slot());
        bounds(22, NO_AUTOMATON, (x, a) -> x.acceptingRuns(a[0]), new int[] {0}, slot());
    }

    private static void explanations() {
        bounds(23, "Throws `IndexOutOfBoundsException` if there is no such automaton or event",
                (x, a) -> x.firstRun(a[0], a[1]), new int[] {0, 0}, slot(), new Range(EVENT, 0, 1));
        bounds(24, NO_AUTOMATON, (x, a) -> x.stuckAt(a[0]), new int[] {0}, slot());
        bounds(25, "Throws `IndexOutOfBoundsException` if there is no such automaton, transition or event",
                (x, a) -> x.blockingConstraint(a[0], a[1], a[2]), new int[] {0, 0, 0}, slot(),
                new Range(TRANSITION, 0, 2), new Range(EVENT, 0, 1));
    }

    /** The sets are {0, 1}, the empty set, {2}, {1} and {1, 2}: all are found with the first letter or with b. */
    private static void deterministicStates() {
        bounds(26, NO_AUTOMATON, (x, a) -> x.deterministicStates(a[0]), new int[] {0}, slot());
        bounds(27, "Throws `IndexOutOfBoundsException` if there is no such automaton or deterministic state",
                (x, a) -> x.deterministicSet(a[0], a[1]), new int[] {0, 0}, slot(), new Range(NUMBER, 0, 3));
        bounds(28, "Throws `IndexOutOfBoundsException` if there is no such automaton, deterministic state or letter",
                (x, a) -> x.branches(a[0], a[1], a[2]), new int[] {0, 0, 0}, slot(), new Range(NUMBER, 0, 3),
                new Range(LETTER, 0, 2));
        String noBranch = "Throws `IndexOutOfBoundsException` if there is no such automaton, deterministic state, letter"
                + " or branch";
        bounds(29, noBranch, (x, a) -> x.branchTarget(a[0], a[1], a[2], a[3]), new int[] {0, 0, 0, 0}, slot(),
                new Range(NUMBER, 0, 3), new Range(LETTER, 0, 2), new Range(BRANCH, 0, 2));
        bounds(30, noBranch, (x, a) -> x.branchValuations(a[0], a[1], a[2], a[3]), new int[] {0, 0, 0, 0}, slot(),
                new Range(NUMBER, 0, 3), new Range(LETTER, 0, 2), new Range(BRANCH, 0, 2));
        bounds(31, NO_AUTOMATON, (x, a) -> x.deterministicRun(a[0]), new int[] {0}, slot());
        bounds(32, NO_AUTOMATON, (x, a) -> x.isDeterministic(a[0]), new int[] {0}, slot());
    }

    private static void searchesAndCounts() {
        bounds(33, NO_AUTOMATON, (x, a) -> x.isEmpty(a[0]), new int[] {0}, slot());
        bounds(34, NO_AUTOMATON, (x, a) -> x.takeWitness(a[0]), new int[] {0}, slot());
        bounds(35, NO_AUTOMATON, (x, a) -> x.takeDifference(a[0]), new int[] {0}, slot());
        bounds(36, NO_AUTOMATON, (x, a) -> x.isIncluded(a[0]), new int[] {0}, slot());
        bounds(37, NO_AUTOMATON, (x, a) -> x.acceptedWords(a[0], a[1], a[2]), new int[] {0, 0, 0}, slot());
        bounds(37, "Throws `IllegalArgumentException` if a number is out of range",
                (x, a) -> x.acceptedWords(1, a[0], a[1]), new int[] {0, 0}, new Range(EVENTS, 0, 10),
                new Range("`longest`: the greatest delay, 0 to 4", 0, 4));
        bounds(38, NO_AUTOMATON, (x, a) -> x.acceptedShare(a[0], a[1]), new int[] {0, 0}, slot());
        bounds(38, "Throws `IllegalArgumentException` if the number of events is out of range",
                (x, a) -> x.acceptedShare(1, a[0]), new int[] {0}, new Range(EVENTS, 0, 10));
        bounds(39, NO_AUTOMATON, (x, a) -> x.averageBranches(a[0]), new int[] {0}, slot());
    }

    private static void switches() {
        for (boolean on : new boolean[] {false, true}) {
            EventClockWorkbench x = stand();
            quote(6, "`on`: whether it is initial from now on");
            due("it was not", false, () -> x.setInitial(0, 3, on));
            due("it is from now on", on, () -> x.setInitial(0, 3, on));
            due("it was", true, () -> x.setInitial(1, 0, on));
            due("it is still, or not", on, () -> x.setInitial(1, 0, on));
            quote(7, "`on`: whether it is final from now on");
            due("it was not", false, () -> x.setFinal(0, 3, on));
            due("it is from now on", on, () -> x.setFinal(0, 3, on));
            due("it was", true, () -> x.setFinal(1, 2, on));
            due("it is still, or not", on, () -> x.setFinal(1, 2, on));
        }
    }

    private static EventClockWorkbench withText(EventClockWorkbench x, int length) {
        x.addTransition(1, 0, 0, 0);
        for (int i = 0; i < length; i++) {
            x.appendCharacter("a<=0&b>=3&c?&a!".charAt(i % 15));
        }
        return x;
    }

    private static void fullText() {
        quote(2, "Throws `IllegalStateException` if the text has 30 characters");
        EventClockWorkbench x = withText(stand(), 29);
        due("the last that is allowed", 30, () -> x.appendCharacter('b'));
        due("the first that is not", STATE, () -> x.appendCharacter('b'));
        due("and again", STATE, () -> x.appendCharacter('~'));
        EventClockWorkbench untouched = withText(stand(), 29);
        untouched.appendCharacter('b');
        dueUnchanged("a full text", x, untouched);
    }

    private static EventClockWorkbench withTransitions(EventClockWorkbench x, int slot, int count) {
        for (int i = x.transitionCount(slot); i < count; i++) {
            x.addTransition(slot, i % 4, i % 3, (i + 1) % 4);
        }
        return x;
    }

    private static void fullAutomaton() {
        quote(4, "Throws `IllegalStateException` if the automaton has 10 transitions");
        for (int slot = 0; slot < 2; slot++) {
            int full = slot;
            EventClockWorkbench x = withTransitions(stand(), full, 9);
            write(x, "c?");
            due("the last that is allowed", 9, () -> x.addTransition(full, 3, 2, 3));
            write(x, "c!");
            due("the first that is not", STATE, () -> x.addTransition(full, 3, 2, 3));
            due("no fault was read", -1, x::faultPosition);
            due("the text is empty, so again", STATE, () -> x.addTransition(full, 0, 0, 0));
            EventClockWorkbench untouched = withTransitions(stand(), full, 9);
            write(untouched, "c?");
            untouched.addTransition(full, 3, 2, 3);
            dueUnchangedBesidesFault("a full automaton", x, untouched);
            EventClockWorkbench other = withTransitions(stand(), full, 10);
            due("the other has room", 3 + (1 - full), () -> other.addTransition(1 - full, 0, 0, 0));
        }
    }

    private static void fullWord() {
        quote(14, "Throws `IllegalStateException` if the current word has 10 events");
        EventClockWorkbench x = stand();
        word(x, "0a1b2c3a4b0c1a2b3c");
        due("the last that is allowed", 10, () -> x.appendEvent(4, 2));
        due("the first that is not", STATE, () -> x.appendEvent(0, 0));
        due("and again", STATE, () -> x.appendEvent(4, 2));
        EventClockWorkbench untouched = stand();
        word(untouched, "0a1b2c3a4b0c1a2b3c4c");
        dueUnchanged("a full word", x, untouched);
    }

    private static void nothingToTakeBack() {
        quote(40, "Throws `IllegalStateException` if there is none");
        EventClockWorkbench anew = fresh();
        due("of a new object", STATE, anew::undo);
        due("and again", STATE, anew::undo);
        dueUnchanged("of a new object", anew, fresh());
        EventClockWorkbench one = fresh();
        one.setFinal(0, 1, true);
        due("the last that is allowed", 0, one::undo);
        due("the first that is not", STATE, one::undo);
        dueUnchanged("after one", one, fresh());
        EventClockWorkbench x = stand();
        EventClockWorkbench untouched = stand();
        for (int i = 7; i >= 0; i--) {
            due("the last eight", i, x::undo);
            untouched.undo();
        }
        due("the ninth", STATE, x::undo);
        dueUnchanged("the ninth", x, untouched);
    }

    private static void nothingSaved() {
        quote(42, "Throws `IllegalStateException` if nothing was saved");
        EventClockWorkbench x = filled(fresh());
        dueCall("before the first save", STATE, x::restore);
        dueCall("and again", STATE, x::restore);
        dueUnchanged("before the first save", x, filled(fresh()));
        EventClockWorkbench y = fresh();
        y.save();
        dueCall("after a save of a new object", "nothing", y::restore);
        EventClockWorkbench z = fresh();
        z.save();
        z.setFinal(0, 0, true);
        z.undo();
        due("none to undo", STATE, z::undo);
        dueCall("a save is not taken back", "nothing", z::restore);
    }

    private static void noRun() {
        quote(23, "Throws `NoSuchElementException` if there is no accepting run");
        EventClockWorkbench x = stand();
        due("of an accepted word", 0, () -> x.firstRun(0, 0));
        EventClockWorkbench y = stand();
        EventClockWorkbench untouched = stand();
        word(y, "1a3b");
        word(untouched, "1a3b");
        due("the first event of a word that gets stuck", ELEMENT, () -> y.firstRun(0, 0));
        due("its last event", ELEMENT, () -> y.firstRun(0, 1));
        dueUnchanged("no accepting run", y, untouched);
        word(x, "1a");
        due("a run that does not end in a final state", ELEMENT, () -> x.firstRun(0, 0));
        quote(24, "Throws `NoSuchElementException` if there is a run on the whole word, or the word is empty");
        due("a run that does not end in a final state", ELEMENT, () -> x.stuckAt(0));
        word(x, "1a3b");
        due("the last event", 1, () -> x.stuckAt(0));
        x.clearWord();
        due("the empty word", ELEMENT, () -> x.stuckAt(0));
        EventClockWorkbench z = stand();
        due("an accepted word", ELEMENT, () -> z.stuckAt(0));
        dueUnchanged("a run on the whole word", z, stand());
    }

    /** Both automata count up twice; the text of the stand is read before. */
    private static EventClockWorkbench countingUp(String guard, String otherGuard) {
        EventClockWorkbench x = stand();
        x.addTransition(0, 0, 0, 0);
        x.clearAutomaton(0);
        x.clearAutomaton(1);
        countUpTwice(x, 0, guard);
        countUpTwice(x, 1, otherGuard);
        return x;
    }

    private static void noWord() {
        EventClockWorkbench x = countingUp("c=3", "c>3");
        quote(34, "Throws `NoSuchElementException` if the automaton accepts no word with at most 10 events");
        due("eleven events", ELEMENT, () -> x.takeWitness(1));
        quote(35, "Throws `NoSuchElementException` if there is no such word with at most 10 events");
        due("eleven events", ELEMENT, () -> x.takeDifference(1));
        dueUnchanged("eleven events", x, countingUp("c=3", "c>3"));
        EventClockWorkbench y = countingUp("c=3", "c>3");
        due("ten events", 10, () -> y.takeDifference(0));
        due("its word", "0c0b1b1b1b1c0b1b1b1b", () -> shownWord(y));
        due("eleven events", ELEMENT, () -> y.takeDifference(1));
        quote(34, "Throws `NoSuchElementException` if the automaton accepts no word with at most 10 events");
        y.clearWord();
        due("ten events", 10, () -> y.takeWitness(0));
        due("its word", "0c0b1b1b1b1c0b1b1b1b", () -> shownWord(y));
        EventClockWorkbench z = fresh();
        due("no word at all", ELEMENT, () -> z.takeWitness(0));
        z.setFinal(0, 0, true);
        due("the empty word", 0, () -> z.takeWitness(0));
        quote(35, "Throws `NoSuchElementException` if there is no such word with at most 10 events");
        due("the empty word", 0, () -> z.takeDifference(0));
        z.setFinal(1, 0, true);
        due("the same automata", ELEMENT, () -> z.takeDifference(0));
    }

    private static void faultyText() {
        quote(4, "Throws `IllegalArgumentException` if the text has a fault");
        EventClockWorkbench x = stand();
        write(x, "&c=4");
        due("a fault", ARGUMENT, () -> x.addTransition(1, 3, 2, 3));
        due("its position", 5, x::faultPosition);
        due("the text is empty, so a fault of one character", 1, () -> x.appendCharacter('&'));
        due("is read", ARGUMENT, () -> x.addTransition(1, 3, 2, 3));
        due("at its begin", 0, x::faultPosition);
        EventClockWorkbench untouched = withTransitions(stand(), 0, 0);
        write(untouched, "!");
        due("another fault", ARGUMENT, () -> untouched.addTransition(0, 0, 0, 0));
        dueUnchangedBesidesFault("a fault", x, untouched);
    }

    private static void anotherLetter() {
        quote(25, "Throws `IllegalArgumentException` if the event has another letter than the transition");
        EventClockWorkbench x = stand();
        due("the same letter", -1, () -> x.blockingConstraint(1, 1, 1));
        due("a for b", ARGUMENT, () -> x.blockingConstraint(1, 1, 0));
        due("b for a", ARGUMENT, () -> x.blockingConstraint(1, 0, 1));
        due("b for c", ARGUMENT, () -> x.blockingConstraint(1, 3, 1));
        dueUnchanged("another letter", x, stand());
        EventClockWorkbench y = fresh();
        y.addTransition(0, 0, 0, 0);
        word(y, "0a0c");
        due("the empty guard", -1, () -> y.blockingConstraint(0, 0, 0));
        due("the empty guard with another letter", ARGUMENT, () -> y.blockingConstraint(0, 0, 1));
    }

    private static void orderOfTexts() {
        quote(0, IN_ORDER);
        EventClockWorkbench x = withText(stand(), 30);
        int[] wrongCharacters = {32, 127, 0, -1, Integer.MIN_VALUE, Integer.MAX_VALUE};
        for (int character : wrongCharacters) {
            due("appendCharacter: argument before state", ARGUMENT, () -> x.appendCharacter(character));
        }
        int[][] wrong = {{2, 0, 0, 0}, {-1, 0, 0, 0}, {1, 4, 0, 0}, {1, -1, 0, 0}, {1, 0, 3, 0}, {1, 0, -1, 0},
            {1, 0, 0, 4}, {1, 0, 0, -1}};
        for (int[] w : wrong) {
            EventClockWorkbench faulty = stand();
            write(faulty, "x");
            due("index before argument", INDEX, () -> faulty.addTransition(w[0], w[1], w[2], w[3]));
            due("the text is not read", 2, faulty::faultPosition);
            due("nor emptied", 4, () -> faulty.appendCharacter('x'));
            EventClockWorkbench full = withTransitions(stand(), 1, 10);
            due("index before state", INDEX, () -> full.addTransition(w[0], w[1], w[2], w[3]));
            due("the text is not read", -1, full::faultPosition);
            write(full, "b<");
            due("index before both", INDEX, () -> full.addTransition(w[0], w[1], w[2], w[3]));
            due("the text is not read", -1, full::faultPosition);
            due("nor emptied", 3, () -> full.appendCharacter('4'));
            due("argument before state", ARGUMENT, () -> full.addTransition(1, 0, 0, 0));
            due("the text is read", 2, full::faultPosition);
            due("and emptied", 1, () -> full.appendCharacter('b'));
        }
    }

    private static void orderOfWords() {
        quote(0, IN_ORDER);
        EventClockWorkbench x = stand();
        word(x, "0a1b2c3a4b0c1a2b3c4c");
        int[][] wrong = {{-1, 0}, {5, 0}, {0, -1}, {0, 3}, {5, 3}, {Integer.MAX_VALUE, Integer.MIN_VALUE}};
        for (int[] w : wrong) {
            due("appendEvent: argument before state", ARGUMENT, () -> x.appendEvent(w[0], w[1]));
        }
        due("the word stays", "0a1b2c3a4b0c1a2b3c4c", () -> shownWord(x));
    }

    private static void orderOfElements() {
        quote(0, IN_ORDER);
        EventClockWorkbench x = fresh();
        for (int slot : new int[] {-1, 2}) {
            due("stuckAt: index before the empty word", INDEX, () -> x.stuckAt(slot));
            due("takeWitness: index before no word", INDEX, () -> x.takeWitness(slot));
            due("takeDifference: index before no word", INDEX, () -> x.takeDifference(slot));
            due("firstRun: no automaton", INDEX, () -> x.firstRun(slot, 0));
        }
        due("firstRun: no event, and no accepting run", INDEX, () -> x.firstRun(0, 0));
        word(x, "1b2c");
        for (int index : new int[] {-1, 2, 9, 10}) {
            due("firstRun: no event, and no accepting run", INDEX, () -> x.firstRun(0, index));
        }
        due("firstRun: no automaton, and no accepting run", INDEX, () -> x.firstRun(2, 0));
        due("firstRun: no accepting run alone", ELEMENT, () -> x.firstRun(1, 1));
        EventClockWorkbench y = stand();
        due("stuckAt: index before a run on the whole word", INDEX, () -> y.stuckAt(2));
    }

    private static void orderOfArguments() {
        quote(0, IN_ORDER);
        EventClockWorkbench x = stand();
        due("blockingConstraint: no automaton, and another letter", INDEX, () -> x.blockingConstraint(2, 0, 1));
        due("blockingConstraint: no automaton below, and another letter", INDEX, () -> x.blockingConstraint(-1, 0, 1));
        due("blockingConstraint: no transition, but an event", INDEX, () -> x.blockingConstraint(0, 3, 1));
        due("blockingConstraint: no transition below, but an event", INDEX, () -> x.blockingConstraint(0, -1, 1));
        due("blockingConstraint: no event, and another letter", INDEX, () -> x.blockingConstraint(1, 3, 2));
        due("blockingConstraint: no event below, and another letter", INDEX, () -> x.blockingConstraint(1, 3, -1));
        for (int slot : new int[] {-1, 2}) {
            due("acceptedWords: index before events", INDEX, () -> x.acceptedWords(slot, 11, 0));
            due("acceptedWords: index before events below", INDEX, () -> x.acceptedWords(slot, -1, 0));
            due("acceptedWords: index before longest", INDEX, () -> x.acceptedWords(slot, 0, 5));
            due("acceptedWords: index before longest below", INDEX, () -> x.acceptedWords(slot, 0, -1));
            due("acceptedShare: index before events", INDEX, () -> x.acceptedShare(slot, 11));
            due("acceptedShare: index before events below", INDEX, () -> x.acceptedShare(slot, -1));
        }
        due("acceptedWords: both numbers", ARGUMENT, () -> x.acceptedWords(0, 11, 5));
    }
}
