/** Each promise of the document: ordinary inputs, the edges that it names, and wrong inputs. */
public final class EventClockWorkbenchPromises extends WorkbenchTest {
    public static void main(String[] args) {
        newObject();
        characters();
        faults();
        guards();
        addingAndRemoving();
        initialAndFinal();
        copyAndClear();
        transitionsAndConstraints();
        valuationCounts();
        words();
        simulation();
        counting();
        runs();
        explanations();
        determinization();
        determinism();
        emptiness();
        differences();
        longDifference();
        wordCounts();
        averages();
        undoing();
        saving();
        examples();
        finish("all promises hold");
    }

    private static void newObject() {
        EventClockWorkbench x = fresh();
        for (int slot = 0; slot < 2; slot++) {
            int s = slot;
            due("1 transitionCount", 0, () -> x.transitionCount(s));
            due("1 statesAfter", 1, () -> x.statesAfter(s, 0));
            due("1 accepts", false, () -> x.accepts(s));
            due("1 isEmpty", true, () -> x.isEmpty(s));
            due("1 deterministicSet", 1, () -> x.deterministicSet(s, 0));
        }
        due("1 wordLength", 0, x::wordLength);
        due("1 faultPosition", -1, x::faultPosition);
        due("1 undo", STATE, x::undo);
        dueCall("1 restore", STATE, x::restore);
        due("1 appendCharacter", 1, () -> x.appendCharacter('a'));
    }

    private static void characters() {
        EventClockWorkbench x = fresh();
        due("2 too small", ARGUMENT, () -> x.appendCharacter(32));
        due("2 too great", ARGUMENT, () -> x.appendCharacter(127));
        due("2 least int", ARGUMENT, () -> x.appendCharacter(Integer.MIN_VALUE));
        due("2 greatest int", ARGUMENT, () -> x.appendCharacter(Integer.MAX_VALUE));
        due("2 least", 1, () -> x.appendCharacter(33));
        due("2 greatest", 2, () -> x.appendCharacter(126));
        for (int i = 3; i <= 30; i++) {
            int length = i;
            due("2 length", length, () -> x.appendCharacter('a'));
        }
        due("2 full", STATE, () -> x.appendCharacter('a'));
        due("2 the argument first", ARGUMENT, () -> x.appendCharacter(0));
        due("2 full again", STATE, () -> x.appendCharacter('!'));
        due("2 a full text is read", ARGUMENT, () -> x.addTransition(0, 0, 0, 0));
        due("2 its fault", 0, x::faultPosition);
        due("2 empty again", 1, () -> x.appendCharacter('a'));
    }

    private static void fault(String text, int position) {
        EventClockWorkbench x = fresh();
        write(x, text);
        due("3 adding " + text, position < 0 ? (Object) 0 : ARGUMENT, () -> x.addTransition(1, 0, 0, 0));
        due("3 fault of " + text, position, x::faultPosition);
        due("4 emptied " + text, 1, () -> x.appendCharacter('a'));
        due("4 count of " + text, position < 0 ? 1 : 0, () -> x.transitionCount(1));
        due("4 undo of " + text, position < 0 ? (Object) 0 : STATE, x::undo);
    }

    private static void faults() {
        String[] good = {"", "a<0", "b<=3", "c=1", "a>=2", "b>3", "c?", "a!", "a?&a!", "a<1&b<2&c<3&a>0",
            "a<=1&b>=2&c<=3&a>=0"};
        for (String text : good) {
            fault(text, -1);
        }
        String[] bad = {"d", "0", "&", "A?", "a", "a&", "a1", "ab", "a<", "a<4", "a<<", "a<=", "a<=4", "a<==", "a=",
            "a==1", "a=>1", "a=4", "a>", "a>=", "a>a", "a??", "a!a", "a=1?", "a=11", "a=1&", "a=1&&", "a=1&d",
            "a<=1&b", "a?&b?&c?&a?&", "a?&b?&c?&a?&a", "a?&b?&c?&a?b", "a?&b?&c?&", "a?&b?&c?&a", "a!=1", "a?=",
            "a<-1", "a/0", "a:1"};
        int[] positions = {0, 0, 0, 0, 1, 1, 1, 1, 2, 2, 2, 3, 3, 3, 2, 2, 2, 2, 2, 3, 2, 2, 2, 3, 3, 4, 4, 4, 6, 11,
            11, 11, 9, 10, 2, 2, 2, 1, 1};
        for (int i = 0; i < bad.length; i++) {
            fault(bad[i], positions[i]);
        }
        EventClockWorkbench x = fresh();
        write(x, "a<4");
        due("3 argument", ARGUMENT, () -> x.addTransition(0, 0, 0, 0));
        write(x, "b");
        due("3 index", INDEX, () -> x.addTransition(0, 4, 0, 0));
        due("3 not read", 2, x::faultPosition);
        due("4 not emptied", 2, () -> x.appendCharacter('!'));
        due("4 read now", 0, () -> x.addTransition(0, 0, 0, 0));
        due("3 no fault", -1, x::faultPosition);
    }

    private static void guards() {
        EventClockWorkbench x = fresh();
        String[] signs = {"<", "<=", "=", ">=", ">"};
        for (int clock = 0; clock < 3; clock++) {
            int c = clock;
            for (int k = 0; k < 5; k++) {
                int kind = k;
                x.clearAutomaton(0);
                for (int n = 0; n < 4; n++) {
                    int number = n;
                    due("4 number", n, () -> add(x, 0, 0, "a", (char) ('a' + c) + signs[kind] + number, 0));
                    due("12 clock", c, () -> x.constraint(0, number, 0, 0));
                    due("12 kind", kind, () -> x.constraint(0, number, 0, 1));
                    due("12 number", number, () -> x.constraint(0, number, 0, 2));
                }
            }
        }
        x.clearAutomaton(0);
        due("4 undefined", 0, () -> add(x, 0, 0, "a", "b=3&c?", 0));
        due("12 kind 5", 5, () -> x.constraint(0, 0, 1, 1));
        due("12 number of kind 5", 0, () -> x.constraint(0, 0, 1, 2));
        due("4 defined", 1, () -> add(x, 0, 0, "a", "c!", 0));
        due("12 kind 6", 6, () -> x.constraint(0, 1, 0, 1));
        due("12 number of kind 6", 0, () -> x.constraint(0, 1, 0, 2));
    }

    private static void addingAndRemoving() {
        EventClockWorkbench x = fresh();
        int[][] bad = {{-1, 0, 0, 0}, {2, 0, 0, 0}, {0, -1, 0, 0}, {0, 4, 0, 0}, {0, 0, -1, 0}, {0, 0, 3, 0},
            {0, 0, 0, -1}, {0, 0, 0, 4}, {Integer.MAX_VALUE, 0, 0, 0}, {0, Integer.MIN_VALUE, 0, 0}};
        for (int[] b : bad) {
            due("4 index", INDEX, () -> x.addTransition(b[0], b[1], b[2], b[3]));
        }
        for (int i = 0; i < 10; i++) {
            int number = i;
            due("4 number", number, () -> x.addTransition(0, number % 4, number % 3, (number + 1) % 4));
        }
        write(x, "a!");
        due("4 full", STATE, () -> x.addTransition(0, 0, 0, 0));
        due("4 full, no fault", -1, x::faultPosition);
        due("4 full, emptied", 1, () -> x.appendCharacter('x'));
        due("4 full, the argument first", ARGUMENT, () -> x.addTransition(0, 0, 0, 0));
        due("4 full, fault", 0, x::faultPosition);
        due("4 full, the index first", INDEX, () -> x.addTransition(0, 0, 3, 0));
        due("4 the other has room", 0, () -> x.addTransition(1, 3, 2, 3));
        due("5 no slot", INDEX, () -> x.removeTransition(2, 0));
        due("5 no slot below", INDEX, () -> x.removeTransition(-1, 0));
        due("5 no transition", INDEX, () -> x.removeTransition(0, 10));
        due("5 no transition below", INDEX, () -> x.removeTransition(0, -1));
        due("5 greatest int", INDEX, () -> x.removeTransition(0, Integer.MAX_VALUE));
        due("5 removed", 9, () -> x.removeTransition(0, 3));
        due("5 before it", 2, () -> x.transition(0, 2, 0));
        due("5 behind it", 4 % 4, () -> x.transition(0, 3, 0));
        due("5 its letter", 4 % 3, () -> x.transition(0, 3, 1));
        due("5 last", 9 % 4, () -> x.transition(0, 8, 0));
        due("5 gone", INDEX, () -> x.transition(0, 9, 0));
        due("5 room again", 9, () -> x.addTransition(0, 3, 2, 1));
        due("5 first removed", 9, () -> x.removeTransition(0, 0));
        due("5 last removed", 8, () -> x.removeTransition(0, 8));
        due("5 other", 0, () -> x.removeTransition(1, 0));
        due("5 none left", INDEX, () -> x.removeTransition(1, 0));
        EventClockWorkbench y = fresh();
        add(y, 0, 0, "a", "a?", 0);
        add(y, 0, 0, "b", "b<1&c=3", 0);
        y.removeTransition(0, 0);
        due("5 the guard moves", 2, () -> y.transition(0, 0, 3));
        due("5 its kind moves", 2, () -> y.constraint(0, 0, 1, 1));
        due("5 its valuations move", 6, () -> y.satisfyingValuations(0, 0));
    }

    private static void initialAndFinal() {
        EventClockWorkbench x = fresh();
        due("6 no slot", INDEX, () -> x.setInitial(2, 0, true));
        due("6 no slot below", INDEX, () -> x.setInitial(-1, 0, true));
        due("6 no state", INDEX, () -> x.setInitial(0, 4, true));
        due("6 no state below", INDEX, () -> x.setInitial(0, -1, true));
        due("7 no slot", INDEX, () -> x.setFinal(2, 0, true));
        due("7 no slot below", INDEX, () -> x.setFinal(-1, 0, true));
        due("7 no state", INDEX, () -> x.setFinal(0, 4, true));
        due("7 no state below", INDEX, () -> x.setFinal(0, -1, true));
        due("6 was", true, () -> x.setInitial(0, 0, true));
        due("6 was still", true, () -> x.setInitial(0, 0, false));
        due("6 was not", false, () -> x.setInitial(0, 0, false));
        due("6 was not still", false, () -> x.setInitial(0, 3, true));
        due("6 set", 8, () -> x.statesAfter(0, 0));
        due("6 other set", 1, () -> x.statesAfter(1, 0));
        due("7 was not", false, () -> x.setFinal(0, 3, true));
        due("7 accepted", true, () -> x.accepts(0));
        due("7 not in the other", false, () -> x.accepts(1));
        due("7 was", true, () -> x.setFinal(0, 3, true));
        due("7 was still", true, () -> x.setFinal(0, 3, false));
        due("7 was not again", false, () -> x.setFinal(0, 3, false));
        due("7 not accepted", false, () -> x.accepts(0));
    }

    private static void copyAndClear() {
        EventClockWorkbench x = fresh();
        dueCall("8 no slot", INDEX, () -> x.copyAutomaton(2));
        dueCall("8 no slot below", INDEX, () -> x.copyAutomaton(-1));
        dueCall("9 no slot", INDEX, () -> x.clearAutomaton(2));
        dueCall("9 no slot below", INDEX, () -> x.clearAutomaton(-1));
        due("8 no change", STATE, x::undo);
        add(x, 1, 1, "b", "c>=2&a?", 2);
        x.setInitial(1, 1, true);
        x.setFinal(1, 2, true);
        dueCall("8", "nothing", () -> x.copyAutomaton(1));
        due("8 count", 1, () -> x.transitionCount(0));
        due("8 target", 2, () -> x.transition(0, 0, 2));
        due("8 kind", 3, () -> x.constraint(0, 0, 0, 1));
        due("8 initial", 3, () -> x.statesAfter(0, 0));
        due("8 final", true, () -> x.setFinal(0, 2, false));
        due("8 the copy is another", true, () -> x.setFinal(1, 2, true));
        x.removeTransition(0, 0);
        due("8 the other remains", 1, () -> x.transitionCount(1));
        dueCall("9", "nothing", () -> x.clearAutomaton(1));
        due("9 count", 0, () -> x.transitionCount(1));
        due("9 initial", 1, () -> x.statesAfter(1, 0));
        due("9 final", false, () -> x.setFinal(1, 2, false));
        due("9 not the other", 3, () -> x.statesAfter(0, 0));
        due("9 added again", 0, () -> x.addTransition(1, 0, 0, 0));
        due("9 with an empty guard", 216, () -> x.satisfyingValuations(1, 0));
    }

    private static void transitionsAndConstraints() {
        EventClockWorkbench x = fresh();
        add(x, 0, 3, "c", "a?&b<=2", 1);
        int[] row = {3, 2, 1, 2};
        for (int i = 0; i < 4; i++) {
            int column = i;
            due("11 column", row[column], () -> x.transition(0, 0, column));
        }
        due("10 no slot", INDEX, () -> x.transitionCount(2));
        due("10 no slot below", INDEX, () -> x.transitionCount(-1));
        due("10", 1, () -> x.transitionCount(0));
        due("10 other", 0, () -> x.transitionCount(1));
        int[][] bad = {{2, 0, 0}, {-1, 0, 0}, {0, 1, 0}, {0, -1, 0}, {0, 0, 4}, {0, 0, -1}, {1, 0, 0}};
        for (int[] b : bad) {
            due("11 index", INDEX, () -> x.transition(b[0], b[1], b[2]));
            due("12 index", INDEX, () -> x.constraint(b[0], b[1], 0, b[2]));
        }
        due("12 no constraint", INDEX, () -> x.constraint(0, 0, 2, 0));
        due("12 no constraint below", INDEX, () -> x.constraint(0, 0, -1, 0));
        due("12 no column", INDEX, () -> x.constraint(0, 0, 0, 3));
        due("12 clock", 1, () -> x.constraint(0, 0, 1, 0));
        due("12 kind", 1, () -> x.constraint(0, 0, 1, 1));
        due("12 number", 2, () -> x.constraint(0, 0, 1, 2));
        x.addTransition(0, 0, 0, 0);
        due("12 the empty guard has none", INDEX, () -> x.constraint(0, 1, 0, 0));
        due("11 empty guard", 0, () -> x.transition(0, 1, 3));
    }

    private static void valuationCounts() {
        String[] texts = {"", "a?", "a!", "a=2", "a<0", "a<=0", "a>3", "a>=3", "b<3", "c<=3", "a?&a!", "a=1&b=1&c=1",
            "a>=1&a<=2", "a>0&b?&c!", "a=1&a=2", "c>=0", "a?&b?&c?"};
        int[] counts = {216, 36, 180, 36, 0, 36, 36, 72, 108, 144, 0, 1, 72, 20, 0, 180, 1};
        EventClockWorkbench x = fresh();
        for (int i = 0; i < texts.length; i++) {
            int at = i;
            x.clearAutomaton(1);
            add(x, 1, 0, "a", texts[i], 0);
            due("13 " + texts[i], counts[at], () -> x.satisfyingValuations(1, 0));
        }
        due("13 no slot", INDEX, () -> x.satisfyingValuations(2, 0));
        due("13 no slot below", INDEX, () -> x.satisfyingValuations(-1, 0));
        due("13 no transition", INDEX, () -> x.satisfyingValuations(1, 1));
        due("13 no transition below", INDEX, () -> x.satisfyingValuations(1, -1));
        due("13 none at all", INDEX, () -> x.satisfyingValuations(0, 0));
    }

    private static void words() {
        EventClockWorkbench x = fresh();
        due("14 delay below", ARGUMENT, () -> x.appendEvent(-1, 0));
        due("14 delay above", ARGUMENT, () -> x.appendEvent(5, 0));
        due("14 letter below", ARGUMENT, () -> x.appendEvent(0, -1));
        due("14 letter above", ARGUMENT, () -> x.appendEvent(0, 3));
        due("15 empty", 0, x::clearWord);
        due("17 none", INDEX, () -> x.event(0, 0));
        due("18 none", INDEX, () -> x.valuationBefore(0));
        int[][] events = {{3, 0}, {1, 1}, {2, 0}, {0, 2}, {4, 1}, {1, 0}, {1, 0}, {2, 2}, {4, 2}, {4, 0}};
        int[] valuations = {999, 991, 923, 920, 444, 414, 421, 442, 444, 444};
        for (int i = 0; i < 10; i++) {
            int at = i;
            due("14", at + 1, () -> x.appendEvent(events[at][0], events[at][1]));
        }
        due("14 full", STATE, () -> x.appendEvent(0, 0));
        due("14 the argument first", ARGUMENT, () -> x.appendEvent(5, 0));
        due("16", 10, x::wordLength);
        for (int i = 0; i < 10; i++) {
            int at = i;
            due("17 delay", events[at][0], () -> x.event(at, 0));
            due("17 letter", events[at][1], () -> x.event(at, 1));
            due("18 at " + at, valuations[at], () -> x.valuationBefore(at));
        }
        due("17 no event", INDEX, () -> x.event(10, 0));
        due("17 no event below", INDEX, () -> x.event(-1, 0));
        due("17 no column", INDEX, () -> x.event(0, 2));
        due("17 no column below", INDEX, () -> x.event(0, -1));
        due("18 no event", INDEX, () -> x.valuationBefore(10));
        due("18 no event below", INDEX, () -> x.valuationBefore(-1));
        due("15", 10, x::clearWord);
        due("16 empty", 0, x::wordLength);
        due("17 cleared", INDEX, () -> x.event(0, 0));
        x.appendEvent(2, 2);
        due("18 anew", 999, () -> x.valuationBefore(0));
    }

    private static void simulation() {
        EventClockWorkbench x = fresh();
        add(x, 0, 0, "a", "", 0);
        add(x, 0, 0, "a", "a!", 1);
        add(x, 0, 1, "b", "a>=2&b?", 2);
        x.setFinal(0, 2, true);
        word(x, "1a1a2b");
        int[] sets = {1, 1, 3, 4};
        for (int i = 0; i < 4; i++) {
            int events = i;
            due("19 after " + i, sets[events], () -> x.statesAfter(0, events));
        }
        due("19 too many", INDEX, () -> x.statesAfter(0, 4));
        due("19 below", INDEX, () -> x.statesAfter(0, -1));
        due("19 no slot", INDEX, () -> x.statesAfter(2, 0));
        due("19 no slot below", INDEX, () -> x.statesAfter(-1, 0));
        due("19 other", 0, () -> x.statesAfter(1, 1));
        due("20", true, () -> x.accepts(0));
        due("20 other", false, () -> x.accepts(1));
        due("20 no slot", INDEX, () -> x.accepts(2));
        due("20 no slot below", INDEX, () -> x.accepts(-1));
        word(x, "1a1a1b");
        due("20 too early", false, () -> x.accepts(0));
        due("19 nothing", 0, () -> x.statesAfter(0, 3));
    }

    private static void counting() {
        EventClockWorkbench x = fresh();
        for (int i = 0; i < 10; i++) {
            x.addTransition(0, 0, 0, 0);
        }
        due("21 empty word", 1L, () -> x.runCount(0));
        due("22 empty word", 0L, () -> x.acceptingRuns(0));
        word(x, "0a0a0a0a0a0a0a0a0a0a");
        due("21 many", 10000000000L, () -> x.runCount(0));
        due("22 none", 0L, () -> x.acceptingRuns(0));
        x.setFinal(0, 0, true);
        due("22 many", 10000000000L, () -> x.acceptingRuns(0));
        due("21 no slot", INDEX, () -> x.runCount(2));
        due("21 no slot below", INDEX, () -> x.runCount(-1));
        due("22 no slot", INDEX, () -> x.acceptingRuns(2));
        due("22 no slot below", INDEX, () -> x.acceptingRuns(-1));
        due("21 other", 0L, () -> x.runCount(1));
        EventClockWorkbench y = fresh();
        for (int state = 0; state < 4; state++) {
            y.setInitial(0, state, true);
        }
        y.setFinal(0, 1, true);
        y.setFinal(0, 2, true);
        due("21 initial states", 4L, () -> y.runCount(0));
        due("22 initial states", 2L, () -> y.acceptingRuns(0));
        add(y, 0, 0, "a", "a?", 1);
        add(y, 0, 1, "a", "a?", 1);
        add(y, 0, 1, "a", "", 3);
        add(y, 0, 2, "a", "a!", 1);
        word(y, "4a");
        due("21", 3L, () -> y.runCount(0));
        due("22", 2L, () -> y.acceptingRuns(0));
        word(y, "4a0a");
        due("21 then", 2L, () -> y.runCount(0) + y.acceptingRuns(0));
    }

    private static void runs() {
        EventClockWorkbench x = fresh();
        x.setInitial(0, 1, true);
        add(x, 0, 1, "a", "", 3);
        add(x, 0, 0, "a", "", 1);
        add(x, 0, 0, "a", "a?", 2);
        add(x, 0, 0, "a", "", 2);
        add(x, 0, 2, "b", "b?&a=1", 3);
        add(x, 0, 1, "b", "a=0", 3);
        x.setFinal(0, 3, true);
        due("23 empty word", INDEX, () -> x.firstRun(0, 0));
        word(x, "0a1b");
        due("23 first", 2, () -> x.firstRun(0, 0));
        due("23 second", 4, () -> x.firstRun(0, 1));
        due("23 no event", INDEX, () -> x.firstRun(0, 2));
        due("23 no event below", INDEX, () -> x.firstRun(0, -1));
        due("23 no slot", INDEX, () -> x.firstRun(2, 0));
        due("23 no slot below", INDEX, () -> x.firstRun(-1, 0));
        due("23 no run", ELEMENT, () -> x.firstRun(1, 0));
        word(x, "0a0b");
        due("23 another first", 1, () -> x.firstRun(0, 0));
        due("23 another second", 5, () -> x.firstRun(0, 1));
        word(x, "0a");
        due("23 by the initial state", 0, () -> x.firstRun(0, 0));
        word(x, "0a2b");
        due("23 none", ELEMENT, () -> x.firstRun(0, 1));
        due("23 the index first", INDEX, () -> x.firstRun(0, 2));
        add(x, 0, 0, "a", "", 3);
        word(x, "0a");
        due("23 state 0 before state 1", 6, () -> x.firstRun(0, 0));
    }

    private static void explanations() {
        EventClockWorkbench x = fresh();
        due("24 empty word", ELEMENT, () -> x.stuckAt(0));
        due("24 no slot", INDEX, () -> x.stuckAt(2));
        due("24 no slot below", INDEX, () -> x.stuckAt(-1));
        add(x, 0, 0, "a", "a<=1&b?", 0);
        add(x, 0, 3, "b", "a=2&b!&c=3", 1);
        word(x, "0b");
        due("24 at once", 0, () -> x.stuckAt(0));
        word(x, "0a");
        due("24 not yet: undefined", 0, () -> x.stuckAt(0));
        add(x, 0, 0, "a", "a?", 0);
        word(x, "0a1a2b");
        due("24 third", 2, () -> x.stuckAt(0));
        due("25 satisfied", -1, () -> x.blockingConstraint(0, 0, 1));
        due("25 undefined", 0, () -> x.blockingConstraint(0, 0, 0));
        due("25 second, from any source", 1, () -> x.blockingConstraint(0, 1, 2));
        due("25 another letter", ARGUMENT, () -> x.blockingConstraint(0, 0, 2));
        due("25 no event", INDEX, () -> x.blockingConstraint(0, 0, 3));
        due("25 no event below", INDEX, () -> x.blockingConstraint(0, 0, -1));
        due("25 no transition", INDEX, () -> x.blockingConstraint(0, 3, 0));
        due("25 no transition below", INDEX, () -> x.blockingConstraint(0, -1, 0));
        due("25 no slot", INDEX, () -> x.blockingConstraint(2, 0, 0));
        due("25 no slot below", INDEX, () -> x.blockingConstraint(-1, 0, 0));
        word(x, "0a1a");
        due("24 whole word", ELEMENT, () -> x.stuckAt(0));
        word(x, "0b1a1b2b");
        due("25 third", 2, () -> x.blockingConstraint(0, 1, 3) + (x.blockingConstraint(0, 1, 2) == 0 ? 2 : 0));
        x.setInitial(0, 0, false);
        due("24 no initial state", 0, () -> x.stuckAt(0));
        x.clearWord();
        due("24 no initial state, empty word", ELEMENT, () -> x.stuckAt(0));
    }

    private static void determinization() {
        EventClockWorkbench x = fresh();
        add(x, 0, 0, "a", "a=1", 1);
        add(x, 0, 0, "a", "b>2", 2);
        add(x, 0, 1, "c", "", 0);
        due("26", 5, () -> x.deterministicStates(0));
        int[] sets = {1, 0, 2, 4, 6};
        for (int i = 0; i < 5; i++) {
            int at = i;
            due("27 set " + i, sets[at], () -> x.deterministicSet(0, at));
        }
        due("28", 4, () -> x.branches(0, 0, 0));
        due("28 one", 1, () -> x.branches(0, 0, 1));
        int[] targets = {1, 2, 3, 4};
        int[] valuations = {120, 24, 60, 12};
        for (int i = 0; i < 4; i++) {
            int at = i;
            due("29 target " + i, targets[at], () -> x.branchTarget(0, 0, 0, at));
            due("30 valuations " + i, valuations[at], () -> x.branchValuations(0, 0, 0, at));
        }
        due("29 back", 0, () -> x.branchTarget(0, 4, 2, 0));
        due("30 all", 216, () -> x.branchValuations(0, 4, 2, 0));
        due("29 the empty set", 1, () -> x.branchTarget(0, 1, 2, 0));
        badDeterministic(x);
        due("31 empty word", 0, () -> x.deterministicRun(0));
        word(x, "0b0a");
        due("31 nothing", 1, () -> x.deterministicRun(0));
        word(x, "3a1a");
        due("31 stuck", 1, () -> x.deterministicRun(0));
        add(x, 0, 0, "b", "", 0);
        add(x, 0, 0, "a", "a?", 0);
        word(x, "0b2a1a");
        due("31 on", x.statesAfter(0, 3), () -> x.deterministicSet(0, x.deterministicRun(0)));
        due("31 no slot", INDEX, () -> x.deterministicRun(2));
        due("31 no slot below", INDEX, () -> x.deterministicRun(-1));
        x.setInitial(0, 0, false);
        due("26 the empty set alone", 1, () -> x.deterministicStates(0));
        due("27 it is number 0", 0, () -> x.deterministicSet(0, 0));
        due("31 from it", 0, () -> x.deterministicRun(0));
    }

    private static void badDeterministic(EventClockWorkbench x) {
        due("26 no slot", INDEX, () -> x.deterministicStates(2));
        due("26 no slot below", INDEX, () -> x.deterministicStates(-1));
        due("26 the other", 2, () -> x.deterministicStates(1));
        int[][] bad = {{2, 0, 0, 0}, {-1, 0, 0, 0}, {0, 5, 0, 0}, {0, -1, 0, 0}, {0, 0, 3, 0}, {0, 0, -1, 0},
            {0, 0, 0, 4}, {0, 0, 0, -1}, {0, 0, 1, 1}, {1, 2, 0, 0}, {0, 16, 0, 0}};
        for (int i = 0; i < bad.length; i++) {
            int[] b = bad[i];
            due("29 index", INDEX, () -> x.branchTarget(b[0], b[1], b[2], b[3]));
            due("30 index", INDEX, () -> x.branchValuations(b[0], b[1], b[2], b[3]));
            if (b[3] == 0) {
                due("28 index", INDEX, () -> x.branches(b[0], b[1], b[2]));
            }
            if (b[2] == 0 && b[3] == 0) {
                due("27 index", INDEX, () -> x.deterministicSet(b[0], b[1]));
            }
        }
    }

    private static void determinism() {
        EventClockWorkbench x = fresh();
        due("32 at first", true, () -> x.isDeterministic(0));
        due("32 no slot", INDEX, () -> x.isDeterministic(2));
        due("32 no slot below", INDEX, () -> x.isDeterministic(-1));
        x.setInitial(0, 1, true);
        due("32 two initial states", false, () -> x.isDeterministic(0));
        x.setInitial(0, 1, false);
        x.setInitial(0, 0, false);
        due("32 no initial state", false, () -> x.isDeterministic(0));
        x.setInitial(0, 2, true);
        due("32 another initial state", true, () -> x.isDeterministic(0));
        add(x, 0, 3, "a", "a<2", 1);
        add(x, 0, 3, "a", "a>=2", 1);
        add(x, 0, 3, "a", "a?", 1);
        add(x, 0, 3, "b", "", 1);
        add(x, 0, 1, "a", "", 1);
        due("32 apart", true, () -> x.isDeterministic(0));
        add(x, 0, 3, "a", "a=1&b!", 1);
        due("32 the same target", false, () -> x.isDeterministic(0));
        x.removeTransition(0, 5);
        add(x, 0, 3, "a", "a=1&a=2", 2);
        due("32 never satisfied", true, () -> x.isDeterministic(0));
        add(x, 0, 0, "c", "a=0&b=0&c>0", 2);
        add(x, 0, 0, "c", "c>1&b=0&a<=1", 2);
        due("32 any valuation", false, () -> x.isDeterministic(0));
        x.clearAutomaton(0);
        add(x, 0, 0, "a", "a=1&b=1&c=1", 1);
        add(x, 0, 0, "a", "a=1&b=1&c=1", 2);
        due("32 a valuation that cannot occur", false, () -> x.isDeterministic(0));
    }

    private static void emptiness() {
        EventClockWorkbench x = fresh();
        due("33 no slot", INDEX, () -> x.isEmpty(2));
        due("33 no slot below", INDEX, () -> x.isEmpty(-1));
        due("34 no slot", INDEX, () -> x.takeWitness(2));
        due("34 no slot below", INDEX, () -> x.takeWitness(-1));
        word(x, "1a2b");
        due("34 none", ELEMENT, () -> x.takeWitness(0));
        due("34 the word stays", "1a2b", () -> shownWord(x));
        add(x, 0, 0, "a", "a=1&b=1&c=1", 1);
        x.setFinal(0, 1, true);
        due("33 it cannot occur", true, () -> x.isEmpty(0));
        add(x, 0, 0, "b", "", 0);
        due("33 still", true, () -> x.isEmpty(0));
        add(x, 0, 0, "c", "", 2);
        add(x, 0, 2, "a", "b=2", 2);
        add(x, 0, 2, "b", "a=1", 1);
        due("33 now", false, () -> x.isEmpty(0));
        due("34", 4, () -> x.takeWitness(0));
        due("34 word", "0b0c2a1b", () -> shownWord(x));
        x.setFinal(0, 2, true);
        due("34 shorter", 1, () -> x.takeWitness(0));
        due("34 by the delay", "0c", () -> shownWord(x));
        x.setFinal(0, 0, true);
        due("34 empty word", 0, () -> x.takeWitness(0));
        due("34 it is empty", 0, x::wordLength);
        x.clearAutomaton(1);
        add(x, 1, 0, "c", "", 1);
        add(x, 1, 0, "a", "", 2);
        add(x, 1, 1, "a", "c=0", 3);
        add(x, 1, 2, "c", "a=0", 3);
        add(x, 1, 2, "b", "a=1", 3);
        x.setFinal(1, 3, true);
        x.takeWitness(1);
        due("34 by the sum, then by the letter", "0a0c", () -> shownWord(x));
        longWitness();
    }

    private static void longWitness() {
        EventClockWorkbench x = fresh();
        countUpTwice(x, 0, "c=3");
        due("34 ten events", 10, () -> x.takeWitness(0));
        due("34 its word", "0c0b1b1b1b1c0b1b1b1b", () -> shownWord(x));
        x.removeTransition(0, 5);
        add(x, 0, 2, "b", "b=1&c>3", 3);
        due("34 eleven events", ELEMENT, () -> x.takeWitness(0));
        due("34 the word stays", "0c0b1b1b1b1c0b1b1b1b", () -> shownWord(x));
        due("33 eleven events", false, () -> x.isEmpty(0));
        due("35 eleven events", ELEMENT, () -> x.takeDifference(0));
        due("36 eleven events", false, () -> x.isIncluded(0));
    }

    /** Rounds of four events, of which the other automaton accepts those before the first c. */
    private static void longDifference() {
        EventClockWorkbench x = fresh();
        add(x, 0, 0, "a", "", 1);
        add(x, 0, 1, "a", "", 2);
        add(x, 0, 2, "a", "", 3);
        add(x, 0, 3, "b", "b?", 0);
        add(x, 0, 3, "c", "b>=3", 0);
        add(x, 1, 0, "a", "", 0);
        add(x, 1, 0, "b", "", 0);
        x.setFinal(0, 2, true);
        x.setFinal(1, 0, true);
        due("35 ten events", 10, () -> x.takeDifference(0));
        due("35 its word", "0a0a0a0b0a0a0a3c0a0a", () -> shownWord(x));
        due("36 ten events", false, () -> x.isIncluded(0));
        x.setFinal(0, 2, false);
        x.setFinal(0, 3, true);
        due("35 eleven events", ELEMENT, () -> x.takeDifference(0));
        due("35 the word stays", 10, x::wordLength);
        due("36 eleven events", false, () -> x.isIncluded(0));
        x.addTransition(1, 0, 2, 0);
        due("36 none", true, () -> x.isIncluded(0));
    }

    private static void differences() {
        EventClockWorkbench x = fresh();
        due("35 no slot", INDEX, () -> x.takeDifference(2));
        due("35 no slot below", INDEX, () -> x.takeDifference(-1));
        due("36 no slot", INDEX, () -> x.isIncluded(2));
        due("36 no slot below", INDEX, () -> x.isIncluded(-1));
        due("36 both empty", true, () -> x.isIncluded(0));
        word(x, "3b");
        due("35 none", ELEMENT, () -> x.takeDifference(1));
        due("35 the word stays", "3b", () -> shownWord(x));
        add(x, 0, 0, "a", "a<=2", 0);
        add(x, 0, 0, "a", "a?", 0);
        x.setFinal(0, 0, true);
        x.copyAutomaton(0);
        due("36 the same", true, () -> x.isIncluded(0) && x.isIncluded(1));
        add(x, 1, 0, "a", "a=3", 0);
        due("36 less", true, () -> x.isIncluded(0));
        due("36 more", false, () -> x.isIncluded(1));
        due("35 more", 2, () -> x.takeDifference(1));
        due("35 word", "0a3a", () -> shownWord(x));
        due("35 nothing", ELEMENT, () -> x.takeDifference(0));
        x.setInitial(1, 0, false);
        due("35 the empty word", 0, () -> x.takeDifference(0));
        due("36 nothing is included", true, () -> x.isIncluded(1));
    }

    private static void wordCounts() {
        EventClockWorkbench x = fresh();
        due("37 no slot", INDEX, () -> x.acceptedWords(2, 0, 0));
        due("37 the slot first", INDEX, () -> x.acceptedWords(-1, 11, 0));
        due("37 events above", ARGUMENT, () -> x.acceptedWords(0, 11, 0));
        due("37 events below", ARGUMENT, () -> x.acceptedWords(0, -1, 0));
        due("37 delay above", ARGUMENT, () -> x.acceptedWords(0, 0, 5));
        due("37 delay below", ARGUMENT, () -> x.acceptedWords(0, 0, -1));
        due("38 no slot", INDEX, () -> x.acceptedShare(2, 0));
        due("38 the slot first", INDEX, () -> x.acceptedShare(-1, 11));
        due("38 events above", ARGUMENT, () -> x.acceptedShare(0, 11));
        due("38 events below", ARGUMENT, () -> x.acceptedShare(0, -1));
        due("37 none", 0L, () -> x.acceptedWords(0, 10, 4));
        due("38 none", 0.0, () -> x.acceptedShare(0, 10));
        x.setFinal(0, 0, true);
        due("37 the empty word", 1L, () -> x.acceptedWords(0, 0, 4));
        due("38 the empty word", 1.0, () -> x.acceptedShare(0, 0));
        due("37 no other", 0L, () -> x.acceptedWords(0, 1, 4));
        for (int letter = 0; letter < 3; letter++) {
            x.addTransition(0, 0, letter, 0);
            x.addTransition(0, 0, letter, 1);
        }
        due("37 all", 576650390625L, () -> x.acceptedWords(0, 10, 4));
        due("38 all", 1.0, () -> x.acceptedShare(0, 10));
        due("37 short delays", 59049L, () -> x.acceptedWords(0, 10, 0));
        due("37 delays of at most 2", 81L, () -> x.acceptedWords(0, 2, 2));
        x.clearAutomaton(0);
        add(x, 0, 0, "a", "", 1);
        add(x, 0, 1, "a", "a=2", 2);
        add(x, 0, 1, "b", "a>3", 2);
        x.setFinal(0, 2, true);
        due("37 two", 10L, () -> x.acceptedWords(0, 2, 4));
        due("37 two with less", 3L, () -> x.acceptedWords(0, 2, 2));
        due("37 none with less", 0L, () -> x.acceptedWords(0, 2, 1));
        due("38 two", 10.0 / 225.0, () -> x.acceptedShare(0, 2));
        due("38 three", 0.0, () -> x.acceptedShare(0, 3));
    }

    private static void averages() {
        EventClockWorkbench x = fresh();
        due("39 at first", 1.0f, () -> x.averageBranches(0));
        due("39 no slot", INDEX, () -> x.averageBranches(2));
        due("39 no slot below", INDEX, () -> x.averageBranches(-1));
        add(x, 0, 0, "a", "a=1", 1);
        add(x, 0, 0, "a", "b>2", 2);
        add(x, 0, 1, "c", "", 0);
        due("39", 18.0f / 15.0f, () -> x.averageBranches(0));
        x.setInitial(0, 0, false);
        due("39 the empty set", 1.0f, () -> x.averageBranches(0));
        x.clearAutomaton(0);
        add(x, 0, 0, "a", "a!", 0);
        due("39 seven sixths", 7.0f / 6.0f, () -> x.averageBranches(0));
    }

    private static void undoing() {
        EventClockWorkbench x = fresh();
        add(x, 0, 0, "a", "b=1", 1);
        x.setFinal(0, 1, true);
        x.setFinal(0, 1, true);
        due("40 a change though nothing is different", 2, x::undo);
        due("40 final still", true, () -> x.setFinal(0, 1, true));
        due("40 back", 2, x::undo);
        due("40 back again", 1, x::undo);
        due("40 the transition", 0, x::undo);
        due("40 count", 0, () -> x.transitionCount(0));
        due("40 none", STATE, x::undo);
        for (int i = 0; i < 10; i++) {
            x.addTransition(i % 2, 0, 0, 0);
        }
        for (int i = 7; i >= 0; i--) {
            int left = i;
            due("40 eight", left, x::undo);
        }
        due("40 forgotten", STATE, x::undo);
        due("40 one each remains", 1, () -> x.transitionCount(0));
        due("40 one in the other", 1, () -> x.transitionCount(1));
        x.copyAutomaton(0);
        x.clearAutomaton(0);
        x.removeTransition(1, 0);
        x.setInitial(1, 3, true);
        due("40 setInitial", 3, x::undo);
        due("40 initial", 1, () -> x.statesAfter(1, 0));
        due("40 removeTransition", 2, x::undo);
        due("40 it is back", 1, () -> x.transitionCount(1));
        due("40 clearAutomaton", 1, x::undo);
        due("40 all is back", 1, () -> x.transitionCount(0));
        due("40 copyAutomaton", 0, x::undo);
        undoKeepsTheRest();
        undoAfterFullAutomaton();
    }

    private static void undoAfterFullAutomaton() {
        EventClockWorkbench x = fresh();
        for (int i = 0; i < 10; i++) {
            x.addTransition(1, 0, 0, 0);
        }
        due("4 full", STATE, () -> x.addTransition(1, 0, 0, 0));
        due("40 the latest that succeeded", 7, x::undo);
        due("40 nine remain", 9, () -> x.transitionCount(1));
    }

    private static void undoKeepsTheRest() {
        EventClockWorkbench x = fresh();
        word(x, "2c1b");
        x.setFinal(0, 0, true);
        write(x, "a<4");
        due("40 fault", ARGUMENT, () -> x.addTransition(0, 0, 0, 0));
        due("40 a failed call is no change", INDEX, () -> x.setFinal(0, 4, true));
        write(x, "a!");
        x.save();
        due("40 save is no change", 0, x::undo);
        due("40 the word stays", "2c1b", () -> shownWord(x));
        due("40 the fault stays", 2, x::faultPosition);
        due("40 the text stays", 3, () -> x.appendCharacter('&'));
        due("33 after undo", true, () -> x.isEmpty(0));
        due("27 after undo", 2, () -> x.deterministicStates(0));
        x.restore();
        due("33 after restore", false, () -> x.isEmpty(0));
        due("42 restore is a change", 0, x::undo);
        due("33 after undo again", true, () -> x.isEmpty(0));
        due("42 the word stays", "2c1b", () -> shownWord(x));
        due("42 the text stays", 4, () -> x.appendCharacter('b'));
    }

    private static void saving() {
        EventClockWorkbench x = fresh();
        dueCall("42 nothing saved", STATE, x::restore);
        due("42 no change", STATE, x::undo);
        add(x, 0, 0, "a", "c>2", 3);
        x.setInitial(1, 2, true);
        dueCall("41", "nothing", x::save);
        x.clearAutomaton(0);
        x.clearAutomaton(1);
        due("41 kept by undo", 3, x::undo);
        x.clearAutomaton(1);
        dueCall("42", "nothing", x::restore);
        due("42 count", 1, () -> x.transitionCount(0));
        due("42 guard", 4, () -> x.constraint(0, 0, 0, 1));
        due("42 initial", 5, () -> x.statesAfter(1, 0));
        x.clearAutomaton(0);
        dueCall("42 they stay saved", "nothing", x::restore);
        due("42 count again", 1, () -> x.transitionCount(0));
        x.setFinal(1, 1, true);
        x.save();
        x.setFinal(1, 1, false);
        x.restore();
        due("41 in place of it", true, () -> x.setFinal(1, 1, true));
        due("42 changes", 7, x::undo);
        due("42 restore taken back", 6, x::undo);
        due("42 as before it", false, () -> x.setFinal(1, 1, false));
    }

    private static void examples() {
        EventClockWorkbench a = fresh();
        due("example 1", 0, () -> a.addTransition(0, 0, 0, 1));
        write(a, "a=2");
        due("example 1", 1, () -> a.addTransition(0, 1, 0, 2));
        due("example 1", false, () -> a.setFinal(0, 2, true));
        due("example 1", 2, () -> a.takeWitness(0));
        due("example 1", 0, () -> a.event(0, 0));
        due("example 1", 2, () -> a.event(1, 0));
        due("example 1", 992, () -> a.valuationBefore(1));
        due("example 1", 36, () -> a.satisfyingValuations(0, 1));
        due("example 1", 5L, () -> a.acceptedWords(0, 2, 4));
        EventClockWorkbench b = fresh();
        write(b, "a?");
        due("example 2", 0, () -> b.addTransition(0, 0, 0, 0));
        due("example 2", false, () -> b.setFinal(0, 0, true));
        due("example 2", 1, () -> b.appendEvent(1, 0));
        due("example 2", true, () -> b.accepts(0));
        due("example 2", 2, () -> b.appendEvent(1, 0));
        due("example 2", false, () -> b.accepts(0));
        due("example 2", 1, () -> b.stuckAt(0));
        due("example 2", 0, () -> b.blockingConstraint(0, 0, 1));
        EventClockWorkbench c = fresh();
        due("example 3", 0, () -> c.addTransition(0, 0, 1, 0));
        due("example 3", false, () -> c.setFinal(0, 0, true));
        due("example 3", false, () -> c.isIncluded(0));
        due("example 3", 0, () -> c.takeDifference(0));
        due("example 3", 0, c::wordLength);
        due("example 3", 2, () -> c.deterministicStates(0));
        due("example 3", 1, () -> c.branchTarget(0, 0, 0, 0));
        due("example 3", 216, () -> c.branchValuations(0, 0, 0, 0));
        EventClockWorkbench d = fresh();
        write(d, "a<4");
        due("example 4", ARGUMENT, () -> d.addTransition(0, 0, 0, 0));
        due("example 4", 2, d::faultPosition);
        due("example 4", INDEX, () -> d.addTransition(0, 4, 0, 0));
        due("example 4", INDEX, () -> d.removeTransition(0, 0));
    }
}
