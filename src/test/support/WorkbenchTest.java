import java.util.ArrayList;
import java.util.List;
import java.util.NoSuchElementException;

/** What tests share: automata and words by short texts, answers that are due, sentences that are quoted. */
abstract class WorkbenchTest {
    static final Class<?> INDEX = IndexOutOfBoundsException.class;
    static final Class<?> ARGUMENT = IllegalArgumentException.class;
    static final Class<?> STATE = IllegalStateException.class;
    static final Class<?> ELEMENT = NoSuchElementException.class;

    private static final List<String> QUOTED = new ArrayList<>();
    private static String quote = "";
    private static int wrong = 0;

    interface Call {
        Object answer();
    }

    /**
     * Makes a sentence the one that is told with a wrong answer; it has to stand in the document, under a promise
     * or, for 0, before them.
     */
    static void quote(int promise, String sentence) {
        quote = (promise == 0 ? "" : "promise " + promise + ": ") + "\"" + sentence + "\" ";
        QUOTED.add(promise + " " + sentence);
        if (!Document.sentences(promise).contains(sentence)) {
            tell("does not stand in the document");
        }
    }

    /** A sentence without a test is a fault, too. */
    static void dueQuoted(int promise, String sentence) {
        quote = "";
        if (!QUOTED.contains(promise + " " + sentence)) {
            tell("promise " + promise + " is not tested: " + sentence);
        }
    }

    static void tell(String fault) {
        wrong++;
        System.out.println(quote + fault);
    }

    static Object answerOf(Call call) {
        try {
            return call.answer();
        } catch (RuntimeException e) {
            return e.getClass();
        }
    }

    static void due(String what, Object want, Call call) {
        Object got = answerOf(call);
        if (!want.equals(got)) {
            tell(what + " answered " + got + ", due is " + want);
        }
    }

    /** Tells a wrong answer with this sentence, and the next ones with the sentence before it again. */
    static void dueBy(int promise, String sentence, String what, Object want, Call call) {
        String before = quote;
        quote(promise, sentence);
        due(what, want, call);
        quote = before;
    }

    static void dueCall(String what, Object want, Runnable call) {
        due(what, want, () -> {
            call.run();
            return "nothing";
        });
    }

    static void finish(String allRight) {
        System.out.println(wrong == 0 ? allRight : wrong + " answers are not as due");
        if (wrong != 0) {
            System.exit(1);
        }
    }

    static EventClockWorkbench fresh() {
        return new EventClockWorkbench();
    }

    static void write(EventClockWorkbench x, String text) {
        for (char c : text.toCharArray()) {
            x.appendCharacter(c);
        }
    }

    static int add(EventClockWorkbench x, int slot, int from, String letter, String guard, int to) {
        write(x, guard);
        return x.addTransition(slot, from, letter.charAt(0) - 'a', to);
    }

    /** Makes a word of pairs of a delay and a letter. */
    static void word(EventClockWorkbench x, String events) {
        x.clearWord();
        for (int i = 0; i + 1 < events.length(); i += 2) {
            x.appendEvent(events.charAt(i) - '0', events.charAt(i + 1) - 'a');
        }
    }

    /**
     * The clock of b, read at every unit, counts the clock of c up, twice; its first word has 10 events if the last
     * guard is "c=3", and 11 if it is "c>3".
     */
    static void countUpTwice(EventClockWorkbench x, int slot, String lastGuard) {
        add(x, slot, 0, "c", "", 1);
        add(x, slot, 1, "b", "b?&c=0", 1);
        add(x, slot, 1, "b", "b=1&c<=3", 1);
        add(x, slot, 1, "c", "b=1&c>3", 2);
        add(x, slot, 2, "b", "b=1&c<=3", 2);
        add(x, slot, 2, "b", "b=1&" + lastGuard, 3);
        x.setFinal(slot, 3, true);
    }

    /** From state 0 with a, all sixteen sets of states: two by the clock of a, and two by those of b and c. */
    static void addAllSets(EventClockWorkbench x, int slot) {
        add(x, slot, 0, "a", "a<=1", 0);
        add(x, slot, 0, "a", "a>=1&a<=2", 1);
        add(x, slot, 0, "a", "b>1", 2);
        add(x, slot, 0, "a", "c>1", 3);
    }

    static String shownWord(EventClockWorkbench x) {
        StringBuilder shown = new StringBuilder();
        for (int i = 0; i < x.wordLength(); i++) {
            shown.append(x.event(i, 0)).append((char) ('a' + x.event(i, 1)));
        }
        return shown.toString();
    }
}
