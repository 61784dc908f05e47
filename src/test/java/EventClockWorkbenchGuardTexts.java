import java.util.ArrayList;
import java.util.HashSet;
import java.util.List;
import java.util.Set;

/** Guard texts and their faults, beside the list of all constraints and of their beginnings. */
public final class EventClockWorkbenchGuardTexts extends WorkbenchTest {
    private static final Set<String> CONSTRAINTS = new HashSet<>();
    private static final Set<String> BEGINNINGS = new HashSet<>();
    /** Each kind of character that a guard text has, and some beside them. */
    private static final String CHARACTERS = "ac<=>?!&03d4";
    private static final String LONGEST = "a<=0&b>=3&c<=2&a>=1";

    private static int calls = 0;
    private static EventClockWorkbench workbench = fresh();

    public static void main(String[] args) {
        listConstraints();
        lengthOfTexts();
        numberOfConstraints();
        constraints();
        noSpaces();
        shortTexts();
        brokenTexts();
        fifthConstraint();
        longTexts();
        allAreTested();
        finish("all guard texts are read as due");
    }

    /** Each sentence of the description's paragraph about guard texts. */
    private static void allAreTested() {
        List<String> sentences = Document.sentences(0);
        int from = sentences.indexOf("Guard texts.");
        int to = sentences.indexOf("Deterministic automaton.");
        for (String sentence : sentences.subList(from + 1, to)) {
            dueQuoted(0, sentence);
        }
    }

    private static void listConstraints() {
        for (String name : new String[] {"a", "b", "c"}) {
            CONSTRAINTS.add(name + "?");
            CONSTRAINTS.add(name + "!");
            for (String sign : new String[] {"<", "<=", "=", ">=", ">"}) {
                for (int number = 0; number <= 3; number++) {
                    CONSTRAINTS.add(name + sign + number);
                }
            }
        }
        for (String constraint : CONSTRAINTS) {
            for (int length = 0; length <= constraint.length(); length++) {
                BEGINNINGS.add(constraint.substring(0, length));
            }
        }
    }

    private static boolean isBeginning(String text) {
        String[] parts = text.split("&", -1);
        for (int i = 0; i < parts.length - 1; i++) {
            if (!CONSTRAINTS.contains(parts[i])) {
                return false;
            }
        }
        return parts.length <= 4 && BEGINNINGS.contains(parts[parts.length - 1]);
    }

    private static boolean isGuard(String text) {
        return text.isEmpty() || isBeginning(text) && CONSTRAINTS.contains(text.substring(text.lastIndexOf('&') + 1));
    }

    private static int faultOf(String text) {
        if (isGuard(text)) {
            return -1;
        }
        int length = 0;
        while (length < text.length() && isBeginning(text.substring(0, length + 1))) {
            length++;
        }
        return length;
    }

    /** Answers a workbench for so many calls more, as 512 are promised. */
    private static EventClockWorkbench ask(int more) {
        if (calls + more > 512) {
            workbench = fresh();
            calls = 0;
        }
        calls += more;
        return workbench;
    }

    private static void dueFault(String text) {
        EventClockWorkbench x = ask(text.length() + 3);
        write(x, text);
        int fault = faultOf(text);
        due("reading " + text, fault < 0 ? (Object) 0 : ARGUMENT, () -> x.addTransition(0, 0, 0, 0));
        due("the fault of " + text, fault, x::faultPosition);
        if (fault < 0) {
            x.removeTransition(0, 0);
        }
    }

    private static void dueRead(String text) {
        due("no fault of " + text, -1, () -> faultOf(text));
        dueFault(text);
    }

    private static void dueFaultAt(int position, String text) {
        due("the fault of " + text + " by the list", position, () -> faultOf(text));
        dueFault(text);
    }

    private static void lengthOfTexts() {
        quote(0, "There is a text of at most 30 characters, which is empty at first.");
        EventClockWorkbench x = fresh();
        for (int length = 1; length <= 30; length++) {
            due("character " + length, length, () -> x.appendCharacter('a'));
        }
        due("character 31", STATE, () -> x.appendCharacter('a'));
        EventClockWorkbench y = fresh();
        due("empty at first, so the empty guard is read", 0, () -> y.addTransition(0, 0, 0, 0));
        due("it has no constraint", 0, () -> y.transition(0, 0, 3));
        due("empty again", 1, () -> y.appendCharacter('a'));
    }

    private static void numberOfConstraints() {
        quote(0, "A guard text is empty, or consists of one or more constraints with a \"&\" between two of them.");
        EventClockWorkbench x = fresh();
        String[] texts = {"", "c!", "c!&a?", "c!&a?&b=0", "c!&a?&b=0&c<3"};
        for (int i = 0; i < texts.length; i++) {
            int count = i;
            due("reading " + texts[i], count, () -> add(x, 0, 0, "a", texts[count], 0));
            due("its constraints", count, () -> x.transition(0, count, 3));
            due("the constraint behind them", INDEX, () -> x.constraint(0, count, count, 0));
        }
        for (String text : texts) {
            dueRead(text);
        }
        dueFaultAt(0, "&");
        dueFaultAt(0, "&a?");
        dueFaultAt(3, "a?&");
        dueFaultAt(3, "a?&&b?");
        dueFaultAt(2, "a?b?");
        dueFaultAt(9, "c!&a?&b=0c<3");
    }

    private static void constraints() {
        quote(0, "A constraint is the name of a letter, followed by \"<\", \"<=\", \"=\", \">=\" or \">\" and a digit"
                + " from 0 to 3, or by \"?\" for undefined, or by \"!\" for defined.");
        for (String constraint : CONSTRAINTS) {
            dueRead(constraint);
        }
        for (String sign : new String[] {"<", "<=", "=", ">=", ">"}) {
            dueRead("c" + sign + "0");
            dueRead("c" + sign + "3");
            dueFaultAt(1 + sign.length(), "c" + sign + "/");
            dueFaultAt(1 + sign.length(), "c" + sign + "4");
            dueFaultAt(2 + sign.length(), "c" + sign + "00");
        }
        for (String other : new String[] {"a==0", "a=<0", "a=>0", "a<>0", "a<<0", "a>>0", "a?0", "a!0", "a!=0", "a?!"}) {
            dueFaultAt(2, other);
        }
        dueFaultAt(3, "a<==");
        dueFaultAt(3, "a>==");
        dueFaultAt(0, "`?");
        dueFaultAt(0, "d?");
        dueFaultAt(0, "A?");
        dueFaultAt(1, "aa?");
        dueFaultAt(0, "0");
    }

    private static void noSpaces() {
        quote(0, "There are no spaces.");
        EventClockWorkbench x = fresh();
        write(x, "a");
        due("a space", ARGUMENT, () -> x.appendCharacter(' '));
        due("the next character", 2, () -> x.appendCharacter('!'));
        due("a space behind", ARGUMENT, () -> x.appendCharacter(32));
        due("the text without spaces", 0, () -> x.addTransition(0, 0, 0, 0));
        due("its kind", 6, () -> x.constraint(0, 0, 0, 1));
    }

    private static void quoteFaults() {
        quote(0, "The fault position of a text is the index of the first character that cannot continue a guard text; it"
                + " is the length of the text if the text ends too early.");
    }

    /** All texts of at most four characters. */
    private static void shortTexts() {
        quoteFaults();
        List<String> texts = new ArrayList<>(List.of(""));
        int from = 0;
        for (int length = 0; length <= 4; length++) {
            int to = texts.size();
            for (int i = from; i < to; i++) {
                dueFault(texts.get(i));
                for (int k = 0; k < CHARACTERS.length() && length < 4; k++) {
                    texts.add(texts.get(i) + CHARACTERS.charAt(k));
                }
            }
            from = to;
        }
    }

    /** Long texts that end early, with another character at each place, with one more and with one less. */
    private static void brokenTexts() {
        quoteFaults();
        for (String whole : new String[] {LONGEST, "c?&a!&b=3&c<0", "b>0&b>0&b>0", "a<=3"}) {
            dueRead(whole);
            for (int at = 0; at <= whole.length(); at++) {
                String before = whole.substring(0, at);
                String behind = at == whole.length() ? "" : whole.substring(at + 1);
                dueFault(before);
                dueFault(before + behind);
                for (char c = 33; c <= 126; c++) {
                    dueFault(before + c + behind);
                    dueFault(before + c);
                }
            }
        }
        dueFaultAt(18, LONGEST.substring(0, 18));
        dueFaultAt(15, LONGEST.substring(0, 15));
    }

    private static void fifthConstraint() {
        quote(0, "A \"&\" behind the fourth constraint cannot continue a guard text.");
        dueRead("a?&b?&c?&a?");
        dueFaultAt(11, "a?&b?&c?&a?&");
        dueFaultAt(11, "a?&b?&c?&a?&b?");
        dueFaultAt(11, "a?&b?&c?&a?&x");
        dueFaultAt(9, "a?&b?&c?&");
        dueRead(LONGEST);
        dueFaultAt(19, LONGEST + "&");
        dueFaultAt(19, LONGEST + "&a?");
        dueFaultAt(19, LONGEST + "&a<=1&b?&c");
        EventClockWorkbench x = fresh();
        due("four", 0, () -> add(x, 0, 0, "a", LONGEST, 0));
        due("the fourth's number", 1, () -> x.constraint(0, 0, 3, 2));
        due("no fifth", INDEX, () -> x.constraint(0, 0, 4, 0));
    }

    private static void longTexts() {
        quoteFaults();
        dueFaultAt(19, LONGEST + "aaaaaaaaaaa");
        dueFaultAt(1, "aaaaaaaaaaaaaaaaaaaaaaaaaaaaaa");
        dueFaultAt(0, "~~~~~~~~~~~~~~~~~~~~~~~~~~~~~~");
        dueFaultAt(11, "a!&b!&c!&a!&a!&b!&c!&a!&a!&b!&");
        dueFaultAt(0, "!");
        dueFaultAt(1, "a");
        dueFaultAt(2, "a<");
        dueFaultAt(3, "a<=");
    }
}
