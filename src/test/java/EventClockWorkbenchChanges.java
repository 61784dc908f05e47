import java.util.ArrayList;
import java.util.List;
import java.util.Random;

/** Random changes, undo, save and restore, beside a list of all states that the automata have had. */
public final class EventClockWorkbenchChanges {
    private static final String SIGNS = "abc<=>?!&0123";

    private static final int STEPS = 40;
    private static final int SAVE = 0;
    private static final int RESTORE = 1;
    private static final int UNDO = 2;

    private static int wrong = 0;

    public static void main(String[] args) {
        for (int seed = 0; seed < 60; seed++) {
            run(seed);
        }
        System.out.println(wrong == 0 ? "all changes are as due" : wrong + " changes are not as due");
        if (wrong != 0) {
            System.exit(1);
        }
    }

    private static void due(String what, Object got, Object want) {
        if (!want.equals(got)) {
            wrong++;
            System.out.println(what + " answered " + got + ", due is " + want);
        }
    }

    /** Shows all of both automata, by the calls that read them and by some that work with them. */
    private static String shown(EventClockWorkbench x) {
        StringBuilder shown = new StringBuilder();
        for (int slot = 0; slot < 2; slot++) {
            shown.append('|').append(x.statesAfter(slot, 0)).append(' ').append(x.deterministicStates(slot));
            shown.append(' ').append(x.isEmpty(slot)).append(x.isIncluded(slot)).append(x.isDeterministic(slot));
            shown.append(' ').append(x.acceptedWords(slot, 3, 1)).append(' ').append(x.averageBranches(slot));
            for (int t = 0; t < x.transitionCount(slot); t++) {
                shown.append(' ').append(x.satisfyingValuations(slot, t)).append(':');
                for (int column = 0; column < 4; column++) {
                    shown.append(x.transition(slot, t, column));
                }
                for (int i = 0; i < x.transition(slot, t, 3); i++) {
                    shown.append(',');
                    for (int column = 0; column < 3; column++) {
                        shown.append(x.constraint(slot, t, i, column));
                    }
                }
            }
        }
        return shown.toString();
    }

    /** Asks calls that work with the automata; what they have worked out must not outlive a change. */
    private static String asked(EventClockWorkbench x) {
        return x.isIncluded(0) + " " + x.isEmpty(1) + " " + x.acceptedWords(0, 2, 2) + " " + x.averageBranches(1);
    }

    private static void run(int seed) {
        List<Step> steps = new ArrayList<>();
        Random random = new Random(seed);
        for (int i = 0; i < STEPS; i++) {
            steps.add(new Step(random.nextInt(12), random.nextInt()));
        }
        List<String> past = new ArrayList<>();
        String saved = "throws";
        String before = shown(new EventClockWorkbench());
        EventClockWorkbench askedAlways = new EventClockWorkbench();
        for (int i = 0; i < STEPS; i++) {
            String who = "seed " + seed + " step " + i;
            // No more than 512 calls of an object are promised, so each step is looked at on an object of its own.
            EventClockWorkbench x = new EventClockWorkbench();
            String answer = "";
            for (int k = 0; k <= i; k++) {
                answer = steps.get(k).taken(x);
            }
            String after = shown(x);
            due(who + " the same step, asked before", steps.get(i).taken(askedAlways), answer);
            due(who + " asked before, too", asked(askedAlways), asked(x));
            int kind = steps.get(i).kind;
            String want = before;
            if (kind == SAVE) {
                saved = before;
            } else if (kind == RESTORE) {
                due(who + " restore", answer, saved.equals("throws") ? "throws" : "changed");
                want = saved.equals("throws") ? before : saved;
            } else if (kind == UNDO || kind == UNDO + 1) {
                due(who + " undo", answer, past.isEmpty() ? "throws" : String.valueOf(past.size() - 1));
                want = past.isEmpty() ? before : past.remove(past.size() - 1);
            } else if (answer.equals("changed")) {
                want = after;
            }
            due(who, after, want);
            if (answer.equals("changed")) {
                past.add(before);
            }
            while (past.size() > 8) {
                past.remove(0);
            }
            before = after;
        }
    }

    private record Step(int kind, int seed) {
        /** Answers what undo answers, or "changed", "saved" or "throws". */
        String taken(EventClockWorkbench x) {
            try {
                if (kind == UNDO || kind == UNDO + 1) {
                    return String.valueOf(x.undo());
                }
                if (kind == SAVE) {
                    x.save();
                    return "saved";
                }
                if (kind == RESTORE) {
                    x.restore();
                } else {
                    change(x, kind, new Random(seed));
                }
                return "changed";
            } catch (IndexOutOfBoundsException | IllegalArgumentException | IllegalStateException e) {
                return "throws";
            }
        }
    }

    /** Makes a random change, at times with a wrong number. */
    private static void change(EventClockWorkbench x, int kind, Random random) {
        int slot = random.nextInt(20) == 0 ? 2 : random.nextInt(2);
        switch (kind) {
            case 5 -> x.setInitial(slot, random.nextInt(5), random.nextBoolean());
            case 6 -> x.setFinal(slot, random.nextInt(5), random.nextBoolean());
            case 7 -> x.removeTransition(slot, random.nextInt(4));
            case 8 -> {
                if (random.nextInt(4) == 0) {
                    x.clearAutomaton(slot);
                } else {
                    x.copyAutomaton(slot);
                }
            }
            default -> {
                write(x, random);
                x.addTransition(slot, random.nextInt(4), random.nextInt(3), random.nextInt(4));
            }
        }
    }

    private static void write(EventClockWorkbench x, Random random) {
        String text = random.nextInt(3) == 0 ? "" : "" + SIGNS.charAt(random.nextInt(3)) + (random.nextBoolean()
                ? "?" : "<=" + random.nextInt(4));
        if (random.nextInt(6) == 0) {
            text += SIGNS.charAt(random.nextInt(SIGNS.length()));
        }
        try {
            for (char c : text.toCharArray()) {
                x.appendCharacter(c);
            }
        } catch (IllegalStateException e) {
            // Texts that an index kept from being read pile up; a full one is read by the next call.
        }
    }
}
