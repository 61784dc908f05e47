import java.util.ArrayList;
import java.util.HashMap;
import java.util.HashSet;
import java.util.List;
import java.util.Map;
import java.util.NoSuchElementException;
import java.util.Random;
import java.util.Set;
import java.util.TreeMap;
import java.util.function.ToIntFunction;

/** Random automata and words, answered a second time by a plain model that works another way. */
public final class EventClockWorkbenchOracle {
    private static int wrong = 0;

    /** A constraint as text, a clock's value as an int of the document's valuations. */
    private record Transition(int from, int letter, int to, String guard) {
        boolean allows(int valuation) {
            if (guard.isEmpty()) {
                return true;
            }
            for (String part : guard.split("&")) {
                if (!holds(part, valuation)) {
                    return false;
                }
            }
            return true;
        }

        static boolean holds(String part, int valuation) {
            int value = digits(valuation)[part.charAt(0) - 'a'];
            String sign = part.substring(1).replaceAll("[0-9]", "");
            if (value == 9) {
                return sign.equals("?");
            }
            int number = part.charAt(part.length() - 1) - '0';
            return switch (sign) {
                case "<" -> value < number;
                case "<=" -> value <= number;
                case "=" -> value == number;
                case ">=" -> value >= number;
                case ">" -> value > number;
                case "!" -> true;
                default -> false;
            };
        }
    }

    /** A workbench that is made anew after 512 calls, by its steps so far, as no more are promised. */
    private static final class Bench {
        final List<ToIntFunction<EventClockWorkbench>> steps = new ArrayList<>();
        private EventClockWorkbench workbench = new EventClockWorkbench();
        private int calls = 0;

        EventClockWorkbench ask() {
            if (calls >= 512) {
                rebuild();
            }
            calls++;
            return workbench;
        }

        int step(ToIntFunction<EventClockWorkbench> step) {
            EventClockWorkbench asked = ask();
            steps.add(step);
            return step.applyAsInt(asked);
        }

        void shorten(int size) {
            steps.subList(size, steps.size()).clear();
            rebuild();
        }

        private void rebuild() {
            workbench = new EventClockWorkbench();
            calls = steps.size();
            for (ToIntFunction<EventClockWorkbench> step : steps) {
                try {
                    step.applyAsInt(workbench);
                } catch (NoSuchElementException e) {
                    // A search that found nothing finds nothing again.
                }
            }
        }
    }

    private record Event(int delay, int letter) {
    }

    private record Place(int valuation, int own, int other) {
    }

    private record Path(int sum, List<Event> word) {
        boolean isBefore(Path path) {
            if (sum != path.sum) {
                return sum < path.sum;
            }
            for (int i = 0; i < word.size(); i++) {
                int mine = 10 * word.get(i).letter + word.get(i).delay;
                int its = 10 * path.word.get(i).letter + path.word.get(i).delay;
                if (mine != its) {
                    return mine < its;
                }
            }
            return false;
        }
    }

    private static final class Model {
        final List<Transition> transitions = new ArrayList<>();
        int initial = 1;
        int finals = 0;

        int after(int set, int letter, int valuation) {
            int found = 0;
            for (Transition t : transitions) {
                if ((set >> t.from & 1) == 1 && t.letter == letter && t.allows(valuation)) {
                    found |= 1 << t.to;
                }
            }
            return found;
        }

        int after(List<Event> word) {
            int set = initial;
            int valuation = 999;
            for (Event e : word) {
                valuation = later(valuation, e.delay);
                set = after(set, e.letter, valuation);
                valuation = zeroed(valuation, e.letter);
            }
            return set;
        }

        boolean accepts(List<Event> word) {
            return (after(word) & finals) != 0;
        }

        /** All runs, each as its initial state and its transitions, in the order of the document. */
        List<List<Integer>> runs(List<Event> word, boolean acceptingOnly) {
            List<List<Integer>> found = new ArrayList<>();
            for (int state = 0; state < 4; state++) {
                if ((initial >> state & 1) == 1) {
                    List<Integer> run = new ArrayList<>();
                    run.add(state);
                    extend(found, run, state, word, 0, 999, acceptingOnly);
                }
            }
            return found;
        }

        private void extend(List<List<Integer>> found, List<Integer> run, int state, List<Event> word, int at,
                int valuation, boolean acceptingOnly) {
            if (at == word.size()) {
                if (!acceptingOnly || (finals >> state & 1) == 1) {
                    found.add(new ArrayList<>(run));
                }
                return;
            }
            Event e = word.get(at);
            int reading = later(valuation, e.delay);
            for (int i = 0; i < transitions.size(); i++) {
                Transition t = transitions.get(i);
                if (t.from == state && t.letter == e.letter && t.allows(reading)) {
                    run.add(i);
                    extend(found, run, t.to, word, at + 1, zeroed(reading, e.letter), acceptingOnly);
                    run.remove(run.size() - 1);
                }
            }
        }
    }

    private static int[] digits(int valuation) {
        return new int[] {valuation % 10, valuation / 10 % 10, valuation / 100};
    }

    private static int joined(int[] digits) {
        return digits[0] + 10 * digits[1] + 100 * digits[2];
    }

    private static int later(int valuation, int delay) {
        int[] d = digits(valuation);
        for (int i = 0; i < 3; i++) {
            d[i] = d[i] == 9 ? 9 : Math.min(4, d[i] + delay);
        }
        return joined(d);
    }

    private static int zeroed(int valuation, int letter) {
        int[] d = digits(valuation);
        d[letter] = 0;
        return joined(d);
    }

    private static List<Integer> allValuations() {
        List<Integer> all = new ArrayList<>();
        for (int v = 0; v < 1000; v++) {
            boolean good = true;
            for (int d : digits(v)) {
                good &= d <= 4 || d == 9;
            }
            if (good) {
                all.add(v);
            }
        }
        return all;
    }

    private static void due(String what, Object got, Object want) {
        if (!want.equals(got)) {
            wrong++;
            System.out.println(what + " answered " + got + ", due is " + want);
        }
    }

    public static void main(String[] args) {
        for (int seed = 0; seed < 400; seed++) {
            Random random = new Random(seed);
            Bench x = new Bench();
            Model[] models = {new Model(), new Model()};
            for (int slot = 0; slot < 2; slot++) {
                fill(x, slot, models[slot], random, seed % 4);
            }
            if (seed % 5 == 0) {
                x.step(w -> copied(w, 0));
                models[1] = new Model();
                models[1].transitions.addAll(models[0].transitions);
                models[1].initial = models[0].initial;
                models[1].finals = models[0].finals;
                removeOne(x, models[1], random);
            }
            for (int slot = 0; slot < 2; slot++) {
                String who = "seed " + seed + " slot " + slot + " ";
                guards(who, x, slot, models[slot]);
                determinization(who, x, slot, models[slot]);
                counts(who, x, slot, models[slot], random);
                searches(who, x, slot, models[slot], models[1 - slot]);
            }
            int steps = x.steps.size();
            for (int i = 0; i < 5; i++) {
                x.shorten(steps);
                word("seed " + seed + " word " + i + " ", x, models, random);
            }
        }
        for (int valuation : allValuations()) {
            exactValuation(valuation);
        }
        System.out.println(wrong == 0 ? "all answers agree" : wrong + " answers do not agree");
        if (wrong != 0) {
            System.exit(1);
        }
    }

    /** A last event that one valuation alone can read, behind any others: so no valuation is lost on the way. */
    private static void exactValuation(int valuation) {
        StringBuilder guard = new StringBuilder();
        for (int clock = 0; clock < 3; clock++) {
            int value = digits(valuation)[clock];
            guard.append(clock == 0 ? "" : "&").append((char) ('a' + clock));
            guard.append(value == 9 ? "?" : value == 4 ? ">3" : "=" + value);
        }
        Bench x = new Bench();
        Model model = new Model();
        for (int letter = 0; letter < 3; letter++) {
            addTo(x, 0, model, new Transition(0, letter, 0, ""));
        }
        addTo(x, 0, model, new Transition(0, valuation % 3, 3, guard.toString()));
        x.step(w -> w.setFinal(0, 3, true) ? 1 : 0);
        model.finals = 8;
        searches("valuation " + valuation + " ", x, 0, model, new Model());
    }

    private static void addTo(Bench x, int slot, Model model, Transition t) {
        for (char c : t.guard.toCharArray()) {
            x.step(w -> w.appendCharacter(c));
        }
        due("addTransition", x.step(w -> w.addTransition(slot, t.from, t.letter, t.to)), model.transitions.size());
        model.transitions.add(t);
    }

    private static int copied(EventClockWorkbench x, int slot) {
        x.copyAutomaton(slot);
        return slot;
    }

    private static void removeOne(Bench x, Model model, Random random) {
        if (!model.transitions.isEmpty()) {
            int gone = random.nextInt(model.transitions.size());
            model.transitions.remove(gone);
            due("removeTransition", x.step(w -> w.removeTransition(1, gone)), model.transitions.size());
        }
    }

    private static void fill(Bench x, int slot, Model model, Random random, int style) {
        int count = style == 0 ? random.nextInt(4) : 3 + random.nextInt(8);
        int letters = style == 3 ? 2 : 3;
        for (int i = 0; i < count && x.steps.size() < 180 * (slot + 1); i++) {
            StringBuilder guard = new StringBuilder();
            int constraints = style == 2 ? random.nextInt(5) : random.nextInt(3);
            for (int k = 0; k < constraints; k++) {
                guard.append(k == 0 ? "" : "&").append(randomConstraint(random));
            }
            Transition t = new Transition(random.nextInt(4), random.nextInt(letters), random.nextInt(4),
                    guard.toString());
            addTo(x, slot, model, t);
        }
        for (int s = 0; s < 4; s++) {
            int state = s;
            boolean initial = state == 0 ? random.nextInt(8) != 0 : random.nextInt(6) == 0;
            boolean last = random.nextInt(4) == 0;
            x.step(w -> w.setInitial(slot, state, initial) ? 1 : 0);
            x.step(w -> w.setFinal(slot, state, last) ? 1 : 0);
            model.initial = initial ? model.initial | 1 << state : model.initial & ~(1 << state);
            model.finals = last ? model.finals | 1 << state : model.finals & ~(1 << state);
        }
    }

    private static String randomConstraint(Random random) {
        String clock = String.valueOf((char) ('a' + random.nextInt(3)));
        String[] signs = {"<", "<=", "=", ">=", ">", "?", "!"};
        int kind = random.nextInt(7);
        return clock + signs[kind] + (kind < 5 ? String.valueOf(random.nextInt(4)) : "");
    }

    private static void guards(String who, Bench x, int slot, Model model) {
        boolean conflict = false;
        for (int i = 0; i < model.transitions.size(); i++) {
            Transition t = model.transitions.get(i);
            int satisfying = 0;
            for (int v : allValuations()) {
                satisfying += t.allows(v) ? 1 : 0;
                for (int k = 0; k < i; k++) {
                    Transition u = model.transitions.get(k);
                    conflict |= u.from == t.from && u.letter == t.letter && u.allows(v) && t.allows(v);
                }
            }
            due(who + "satisfyingValuations " + i, x.ask().satisfyingValuations(slot, i), satisfying);
        }
        due(who + "isDeterministic", x.ask().isDeterministic(slot), !conflict && Integer.bitCount(model.initial) == 1);
    }

    private static void determinization(String who, Bench x, int slot, Model model) {
        List<Integer> sets = new ArrayList<>(List.of(model.initial));
        int branchSum = 0;
        for (int i = 0; i < sets.size(); i++) {
            for (int letter = 0; letter < 3; letter++) {
                List<Integer> targets = new ArrayList<>();
                Map<Integer, Integer> valuations = new HashMap<>();
                for (int v : allValuations()) {
                    int next = model.after(sets.get(i), letter, v);
                    if (!sets.contains(next)) {
                        sets.add(next);
                    }
                    if (!targets.contains(next)) {
                        targets.add(next);
                    }
                    valuations.merge(next, 1, Integer::sum);
                }
                branchSum += targets.size();
                due(who + "branches", x.ask().branches(slot, i, letter), targets.size());
                for (int b = 0; b < targets.size(); b++) {
                    due(who + "branchTarget", x.ask().branchTarget(slot, i, letter, b), sets.indexOf(targets.get(b)));
                    due(who + "branchValuations", x.ask().branchValuations(slot, i, letter, b),
                            valuations.get(targets.get(b)));
                }
            }
        }
        due(who + "deterministicStates", x.ask().deterministicStates(slot), sets.size());
        for (int i = 0; i < sets.size(); i++) {
            due(who + "deterministicSet", x.ask().deterministicSet(slot, i), sets.get(i));
        }
        due(who + "averageBranches", x.ask().averageBranches(slot), (float) branchSum / (float) (3 * sets.size()));
    }

    private static void searches(String who, Bench x, int slot, Model own, Model other) {
        Model nothing = new Model();
        nothing.initial = 0;
        due(who + "isEmpty", x.ask().isEmpty(slot), !isReachable(own, nothing));
        due(who + "isIncluded", x.ask().isIncluded(slot), !isReachable(own, other));
        List<Event> before = taken(x);
        List<Event> witness = first(own, nothing);
        try {
            int events = x.step(w -> w.takeWitness(slot));
            due(who + "takeWitness", events, witness == null ? (Object) "throws" : witness.size());
        } catch (NoSuchElementException e) {
            due(who + "takeWitness throws", witness == null, true);
        }
        due(who + "the witness", taken(x), witness == null ? before : witness);
        before = taken(x);
        List<Event> difference = first(own, other);
        try {
            int events = x.step(w -> w.takeDifference(slot));
            due(who + "takeDifference", events, difference == null ? (Object) "throws" : difference.size());
        } catch (NoSuchElementException e) {
            due(who + "takeDifference throws", difference == null, true);
        }
        due(who + "the difference", taken(x), difference == null ? before : difference);
        bruteForce(who, own, other, difference);
    }

    private static List<Event> taken(Bench x) {
        List<Event> word = new ArrayList<>();
        for (int i = 0; i < x.ask().wordLength(); i++) {
            word.add(new Event(x.ask().event(i, 0), x.ask().event(i, 1)));
        }
        return word;
    }

    private static boolean isGoal(Model own, Model other, Place p) {
        return (p.own & own.finals) != 0 && (p.other & other.finals) == 0;
    }

    private static Place next(Model own, Model other, Place p, Event e) {
        int reading = later(p.valuation, e.delay);
        return new Place(zeroed(reading, e.letter), own.after(p.own, e.letter, reading),
                other.after(p.other, e.letter, reading));
    }

    private static boolean isReachable(Model own, Model other) {
        List<Place> found = new ArrayList<>(List.of(new Place(999, own.initial, other.initial)));
        Set<Place> seen = new HashSet<>(found);
        for (int i = 0; i < found.size(); i++) {
            if (isGoal(own, other, found.get(i))) {
                return true;
            }
            for (int code = 0; code < 15; code++) {
                Place next = next(own, other, found.get(i), new Event(code % 5, code / 5));
                if (next.own != 0 && seen.add(next)) {
                    found.add(next);
                }
            }
        }
        return false;
    }

    /** Keeps the first word to each place, event by event: not the way in which the class does it. */
    private static List<Event> first(Model own, Model other) {
        Map<Place, Path> level = new HashMap<>();
        level.put(new Place(999, own.initial, other.initial), new Path(0, List.of()));
        for (int events = 0; events <= 10; events++) {
            Path best = null;
            for (Map.Entry<Place, Path> entry : level.entrySet()) {
                if (isGoal(own, other, entry.getKey()) && (best == null || entry.getValue().isBefore(best))) {
                    best = entry.getValue();
                }
            }
            if (best != null) {
                return best.word;
            }
            level = nextLevel(own, other, level);
        }
        return null;
    }

    private static Map<Place, Path> nextLevel(Model own, Model other, Map<Place, Path> level) {
        Map<Place, Path> following = new HashMap<>();
        for (Map.Entry<Place, Path> entry : level.entrySet()) {
            for (int code = 0; code < 15; code++) {
                Event e = new Event(code % 5, code / 5);
                Place next = next(own, other, entry.getKey(), e);
                if (next.own != 0) {
                    List<Event> word = new ArrayList<>(entry.getValue().word);
                    word.add(e);
                    Path path = new Path(entry.getValue().sum + e.delay, word);
                    Path known = following.get(next);
                    if (known == null || path.isBefore(known)) {
                        following.put(next, path);
                    }
                }
            }
        }
        return following;
    }

    /** All words with at most three events. */
    private static void bruteForce(String who, Model own, Model other, List<Event> difference) {
        if (difference == null || difference.size() > 3) {
            return;
        }
        Path best = null;
        int size = difference.size();
        int all = (int) Math.round(Math.pow(15, size));
        for (int code = 0; code < all; code++) {
            List<Event> word = new ArrayList<>();
            int sum = 0;
            for (int i = 0, rest = code; i < size; i++, rest /= 15) {
                word.add(new Event(rest % 5, rest / 5 % 3));
                sum += rest % 5;
            }
            Path path = new Path(sum, word);
            if ((best == null || path.isBefore(best)) && own.accepts(word) && !other.accepts(word)) {
                best = path;
            }
        }
        due(who + "brute force", difference, best == null ? "nothing" : best.word);
    }

    private static void counts(String who, Bench x, int slot, Model model, Random random) {
        for (int events = 0; events <= 10; events += events < 3 ? 1 : 3 + random.nextInt(2)) {
            for (int longest = 0; longest <= 4; longest += 1 + random.nextInt(2)) {
                long want = counted(model, events, longest);
                due(who + "acceptedWords " + events + " " + longest, x.ask().acceptedWords(slot, events, longest), want);
            }
            due(who + "acceptedShare " + events, x.ask().acceptedShare(slot, events),
                    (double) counted(model, events, 4) / (double) Math.round(Math.pow(15, events)));
        }
    }

    private static long counted(Model model, int events, int longest) {
        Map<List<Integer>, Long> level = new HashMap<>();
        level.put(List.of(999, model.initial), 1L);
        for (int i = 0; i < events; i++) {
            Map<List<Integer>, Long> following = new TreeMap<>((p, q) -> p.toString().compareTo(q.toString()));
            for (Map.Entry<List<Integer>, Long> entry : level.entrySet()) {
                for (int code = 0; code < 3 * (longest + 1); code++) {
                    int reading = later(entry.getKey().get(0), code / 3);
                    int set = model.after(entry.getKey().get(1), code % 3, reading);
                    if (set != 0) {
                        following.merge(List.of(zeroed(reading, code % 3), set), entry.getValue(), Long::sum);
                    }
                }
            }
            level = new HashMap<>(following);
        }
        long sum = 0;
        for (Map.Entry<List<Integer>, Long> entry : level.entrySet()) {
            sum += (entry.getKey().get(1) & model.finals) != 0 ? entry.getValue() : 0;
        }
        return sum;
    }

    private static void word(String who, Bench x, Model[] models, Random random) {
        x.step(w -> w.clearWord());
        List<Event> word = new ArrayList<>();
        int length = random.nextInt(8);
        for (int i = 0; i < length; i++) {
            Event e = new Event(random.nextInt(5), random.nextInt(3));
            word.add(e);
            due(who + "appendEvent", x.step(w -> w.appendEvent(e.delay, e.letter)), i + 1);
        }
        int valuation = 999;
        for (int i = 0; i < length; i++) {
            int reading = later(valuation, word.get(i).delay);
            due(who + "valuationBefore " + i, x.ask().valuationBefore(i), reading);
            for (int slot = 0; slot < 2; slot++) {
                blocking(who, x, slot, models[slot], i, word.get(i), reading);
            }
            valuation = zeroed(reading, word.get(i).letter);
        }
        for (int slot = 0; slot < 2; slot++) {
            simulation(who + "slot " + slot + " ", x, slot, models[slot], word);
        }
    }

    private static void blocking(String who, Bench x, int slot, Model model, int index, Event e,
            int reading) {
        for (int t = 0; t < model.transitions.size(); t++) {
            Transition transition = model.transitions.get(t);
            Object want = -1;
            String[] parts = transition.guard.isEmpty() ? new String[0] : transition.guard.split("&");
            for (int k = parts.length - 1; k >= 0; k--) {
                want = Transition.holds(parts[k], reading) ? want : (Object) k;
            }
            Object got;
            try {
                got = x.ask().blockingConstraint(slot, t, index);
            } catch (IllegalArgumentException thrown) {
                got = "argument";
            }
            due(who + "blockingConstraint " + t, got, transition.letter == e.letter ? want : "argument");
        }
    }

    private static void simulation(String who, Bench x, int slot, Model model, List<Event> word) {
        Object stuck = "none";
        for (int events = word.size(); events >= 0; events--) {
            int set = model.after(word.subList(0, events));
            due(who + "statesAfter " + events, x.ask().statesAfter(slot, events), set);
            if (set == 0 && events > 0) {
                stuck = events - 1;
            }
        }
        due(who + "accepts", x.ask().accepts(slot), model.accepts(word));
        due(who + "deterministicRun", x.ask().deterministicSet(slot, x.ask().deterministicRun(slot)), model.after(word));
        List<List<Integer>> accepting = model.runs(word, true);
        due(who + "runCount", x.ask().runCount(slot), (long) model.runs(word, false).size());
        due(who + "acceptingRuns", x.ask().acceptingRuns(slot), (long) accepting.size());
        Object got;
        try {
            got = x.ask().stuckAt(slot);
        } catch (NoSuchElementException e) {
            got = "none";
        }
        due(who + "stuckAt", got, stuck);
        for (int i = 0; i < word.size(); i++) {
            try {
                got = x.ask().firstRun(slot, i);
            } catch (NoSuchElementException e) {
                got = "none";
            }
            due(who + "firstRun " + i, got, accepting.isEmpty() ? (Object) "none" : accepting.get(0).get(i + 1));
        }
    }
}
