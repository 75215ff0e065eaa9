import java.util.ArrayDeque;
import java.util.ArrayList;
import java.util.Comparator;
import java.util.Deque;
import java.util.HashSet;
import java.util.LinkedHashMap;
import java.util.List;
import java.util.Map;
import java.util.NoSuchElementException;
import java.util.Set;

/** The document written a second time, in other ways than the class, for the random runs to compare with. */
final class Model {
    private static final class Testimony {
        final boolean isForProsecution;
        final int strength;
        int questions;

        Testimony(boolean isForProsecution, int strength, int questions) {
            this.isForProsecution = isForProsecution;
            this.strength = strength;
            this.questions = questions;
        }
    }

    private static final class Trial {
        final int defendant;
        final int offence;
        char phase = 'o';
        Boolean verdict = null;
        int appeals = 0;
        final Map<Integer, Testimony> heard = new LinkedHashMap<>();

        Trial(int defendant, int offence) {
            this.defendant = defendant;
            this.offence = offence;
        }

        Trial copy() {
            Trial copy = new Trial(defendant, offence);
            copy.phase = phase;
            copy.verdict = verdict;
            copy.appeals = appeals;
            heard.forEach((w, t) -> copy.heard.put(w, new Testimony(t.isForProsecution, t.strength, t.questions)));
            return copy;
        }
    }

    private static final class State {
        final List<Trial> trials = new ArrayList<>();
        final List<Integer> credibilities = new ArrayList<>();
        int decisions = 0;
        int questions = 0;

        State copy() {
            State copy = new State();
            trials.forEach(t -> copy.trials.add(t.copy()));
            copy.credibilities.addAll(credibilities);
            copy.decisions = decisions;
            copy.questions = questions;
            return copy;
        }
    }

    private State now = new State();
    private State saved = null;
    private final Deque<State> past = new ArrayDeque<>();
    private final StringBuilder input = new StringBuilder();
    private String line = "";
    private Integer error = null;
    private Integer failed = null;
    private boolean isOfState = false;

    private void changed(State before) {
        past.addLast(before);
        if (past.size() > 8) {
            past.removeFirst();
        }
    }

    private Trial trial(int number) {
        if (number < 0 || number >= now.trials.size()) {
            throw new IndexOutOfBoundsException();
        }
        return now.trials.get(number);
    }

    private void witness(int witness) {
        if (witness < 0 || witness >= now.credibilities.size()) {
            throw new IndexOutOfBoundsException();
        }
    }

    private Testimony testimony(int number, int witness) {
        Trial trial = trial(number);
        witness(witness);
        Testimony testimony = trial.heard.get(witness);
        if (testimony == null) {
            throw new NoSuchElementException();
        }
        return testimony;
    }

    private static void argument(boolean isRight) {
        if (!isRight) {
            throw new IllegalArgumentException();
        }
    }

    private static void state(boolean isRight) {
        if (!isRight) {
            throw new IllegalStateException();
        }
    }

    private static void element(boolean isThere) {
        if (!isThere) {
            throw new NoSuchElementException();
        }
    }

    private static void person(int defendant) {
        argument(defendant >= 0 && defendant <= 5);
    }

    private int weight(int witness, Testimony testimony) {
        return testimony.strength * now.credibilities.get(witness);
    }

    private int marginOf(Trial trial) {
        int[] sums = new int[2];
        trial.heard.forEach((w, t) -> sums[t.isForProsecution ? 1 : 0] += weight(w, t));
        return sums[1] - sums[0] - 2 * (trial.offence + 1);
    }

    private List<Integer> docketNow() {
        List<Integer> numbers = new ArrayList<>();
        for (int i = 0; i < now.trials.size(); i++) {
            if (now.trials.get(i).phase == 'o') {
                numbers.add(i);
            }
        }
        Comparator<Integer> order = Comparator.comparing(i -> -now.trials.get(i).offence);
        order = order.thenComparing(i -> -now.trials.get(i).heard.size()).thenComparing(i -> i);
        numbers.sort(order);
        return numbers;
    }

    private Set<Integer> groupOf(int witness) {
        Set<Integer> group = new HashSet<>();
        group.add(witness);
        boolean hasGrown = true;
        while (hasGrown) {
            hasGrown = false;
            for (Trial trial : now.trials) {
                boolean isTouched = trial.heard.keySet().stream().anyMatch(group::contains);
                hasGrown |= isTouched && group.addAll(trial.heard.keySet());
            }
        }
        return group;
    }

    private int casesOf(int witness) {
        return (int) now.trials.stream().filter(t -> t.heard.containsKey(witness)).count();
    }

    private int sum(int defendant) {
        return now.trials.stream().filter(t -> t.defendant == defendant && Boolean.TRUE.equals(t.verdict))
                .mapToInt(t -> t.offence + 1).sum();
    }

    private int guilty() {
        return (int) now.trials.stream().filter(t -> Boolean.TRUE.equals(t.verdict)).count();
    }

    private int inPhase(char phase) {
        return (int) now.trials.stream().filter(t -> t.phase == phase).count();
    }

    /** A change by its keyword; digits and signs are the arguments as numbers, true as 1. */
    private Object change(String keyword, int... a) {
        switch (keyword) {
            case "charge":
                argument(a[0] >= 0 && a[0] <= 5 && a[1] >= 0 && a[1] <= 4);
                state(now.trials.stream().noneMatch(t -> t.defendant == a[0] && t.offence == a[1]));
                state(now.trials.size() < 16);
                now.trials.add(new Trial(a[0], a[1]));
                return now.trials.size() - 1;
            case "witness":
                argument(a[0] >= 0 && a[0] <= 9);
                state(now.credibilities.size() < 8);
                now.credibilities.add(a[0]);
                return now.credibilities.size() - 1;
            case "testify": {
                Trial trial = trial(a[0]);
                witness(a[1]);
                argument(a[3] >= 1 && a[3] <= 5);
                state(trial.phase == 'o' && !trial.heard.containsKey(a[1]) && trial.heard.size() < 6);
                trial.heard.put(a[1], new Testimony(a[2] == 1, a[3], 0));
                return trial.heard.size();
            }
            case "question": {
                Testimony testimony = testimony(a[0], a[1]);
                state(trial(a[0]).phase == 'o' && testimony.questions < 2);
                testimony.questions++;
                now.questions++;
                int moved = now.credibilities.get(a[1]) + (a[2] == 1 ? 1 : -2);
                now.credibilities.set(a[1], moved < 0 ? 0 : moved > 9 ? 9 : moved);
                return now.credibilities.get(a[1]);
            }
            case "decide": {
                Trial trial = trial(a[0]);
                state(trial.phase == 'o' && !trial.heard.isEmpty());
                trial.verdict = marginOf(trial) > 0;
                trial.phase = trial.appeals == 2 ? 'c' : 'd';
                now.decisions++;
                return trial.verdict;
            }
            case "appeal": {
                Trial trial = trial(a[0]);
                state(trial.phase == 'd');
                trial.verdict = null;
                trial.phase = 'o';
                return ++trial.appeals;
            }
            default: {
                Trial trial = trial(a[0]);
                state(trial.phase == 'd');
                trial.phase = 'c';
                return inPhase('c');
            }
        }
    }

    private Object changeNow(String keyword, int... a) {
        State before = now.copy();
        Object answer = change(keyword, a);
        changed(before);
        return answer;
    }

    private static final String[] FORMS = {"charge D D", "witness D", "testify D DSD", "testify DD DSD",
        "question D DA", "question DD DA", "decide D", "decide DD", "appeal D", "appeal DD", "close D", "close DD"};

    private static boolean fits(char form, char c) {
        switch (form) {
            case 'D':
                return c >= '0' && c <= '9';
            case 'S':
                return c == '+' || c == '-';
            case 'A':
                return c == '!' || c == '?';
            default:
                return form == c;
        }
    }

    /** The longest beginning of the text that a valid program can have, or -1 if the text is a valid program. */
    private static int errorIn(String text) {
        Set<String> rests = new HashSet<>(Set.of(FORMS));
        for (int i = 0; i < text.length(); i++) {
            char c = text.charAt(i);
            Set<String> next = new HashSet<>();
            for (String rest : rests) {
                if (rest.isEmpty() && c == ';') {
                    next.addAll(Set.of(FORMS));
                } else if (!rest.isEmpty() && fits(rest.charAt(0), c)) {
                    next.add(rest.substring(1));
                }
            }
            if (next.isEmpty()) {
                return i;
            }
            rests = next;
        }
        return rests.contains("") ? -1 : text.length();
    }

    private Object runNow() {
        String text = input.toString();
        input.setLength(0);
        int position = errorIn(text);
        if (position >= 0) {
            error = position;
            throw new IllegalArgumentException();
        }
        State before = now.copy();
        String[] commands = text.split(";");
        for (int i = 0; i < commands.length; i++) {
            try {
                command(commands[i]);
            } catch (RuntimeException e) {
                now = before;
                failed = i;
                isOfState = e instanceof IllegalStateException;
                throw new UnsupportedOperationException();
            }
        }
        changed(before);
        return commands.length;
    }

    private void command(String text) {
        String[] words = text.split(" ");
        int first = Integer.parseInt(words[1]);
        String last = words.length > 2 ? words[2] : "0";
        int second = last.charAt(0) - '0';
        int flag = last.length() > 1 && (last.charAt(1) == '+' || last.charAt(1) == '!') ? 1 : 0;
        change(words[0], first, second, flag, last.length() > 2 ? last.charAt(2) - '0' : 0);
    }

    private String caseLine(int number) {
        Trial t = trial(number);
        StringBuilder text = new StringBuilder();
        text.append(number).append(":").append(t.defendant).append("/").append(t.offence);
        text.append(t.verdict == null ? "o" : t.verdict ? "g" : "n").append(t.phase == 'c' ? "." : "");
        t.heard.forEach((w, y) -> text.append(y.isForProsecution ? " +" : " -").append(w).append("*").append(y.strength));
        return text.toString();
    }

    private int firmAnswers(int number, int witness) {
        Testimony testimony = testimony(number, witness);
        int before = now.credibilities.get(witness);
        try {
            for (int answers = 0; answers < 12; answers++) {
                now.credibilities.set(witness, Math.min(9, before + answers));
                if (marginOf(trial(number)) > 0) {
                    return answers;
                }
            }
        } finally {
            now.credibilities.set(witness, before);
        }
        throw new NoSuchElementException();
    }

    private int ranked(int rank) {
        List<Integer> order = new ArrayList<>();
        for (int w = 0; w < now.credibilities.size(); w++) {
            order.add(w);
        }
        Comparator<Integer> by = Comparator.comparing(w -> -now.credibilities.get(w));
        order.sort(by.thenComparing(w -> -casesOf(w)).thenComparing(w -> w));
        element(rank >= 0 && rank < order.size());
        return order.get(rank);
    }

    private int agree(int one, int other) {
        witness(one);
        witness(other);
        int sum = 0;
        for (Trial t : now.trials) {
            if (t.heard.containsKey(one) && t.heard.containsKey(other)) {
                sum += t.heard.get(one).isForProsecution == t.heard.get(other).isForProsecution ? 1 : -1;
            }
        }
        return sum;
    }

    private int heaviest(int number) {
        Trial trial = trial(number);
        element(!trial.heard.isEmpty());
        int greatest = trial.heard.entrySet().stream().mapToInt(e -> weight(e.getKey(), e.getValue())).max().getAsInt();
        return trial.heard.entrySet().stream().filter(e -> weight(e.getKey(), e.getValue()) == greatest)
                .findFirst().get().getKey();
    }

    private int sideWeight(int number, boolean isForProsecution) {
        return trial(number).heard.entrySet().stream().filter(e -> e.getValue().isForProsecution == isForProsecution)
                .mapToInt(e -> weight(e.getKey(), e.getValue())).sum();
    }

    private int found(int defendant, int offence) {
        argument(defendant >= 0 && defendant <= 5 && offence >= 0 && offence <= 4);
        for (int i = 0; i < now.trials.size(); i++) {
            if (now.trials.get(i).defendant == defendant && now.trials.get(i).offence == offence) {
                return i;
            }
        }
        throw new NoSuchElementException();
    }

    /** The answer to a call of the face, told by the method's name; booleans are given as 1 and 0, characters as numbers. */
    Object answer(String method, int a, int b, int c, int d) {
        switch (method) {
            case "charge":
                return changeNow("charge", a, b);
            case "addWitness":
                return changeNow("witness", a);
            case "testify":
                return changeNow("testify", a, b, c, d);
            case "question":
                return changeNow("question", a, b, c);
            case "decide":
            case "appeal":
            case "close":
                return changeNow(method, a);
            case "append":
                argument(a >= ' ' && a <= '~');
                state(input.length() < 60);
                return input.append((char) a).length();
            case "run":
                return runNow();
            case "undo":
                state(!past.isEmpty());
                now = past.removeLast();
                return past.size();
            case "save":
                saved = now.copy();
                return now.trials.size();
            case "restore":
                state(saved != null);
                now = saved.copy();
                past.clear();
                return now.trials.size();
            case "formatCase":
                line = caseLine(a);
                return line.length();
            case "formatWitness":
                witness(a);
                line = "w" + a + "=" + now.credibilities.get(a);
                return line.length();
            default:
                return read(method, a, b);
        }
    }

    private Object read(String method, int a, int b) {
        switch (method) {
            case "caseCount":
                return now.trials.size();
            case "caseOf":
                return found(a, b);
            case "defendantOf":
                return trial(a).defendant;
            case "offenceOf":
                return trial(a).offence;
            case "isOpen":
                return trial(a).phase == 'o';
            case "isDecided":
                return trial(a).phase == 'd';
            case "isClosed":
                return trial(a).phase == 'c';
            case "isGuilty":
                state(trial(a).verdict != null);
                return trial(a).verdict;
            case "appealCount":
                return trial(a).appeals;
            case "testimonyCount":
                return trial(a).heard.size();
            case "witnessAt":
                element(b >= 0 && b < trial(a).heard.size() || a < 0 || a >= now.trials.size());
                return new ArrayList<>(trial(a).heard.keySet()).get(b);
            case "hasTestified":
                trial(a);
                witness(b);
                return trial(a).heard.containsKey(b);
            case "isForProsecution":
                return testimony(a, b).isForProsecution;
            case "strength":
                return testimony(a, b).strength;
            case "questionCount":
                return testimony(a, b).questions;
            case "heaviestWitness":
                return heaviest(a);
            case "prosecutionWeight":
                return sideWeight(a, true);
            case "defenceWeight":
                return sideWeight(a, false);
            case "margin":
            case "marginByCredibility":
                return marginOf(trial(a));
            case "firmAnswersToGuilty":
                return firmAnswers(a, b);
            default:
                return readMore(method, a, b);
        }
    }

    private Object readMore(String method, int a, int b) {
        switch (method) {
            case "witnessCount":
                return now.credibilities.size();
            case "credibility":
                witness(a);
                return now.credibilities.get(a);
            case "casesOfWitness":
                witness(a);
                return casesOf(a);
            case "mostCredible":
                return ranked(a);
            case "agreement":
                return agree(a, b);
            case "areConnected":
            case "areConnectedBySearch":
                witness(a);
                witness(b);
                return groupOf(a).contains(b);
            case "groupSize":
                witness(a);
                return groupOf(a).size();
            case "groupCount": {
                Set<Set<Integer>> groups = new HashSet<>();
                for (int w = 0; w < now.credibilities.size(); w++) {
                    groups.add(groupOf(w));
                }
                return groups.size();
            }
            case "nextToDecide":
                return docketNow().stream().filter(i -> !now.trials.get(i).heard.isEmpty()).findFirst().orElseThrow();
            case "sentence":
            case "sentenceByCases":
                person(a);
                return sum(a);
            case "mostSentenced": {
                int most = 5;
                for (int d = 4; d >= 0; d--) {
                    most = sum(d) >= sum(most) ? d : most;
                }
                return most;
            }
            case "docketLength":
                return docketNow().size();
            case "docketAt":
                element(a >= 0 && a < docketNow().size());
                return docketNow().get(a);
            case "docketPosition":
                state(trial(a).phase == 'o');
                return docketNow().indexOf(a);
            default:
                return readTheRest(method, a);
        }
    }

    private Object readTheRest(String method, int a) {
        switch (method) {
            case "closedCount":
                return inPhase('c');
            case "guiltyCount":
                return guilty();
            case "decisionCount":
                return now.decisions;
            case "questionTotal":
                return now.questions;
            case "meanCredibility":
                if (now.credibilities.isEmpty()) {
                    throw new ArithmeticException();
                }
                return (double) now.credibilities.stream().mapToInt(i -> i).sum() / now.credibilities.size();
            case "guiltyShare":
                if (inPhase('d') + inPhase('c') == 0) {
                    throw new ArithmeticException();
                }
                return (float) guilty() / (inPhase('d') + inPhase('c'));
            case "isConsistent":
                return true;
            case "lineChar":
                if (a < 0 || a >= line.length()) {
                    throw new IndexOutOfBoundsException();
                }
                return line.charAt(a);
            case "errorPosition":
                element(error != null);
                return error;
            case "failedCommand":
                element(failed != null);
                return failed;
            case "isFailureOfState":
                element(failed != null);
                return isOfState;
            case "undoableCount":
                return past.size();
            default:
                throw new UnsupportedOperationException("the model does not know " + method);
        }
    }
}
