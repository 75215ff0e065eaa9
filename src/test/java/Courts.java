import java.util.NoSuchElementException;

/** Courts to begin with, and readings of them, for the tests to share. */
class Courts {
    static final Class<?> INDEX = IndexOutOfBoundsException.class;
    static final Class<?> ARGUMENT = IllegalArgumentException.class;
    static final Class<?> ELEMENT = NoSuchElementException.class;
    static final Class<?> STATE = IllegalStateException.class;
    static final Class<?> UNSUPPORTED = UnsupportedOperationException.class;
    static final Class<?> ARITHMETIC = ArithmeticException.class;
    static final int LOWEST = Integer.MIN_VALUE;
    static final int GREATEST = Integer.MAX_VALUE;

    /** A call with one number. */
    interface WithOne {
        Object answer(CaseManager x, int number);
    }

    /** A call with two numbers. */
    interface WithTwo {
        Object answer(CaseManager x, int one, int other);
    }

    /** Two cases (0: defendant 1, offence 4; 1: defendant 2, offence 0) and witnesses of credibility 5, 9 and 3. */
    static CaseManager court() {
        CaseManager x = new CaseManager();
        x.charge(1, 4);
        x.charge(2, 0);
        x.addWitness(5);
        x.addWitness(9);
        x.addWitness(3);
        return x;
    }

    /** Case i is of defendant i / 5 and offence i % 5, so that its severity is i % 5 + 1. */
    static CaseManager courtOf(int cases, int... credibilities) {
        CaseManager x = new CaseManager();
        for (int i = 0; i < cases; i++) {
            x.charge(i / 5, i % 5);
        }
        for (int credibility : credibilities) {
            x.addWitness(credibility);
        }
        return x;
    }

    /** Case 0 is open and has been heard, case 1 is decided and guilty, case 2 closed and not guilty; 13 changes. */
    static CaseManager courtInAllPhases() {
        CaseManager x = courtOf(3, 5, 9, 0, 3);
        x.testify(0, 0, true, 2);
        x.testify(0, 3, false, 1);
        x.testify(1, 1, true, 5);
        x.testify(2, 1, false, 1);
        x.question(0, 0, true);
        x.decide(1);
        x.decide(2);
        x.close(2);
        return x;
    }

    /** Brings a case that has been heard into the phase that makes its next decision final. */
    static void appealTwice(CaseManager x, int caseNumber) {
        x.decide(caseNumber);
        x.appeal(caseNumber);
        x.decide(caseNumber);
        x.appeal(caseNumber);
    }

    static void type(CaseManager x, String text) {
        for (char c : text.toCharArray()) {
            x.append(c);
        }
    }

    static Object run(CaseManager x, String text) {
        type(x, text);
        return Check.answerOf(x::run);
    }

    static String lineOf(CaseManager x, int length) {
        StringBuilder text = new StringBuilder();
        for (int i = 0; i < length; i++) {
            text.append(x.lineChar(i));
        }
        Check.due("55 lineChar behind the line", INDEX, () -> x.lineChar(length));
        return text.toString();
    }

    /** The answers of all readers of the court, for the numbers that there are; some 200 calls for a small court. */
    static String everything(CaseManager x) {
        StringBuilder text = new StringBuilder();
        for (int caseNumber = 0; caseNumber < x.caseCount(); caseNumber++) {
            tellCase(text, x, caseNumber);
        }
        for (int one = 0; one < x.witnessCount(); one++) {
            int witness = one;
            tell(text, x.credibility(one), x.casesOfWitness(one), x.groupSize(one), x.mostCredible(one));
            for (int other = 0; other < one; other++) {
                tell(text, x.agreement(witness, other), x.areConnected(witness, other));
            }
        }
        for (int defendant = 0; defendant < 6; defendant++) {
            tell(text, x.sentence(defendant), x.sentenceByCases(defendant));
        }
        for (int position = 0; position < x.docketLength(); position++) {
            tell(text, x.docketAt(position));
        }
        tell(text, x.groupCount(), x.mostSentenced(), x.docketLength(), x.closedCount(), x.guiltyCount());
        tell(text, x.decisionCount(), x.questionTotal(), x.isConsistent());
        tell(text, Check.answerOf(x::nextToDecide), Check.answerOf(x::meanCredibility), Check.answerOf(x::guiltyShare));
        return text.toString();
    }

    private static void tellCase(StringBuilder text, CaseManager x, int number) {
        text.append(" / ");
        tell(text, x.defendantOf(number), x.offenceOf(number), x.isOpen(number), x.isDecided(number));
        tell(text, x.isClosed(number), x.appealCount(number), x.margin(number), x.marginByCredibility(number));
        tell(text, x.prosecutionWeight(number), x.defenceWeight(number));
        tell(text, Check.answerOf(() -> x.isGuilty(number)), Check.answerOf(() -> x.heaviestWitness(number)));
        tell(text, Check.answerOf(() -> x.docketPosition(number)));
        for (int position = 0; position < x.testimonyCount(number); position++) {
            int witness = x.witnessAt(number, position);
            tell(text, witness, x.isForProsecution(number, witness), x.strength(number, witness));
            tell(text, x.questionCount(number, witness));
            tell(text, Check.answerOf(() -> x.firmAnswersToGuilty(number, witness)));
        }
    }

    private static void tell(StringBuilder text, Object... answers) {
        for (Object answer : answers) {
            text.append(answer).append(' ');
        }
    }

    /** No such case: below 0, from the number of opened cases on, and a case whose opening was undone. */
    static void noSuchCase(WithOne call) {
        for (int number : new int[] {LOWEST, -1, 0, 1, GREATEST}) {
            Check.due("case " + number + " of none", INDEX, () -> call.answer(new CaseManager(), number));
        }
        for (int number : new int[] {LOWEST, -16, -1, 3, 4, 15, 16, 1 << 28, GREATEST}) {
            Check.due("case " + number + " of 3", INDEX, () -> call.answer(courtInAllPhases(), number));
        }
        for (int number : new int[] {-1, 16, 17}) {
            Check.due("case " + number + " of 16", INDEX, () -> call.answer(courtOf(16, 9), number));
        }
        CaseManager x = courtOf(0, 9);
        x.charge(0, 0);
        x.charge(0, 1);
        x.testify(1, 0, true, 5);
        x.decide(1);
        for (int i = 0; i < 3; i++) {
            x.undo();
        }
        Check.due("a case whose opening was undone", INDEX, () -> call.answer(x, 1));
        isNot("case 0 of 1", INDEX, () -> call.answer(x, 0));
        isNot("case 15 of 16", INDEX, () -> call.answer(courtOf(16, 9), 15));
    }

    /** No such witness: below 0, from the number of registered witnesses on, and one whose registration was undone. */
    static void noSuchWitness(WithOne call) {
        for (int witness : new int[] {LOWEST, -1, 0, 1, GREATEST}) {
            Check.due("witness " + witness + " of none", INDEX, () -> call.answer(courtOf(3), witness));
        }
        for (int witness : new int[] {LOWEST, -8, -1, 4, 5, 7, 8, 1 << 29, GREATEST}) {
            Check.due("witness " + witness + " of 4", INDEX, () -> call.answer(courtInAllPhases(), witness));
        }
        for (int witness : new int[] {-1, 8, 9}) {
            Check.due("witness " + witness + " of 8", INDEX, () -> call.answer(eightWitnesses(), witness));
        }
        CaseManager x = courtOf(2, 9, 8);
        x.testify(0, 1, true, 5);
        x.undo();
        x.undo();
        Check.due("a witness whose registration was undone", INDEX, () -> call.answer(x, 1));
        isNot("witness 0 of 1", INDEX, () -> call.answer(x, 0));
        isNot("witness 7 of 8", INDEX, () -> call.answer(eightWitnesses(), 7));
    }

    /** Sixteen open cases and eight witnesses of credibility 0, 9, 8, 1, 2, 7, 6 and 5. */
    static CaseManager eightWitnesses() {
        return courtOf(16, 0, 9, 8, 1, 2, 7, 6, 5);
    }

    /** No such defendant: below 0 and above 5. */
    static void noSuchDefendant(WithOne call) {
        for (int defendant : new int[] {LOWEST, -1, 6, 7, GREATEST}) {
            Check.due("defendant " + defendant, ARGUMENT, () -> call.answer(courtInAllPhases(), defendant));
        }
        for (int defendant = 0; defendant <= 5; defendant++) {
            int number = defendant;
            isNot("defendant " + number, ARGUMENT, () -> call.answer(courtInAllPhases(), number));
        }
    }

    static void isNot(String what, Object unwanted, Check.Call call) {
        Object answer = Check.answerOf(call);
        boolean isAnswered = !answer.equals(unwanted) && !(answer instanceof String);
        Check.due(what + " answered " + answer + " and not " + unwanted, true, () -> isAnswered);
    }
}
