/** The sentences on commands that name a boundary case: the paragraph of the terms, and promises 56 to 60. */
final class CommandBounds extends Courts {
    private static final String DIGITS = "0123456789";
    private static final String KEYWORDS_BEGIN = "cwtqda";
    private static final String SIX_WITNESSES = "witness 1;witness 2;witness 3;witness 4;witness 5;witness 6";
    private static final String SIX_CLOSED = "close 0;close 1;close 2;close 3;close 4;close 5";
    private static final Integer NONE = -1;

    /** The error position of a text, or NONE if it is a valid program. */
    private static Object errorOf(String text) {
        CaseManager x = new CaseManager();
        Object answer = run(x, text);
        if (answer instanceof Integer || answer.equals(UNSUPPORTED)) {
            Check.due("no error position after \"" + text + "\"", ELEMENT, x::errorPosition);
            return NONE;
        }
        Check.due("run of \"" + text + "\"", ARGUMENT, () -> answer);
        return Check.answerOf(x::errorPosition);
    }

    private static void error(String text, int want) {
        Check.due("error in \"" + text + "\"", want, () -> errorOf(text));
    }

    /** After the beginning of a program, the signs of next and no others go on; each other is the error. */
    private static void goesOn(String beginning, String next) {
        for (char sign = ' '; sign <= '~'; sign++) {
            String text = beginning + sign;
            boolean isAllowed = next.indexOf(sign) >= 0;
            Object error = errorOf(text);
            Object want = isAllowed ? error.equals(NONE) ? NONE : (Object) text.length() : beginning.length();
            Check.due("error in \"" + text + "\"", want, () -> error);
        }
    }

    @Boundary(promise = {56, 57}, says = "The input buffer holds up to 60 characters.")
    static void sixtyCharacters() {
        CaseManager x = courtOf(16, 9);
        String program = "decide 00;decide 01;decide 02;decide 03;decide 04;decide 015";
        for (int i = 0; i < 59; i++) {
            int length = i + 1;
            Check.due("character " + length, length, () -> x.append(program.charAt(length - 1)));
        }
        Check.due("the sixtieth", 60, () -> x.append('5'));
        Check.due("one more", STATE, () -> x.append('0'));
        Check.due("the first is read too", ARGUMENT, x::run);
        Check.due("the last is read too", 59, x::errorPosition);
        Check.due("60 characters are run", 6, () -> run(courtOf(0), "witness 1;witness 2;witness 3;witness 4;"
            + "witness 5;charge 0 0"));
        Check.due("59 characters are run", 6, () -> run(courtOf(0), SIX_WITNESSES));
    }

    @Boundary(promise = 57, says = "A program in the input buffer has this grammar, where { x } means zero or more "
        + "repetitions of x and a vertical bar separates alternatives: program = command { \";\" command }")
    static void oneCommandOrMore() {
        Check.due("one command", 1, () -> run(courtOf(0), "witness 0"));
        Check.due("two commands", 2, () -> run(courtOf(0), "witness 0;witness 1"));
        Check.due("six commands", 6, () -> run(courtOf(0), SIX_WITNESSES));
        CaseManager x = sevenDecidedCases();
        Check.due("seven, the most that fit", 7, () -> run(x, SIX_CLOSED + ";close 6"));
        Check.due("each was executed", 7, x::closedCount);
        error("", 0);
        error(";", 0);
        error("witness 0;", 10);
        error(";witness 0", 0);
        error("witness 0;;witness 1", 10);
        error("witness 0; witness 1", 10);
        error(" witness 0", 0);
        error("witness 0 ", 9);
        error("witness 0,witness 1", 9);
        error("witness 0witness 1", 9);
    }

    private static CaseManager sevenDecidedCases() {
        CaseManager x = courtOf(7, 9);
        for (int i = 0; i < 7; i++) {
            x.testify(i, 0, true, 1);
            x.decide(i);
        }
        return x;
    }

    @Boundary(promise = 57, says = "\"charge \" digit \" \" digit")
    static void chargeTakesTwoDigits() {
        goesOn("charge ", DIGITS);
        goesOn("charge 0", " ");
        goesOn("charge 9 ", DIGITS);
        goesOn("charge 9 9", ";");
        Check.due("least", 1, () -> run(courtOf(0), "charge 0 0"));
        Check.due("greatest", 1, () -> run(courtOf(0), "charge 5 4"));
    }

    @Boundary(promise = 57, says = "\"witness \" digit")
    static void witnessTakesOneDigit() {
        goesOn("witness ", DIGITS);
        goesOn("witness 0", ";");
        goesOn("witness 9", ";");
        Check.due("least", 1, () -> run(courtOf(0), "witness 0"));
        Check.due("greatest", 1, () -> run(courtOf(0), "witness 9"));
    }

    @Boundary(promise = 57, says = "\"testify \" number \" \" digit side digit")
    static void testifyTakesANumberAndTwoDigits() {
        goesOn("testify ", DIGITS);
        goesOn("testify 1", DIGITS + " ");
        goesOn("testify 15", " ");
        goesOn("testify 1 ", DIGITS);
        goesOn("testify 15 ", DIGITS);
        goesOn("testify 1 7", "+-");
        goesOn("testify 1 7+", DIGITS);
        goesOn("testify 15 7-", DIGITS);
        goesOn("testify 1 7+5", ";");
        goesOn("testify 15 7-1", ";");
    }

    @Boundary(promise = 57, says = "\"question \" number \" \" digit answer")
    static void questionTakesANumberAndADigit() {
        goesOn("question ", DIGITS);
        goesOn("question 0", DIGITS + " ");
        goesOn("question 00", " ");
        goesOn("question 0 ", DIGITS);
        goesOn("question 99 ", DIGITS);
        goesOn("question 0 7", "!?");
        goesOn("question 99 7", "!?");
        goesOn("question 0 7!", ";");
        goesOn("question 99 7?", ";");
    }

    @Boundary(promise = 57, says = "\"decide \" number | \"appeal \" number | \"close \" number")
    static void theOthersTakeANumber() {
        for (String keyword : new String[] {"decide ", "appeal ", "close "}) {
            goesOn(keyword, DIGITS);
            goesOn(keyword + "0", DIGITS + ";");
            goesOn(keyword + "9", DIGITS + ";");
            goesOn(keyword + "00", ";");
            goesOn(keyword + "99", ";");
        }
    }

    @Boundary(promise = 57, says = "side = \"+\" | \"-\"")
    static void sides() {
        CaseManager x = courtOf(16, 9, 9);
        Check.due("both", 2, () -> run(x, "testify 0 0+1;testify 15 1-5"));
        Check.due("+ is the prosecution", true, () -> x.isForProsecution(0, 0));
        Check.due("- is the defence", false, () -> x.isForProsecution(15, 1));
        error("testify 0 0", 11);
        error("testify 0 0!1", 11);
        error("testify 0 0++1", 12);
        error("testify 0 01", 11);
    }

    @Boundary(promise = 57, says = "answer = \"!\" | \"?\"")
    static void answers() {
        CaseManager x = courtOf(16, 5);
        x.testify(15, 0, true, 1);
        Check.due("firm", 1, () -> run(x, "question 15 0!"));
        Check.due("! is firm", 6, () -> x.credibility(0));
        Check.due("weak", 1, () -> run(x, "question 15 0?"));
        Check.due("? is weak", 4, () -> x.credibility(0));
        error("question 0 0", 12);
        error("question 0 0+", 12);
        error("question 0 0!?", 13);
    }

    @Boundary(promise = 57, says = "number = digit | digit digit")
    static void numbersOfOneDigitOrTwo() {
        String[] programs = {"decide 0", "decide 00", "decide 9", "decide 09", "decide 10", "decide 15"};
        int[] cases = {0, 0, 9, 9, 10, 15};
        for (int i = 0; i < programs.length; i++) {
            String program = programs[i];
            int number = cases[i];
            CaseManager x = courtOf(16, 9);
            x.testify(number, 0, true, 5);
            Check.due(program, 1, () -> run(x, program));
            Check.due(program + " decides", true, () -> x.isDecided(number));
        }
        for (String program : new String[] {"decide 16", "decide 99", "appeal 50", "close 61"}) {
            CaseManager x = courtOf(16, 9);
            Check.due(program + ": well formed, but no such case", UNSUPPORTED, () -> run(x, program));
            Check.due(program + " fails by its index", false, x::isFailureOfState);
        }
        error("decide ", 7);
        error("decide 000", 9);
        error("decide 0 0", 8);
        error("decide -1", 7);
        error("decide +1", 7);
    }

    @Boundary(promise = 57, says = "The commands correspond to the methods charge, addWitness, testify, question, "
        + "decide, appeal and close, with the arguments in the same order")
    static void argumentsInTheSameOrder() {
        CaseManager x = courtOf(0);
        run(x, "charge 5 3;witness 4;witness 8;testify 0 1-2");
        Check.due("defendant", 5, () -> x.defendantOf(0));
        Check.due("offence", 3, () -> x.offenceOf(0));
        Check.due("credibility", 8, () -> x.credibility(1));
        Check.due("witness", 1, () -> x.witnessAt(0, 0));
        Check.due("strength", 2, () -> x.strength(0, 1));
        run(x, "charge 5 4;testify 1 0+5;question 1 0?;decide 1");
        Check.due("case of the question", 1, () -> x.questionCount(1, 0));
        Check.due("decided", true, () -> x.isDecided(1));
        run(x, "appeal 1");
        Check.due("appealed", 1, () -> x.appealCount(1));
        run(x, "decide 1;close 1");
        Check.due("closed", true, () -> x.isClosed(1));
        Check.due("the other case is open", true, () -> x.isOpen(0));
    }

    @Boundary(promise = 58, says = "The error position of a malformed program is the index of the first character that "
        + "no valid program can have there after the characters before it")
    static void theFirstWrongCharacter() {
        goesOn("", KEYWORDS_BEGIN);
        goesOn("charge 0 0;", KEYWORDS_BEGIN);
        goesOn("witness 1;close 2;", KEYWORDS_BEGIN);
        error("~", 0);
        error("charge 0 0;charge 0 x;charge y", 20);
        error("decide 1;decide x;dexide 1", 16);
        error("witness 1;witness 2;witness 3;witness 4;witness 5;witness x1", 58);
        error("witness 1;witness 2;witness 3;witness 4;witness 5;witness 1x", 59);
        error("witness 1;witness 2;witness 3;witness 4;witness 5;decide 123", 59);
    }

    @Boundary(promise = 58, says = "or the length of the program if it is a proper prefix of a valid program.")
    static void properPrefixes() {
        error("", 0);
        String[] programs = {"charge 5 4", "witness 9", "testify 3 2+1", "testify 13 2-5", "question 0 7!",
            "question 15 0?", "decide 4", "appeal 1", "close 9", "charge 0 0;witness 1", "close 10;testify 1 1+1"};
        for (String program : programs) {
            for (int length = 1; length < program.length(); length++) {
                String prefix = program.substring(0, length);
                if (!prefix.matches("close 10?|charge 0 0")) {
                    error(prefix, length);
                }
            }
            Check.due("no error in \"" + program + "\"", NONE, () -> errorOf(program));
        }
    }

    @Boundary(promise = 58, says = "or the length of the program if it is a proper prefix of a valid program.")
    static void aFullBufferThatIsAProperPrefix() {
        error("witness 1;witness 2;witness 3;witness 4;witness 5;witness 6;", 60);
        error("close 1;close 1;close 1;close 1;close 1;close 1;close 1;clos", 60);
        error("decide 11;decide 11;decide 11;decide 11;decide 11;charge 01 ", 58);
        error("decide 11;decide 11;decide 11;decide 11;decide 1;question 11", 60);
    }

    @Boundary(promise = {57, 58}, says = "Keywords are matched letter by letter.")
    static void letterByLetter() {
        String[] keywords = {"charge ", "witness ", "testify ", "question ", "decide ", "appeal ", "close "};
        for (String keyword : keywords) {
            for (int letters = 1; letters < keyword.length(); letters++) {
                String beginning = keyword.substring(0, letters);
                goesOn(beginning, beginning.equals("c") ? "hl" : keyword.substring(letters, letters + 1));
            }
        }
        error("Charge 0 0", 0);
        error("cHarge 0 0", 1);
        error("clarge 0 0", 2);
        error("chose 1", 2);
        error("closes 1", 5);
        error("charges 0 0", 6);
        error("charge  0 0", 7);
    }

    @Boundary(promise = 56, says = "Throws `IllegalArgumentException` if the character is not in the range from ' ' to "
        + "'~'")
    static void fromBlankToTilde() {
        CaseManager x = courtOf(0);
        for (char sign : new char[] {0, 9, 10, 13, 31, 127, 128, 160, 255, 256, 32767, 32768, 65535}) {
            Check.due("character " + (int) sign, ARGUMENT, () -> x.append(sign));
        }
        Check.due("a refused character is not appended", 1, () -> x.append(' '));
        Check.due("the last of the range", 2, () -> x.append('~'));
        for (char from = ' '; from <= '~'; from++) {
            char sign = from;
            Check.due("character " + (int) sign, 1, () -> courtOf(0).append(sign));
        }
    }

    @Boundary(promise = 56, says = "Throws `IllegalStateException` if the buffer contains 60 characters")
    static void aFullBuffer() {
        CaseManager x = courtOf(0);
        type(x, "witness 1;witness 2;witness 3;witness 4;witness 5;charge 0 ");
        Check.due("59 characters leave room", 60, () -> x.append('4'));
        Check.due("60 characters do not", STATE, () -> x.append('3'));
        Check.due("nor do they later", STATE, () -> x.append(' '));
        Check.due("a refused character is not appended", 6, x::run);
        Check.due("there is room again", 1, () -> x.append('~'));
    }

    @Boundary(promise = 56, says = "Returns the number of characters in the buffer.")
    static void lengthsOfTheBuffer() {
        CaseManager x = courtOf(0);
        for (int i = 1; i <= 60; i++) {
            int length = i;
            Check.due("character " + i, length, () -> x.append('!'));
        }
        Check.answerOf(x::run);
        Check.due("from 1 again", 1, () -> x.append('!'));
    }

    @Boundary(promise = 57, says = "Either all commands are executed or none.")
    static void allOrNone() {
        String[] failing = {"witness 1;witness 1;decide 0;decide 0", "charge 4 4;question 0 0!;appeal 1;close 1",
            "testify 0 1+1;charge 0 0", "close 1;close 1", "appeal 1;close 1",
            "question 0 3?;question 0 3?;question 0 3?", "charge 5 0;charge 5 0",
            "witness 1;testify 0 4+1;testify 3 0+1", "decide 0;appeal 0;decide 0;charge 9 0"};
        for (String program : failing) {
            CaseManager x = courtInAllPhases();
            String before = everything(x);
            Check.due("run of \"" + program + "\"", UNSUPPORTED, () -> run(x, program));
            Check.due("the court after \"" + program + "\"", before, () -> everything(x));
            Check.due("a failed run is no change", 8, x::undoableCount);
            x.undo();
            Check.due("a failed run is not what undo undoes", true, () -> x.isDecided(2));
        }
    }

    @Boundary(promise = 57, says = "Either all commands are executed or none.")
    static void noneOfAMalformedProgram() {
        for (String program : new String[] {"witness 1;witness", "decide 0;", "charge 4 4;charge 4 5x", "close 1 "}) {
            CaseManager x = courtInAllPhases();
            String before = everything(x);
            Check.due("run of \"" + program + "\"", ARGUMENT, () -> run(x, program));
            Check.due("the court after \"" + program + "\"", before, () -> everything(x));
            Check.due("a malformed program is no change", 8, x::undoableCount);
        }
    }

    @Boundary(promise = 57, says = "The buffer is empty afterwards, even if an exception is thrown.")
    static void anEmptyBufferAfterwards() {
        CaseManager x = courtOf(0);
        Check.due("well done", 1, () -> run(x, "witness 1"));
        Check.due("empty after a run", 1, () -> x.append('d'));
        Check.due("failed", UNSUPPORTED, () -> run(x, "ecide 0"));
        Check.due("empty after a failed command", 1, () -> x.append('d'));
        Check.due("malformed", ARGUMENT, () -> run(x, "ecide"));
        Check.due("empty after a malformed program", 1, () -> x.append('w'));
        Check.due("malformed", ARGUMENT, x::run);
        Check.due("empty", ARGUMENT, x::run);
        Check.due("an empty program ends at 0", 0, x::errorPosition);
    }

    @Boundary(promise = 57, says = "Returns the number of commands.")
    static void numbersOfCommands() {
        String program = "witness 1";
        for (int count = 1; count <= 6; count++) {
            String text = program;
            int want = count;
            Check.due("\"" + text + "\"", want, () -> run(courtOf(0), text));
            program = program + ";witness 1";
        }
        Check.due("seven", 7, () -> run(sevenDecidedCases(), "close 6;" + SIX_CLOSED));
    }

    @Boundary(promise = {57, 58}, says = "Throws `IllegalArgumentException` if the program is malformed; the error "
        + "position is stored")
    static void malformed() {
        CaseManager x = courtOf(0);
        Check.due("empty", ARGUMENT, x::run);
        Check.due("stored", 0, x::errorPosition);
        Check.due("malformed in its last character", ARGUMENT, () -> run(x, "charge 0 0;witness 12"));
        Check.due("stored", 20, x::errorPosition);
        Check.due("malformed comes before failing", ARGUMENT, () -> run(x, "decide 0;x"));
        Check.due("stored", 9, x::errorPosition);
        Check.due("no command failed", ELEMENT, x::failedCommand);
    }

    @Boundary(promise = {57, 59}, says = "Throws `UnsupportedOperationException` if the method of a command throws an "
        + "exception; the index of this command, starting at 0, is stored")
    static void failingCommands() {
        String[] programs = {"decide 0", "witness 1;decide 0", "witness 1;charge 6 0", "charge 0 0;testify 0 0+1",
            "charge 0 0;witness 1;testify 0 0+0", "charge 0 0;witness 1;question 0 0!", "charge 0 0;appeal 0",
            "charge 0 0;close 0", "charge 0 0;charge 0 0;decide 7"};
        int[] failing = {0, 1, 1, 1, 2, 2, 1, 1, 1};
        for (int i = 0; i < programs.length; i++) {
            String program = programs[i];
            int want = failing[i];
            CaseManager x = courtOf(0);
            Check.due("run of \"" + program + "\"", UNSUPPORTED, () -> run(x, program));
            Check.due("the command of \"" + program + "\"", want, x::failedCommand);
            Check.due("\"" + program + "\" is well formed", ELEMENT, x::errorPosition);
        }
        CaseManager x = sevenDecidedCases();
        Check.due("the last of seven", UNSUPPORTED, () -> run(x, SIX_CLOSED + ";close 5"));
        Check.due("the last of seven", 6, x::failedCommand);
    }

    @Boundary(promise = 57, says = "If several conditions of a method apply, the exception that is listed first is "
        + "thrown.")
    static void malformedComesFirst() {
        CaseManager x = courtOf(0);
        Check.due("a command that would fail, then a malformed one", ARGUMENT, () -> run(x, "close 0;close"));
        Check.due("no command failed", ELEMENT, x::failedCommand);
        Check.due("the error", 13, x::errorPosition);
    }

    @Boundary(promise = 58, says = "Returns the error position of the latest malformed program.")
    static void theLatestError() {
        CaseManager x = courtOf(0);
        run(x, "witness 1;?");
        Check.due("the first", 10, x::errorPosition);
        run(x, "witness 1");
        run(x, "decide 0");
        Check.due("not touched by valid programs", 10, x::errorPosition);
        run(x, "w");
        Check.due("a later one", 1, x::errorPosition);
        Check.answerOf(x::run);
        Check.due("an empty one", 0, x::errorPosition);
        Check.due("as often as one asks", 0, x::errorPosition);
    }

    @Boundary(promise = 58, says = "Throws `NoSuchElementException` if no program was malformed so far")
    static void noErrorSoFar() {
        CaseManager x = courtOf(0);
        Check.due("no program", ELEMENT, x::errorPosition);
        run(x, "witness 1");
        run(x, "decide 0");
        Check.answerOf(() -> x.append((char) 10));
        Check.due("none was malformed", ELEMENT, x::errorPosition);
        Check.answerOf(x::run);
        Check.due("an empty program is malformed", 0, x::errorPosition);
    }

    @Boundary(promise = 59, says = "Returns the index of the latest command that failed.")
    static void theLatestFailure() {
        CaseManager x = courtOf(0);
        run(x, "witness 1;witness 2;decide 0");
        Check.due("the first", 2, x::failedCommand);
        run(x, "witness 1");
        run(x, "decide");
        Check.answerOf(() -> x.decide(0));
        Check.due("not touched by others", 2, x::failedCommand);
        run(x, "witness 1;decide 0");
        Check.due("a later one", 1, x::failedCommand);
        run(x, "decide 0");
        Check.due("index 0", 0, x::failedCommand);
    }

    @Boundary(promise = 59, says = "Throws `NoSuchElementException` if no command failed so far")
    static void noFailureSoFar() {
        CaseManager x = courtOf(0);
        Check.due("no program", ELEMENT, x::failedCommand);
        run(x, "witness 1");
        run(x, "wit");
        Check.answerOf(() -> x.decide(0));
        Check.due("none failed", ELEMENT, x::failedCommand);
        run(x, "decide 0");
        Check.due("the first command failed", 0, x::failedCommand);
    }

    @Boundary(promise = 60, says = "Returns true for an IllegalStateException, false for any other exception.")
    static void failuresOfState() {
        failure("charge 0 0", true);
        failure("charge 6 0", false);
        failure("charge 0 5", false);
        failure("testify 3 0+1", false);
        failure("testify 0 4+1", false);
        failure("testify 0 1+0", false);
        failure("testify 0 1-6", false);
        failure("testify 0 0+1", true);
        failure("testify 1 0+1", true);
        failure("question 3 0!", false);
        failure("question 0 8!", false);
        failure("question 0 1!", false);
        failure("question 1 1!", true);
        failure("question 0 0?;question 0 0?", true);
        failure("decide 3", false);
        failure("decide 1", true);
        failure("appeal 16", false);
        failure("appeal 0", true);
        failure("close 99", false);
        failure("close 2", true);
        failure("witness 1;witness 1;witness 1;witness 1;witness 1", true);
    }

    private static void failure(String program, boolean want) {
        CaseManager x = courtInAllPhases();
        Check.due("run of \"" + program + "\"", UNSUPPORTED, () -> run(x, program));
        Check.due("isFailureOfState of \"" + program + "\"", want, x::isFailureOfState);
    }

    @Boundary(promise = 60, says = "Returns whether the latest command that failed did so because its method threw an "
        + "IllegalStateException.")
    static void theLatestCause() {
        CaseManager x = courtOf(1);
        run(x, "decide 0");
        Check.due("of state", true, x::isFailureOfState);
        run(x, "decide 1");
        Check.due("of an index", false, x::isFailureOfState);
        run(x, "witness 1;charge 0 0");
        Check.due("of state again", true, x::isFailureOfState);
        run(x, "witness 1");
        run(x, "malformed");
        Check.answerOf(() -> x.decide(1));
        Check.due("not touched by others", true, x::isFailureOfState);
    }

    @Boundary(promise = 60, says = "Throws `NoSuchElementException` if no command failed so far")
    static void noCauseSoFar() {
        CaseManager x = courtOf(0);
        Check.due("no program", ELEMENT, x::isFailureOfState);
        run(x, "witness 1");
        run(x, "wit");
        Check.answerOf(() -> x.decide(0));
        Check.due("none failed", ELEMENT, x::isFailureOfState);
        run(x, "charge 9 9");
        Check.due("the first command failed", false, x::isFailureOfState);
    }
}
