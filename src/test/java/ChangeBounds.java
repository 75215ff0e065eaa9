/** The sentences of promises 1 to 8 that name a boundary case. */
final class ChangeBounds extends Courts {
    @Boundary(promise = 1, says = "Creates a court without cases and witnesses; all sentences are 0.")
    static void anEmptyCourt() {
        CaseManager x = new CaseManager();
        Check.due("no cases", 0, x::caseCount);
        Check.due("no witnesses", 0, x::witnessCount);
        Check.due("no case 0", INDEX, () -> x.isOpen(0));
        Check.due("no witness 0", INDEX, () -> x.credibility(0));
        Check.due("no case in the docket", 0, x::docketLength);
        Check.due("no groups", 0, x::groupCount);
        for (int d = 0; d <= 5; d++) {
            int defendant = d;
            Check.due("sentence of " + d, 0, () -> x.sentence(defendant));
            Check.due("sentenceByCases of " + d, 0, () -> x.sentenceByCases(defendant));
        }
    }

    @Boundary(promise = 1, says = "Creates a court without cases and witnesses; all sentences are 0.")
    static void eachCourtIsItsOwn() {
        CaseManager busy = courtInAllPhases();
        busy.formatWitness(0);
        busy.save();
        run(busy, "x");
        run(busy, "charge 9 9");
        type(busy, "witness 1");
        CaseManager x = new CaseManager();
        Check.due("no cases", 0, x::caseCount);
        Check.due("no witnesses", 0, x::witnessCount);
        Check.due("sentence", 0, () -> x.sentence(0));
        Check.due("no decisions", 0, x::decisionCount);
        Check.due("no questions", 0, x::questionTotal);
        Check.due("no line", INDEX, () -> x.lineChar(0));
        Check.due("no changes", 0, x::undoableCount);
        Check.due("no copy", STATE, x::restore);
        Check.due("no error", ELEMENT, x::errorPosition);
        Check.due("no failure", ELEMENT, x::failedCommand);
        Check.due("no input", 1, () -> x.append('w'));
    }

    @Boundary(promise = 2, says = "Returns the number of the case.")
    static void numbersFrom0To15() {
        CaseManager x = new CaseManager();
        for (int i = 0; i < 16; i++) {
            int number = i;
            Check.due("case " + i, i, () -> x.charge(5 - number % 6, number % 5));
            Check.due("cases", i + 1, x::caseCount);
            Check.due("open", true, () -> x.isOpen(number));
        }
    }

    @Boundary(promise = 2, says = "Throws `IllegalArgumentException` if there is no such defendant or offence")
    static void chargeOfNoSuch() {
        noSuchDefendant((x, defendant) -> x.charge(defendant, 4));
        for (int offence : new int[] {LOWEST, -1, 5, 6, GREATEST}) {
            Check.due("offence " + offence, ARGUMENT, () -> courtOf(0).charge(5, offence));
        }
        for (int offence = 0; offence <= 4; offence++) {
            int number = offence;
            Check.due("offence " + offence, 0, () -> courtOf(0).charge(5, number));
        }
    }

    @Boundary(promise = 2, says = "there already is a case for this defendant and this offence")
    static void chargedAlready() {
        CaseManager x = new CaseManager();
        x.charge(5, 4);
        x.charge(0, 0);
        x.charge(5, 0);
        Check.due("the first", STATE, () -> x.charge(5, 4));
        Check.due("the last", STATE, () -> x.charge(5, 0));
        Check.due("the other of both", 3, () -> x.charge(0, 4));
        Check.due("four", 4, x::caseCount);
    }

    @Boundary(promise = 2, says = "or 16 cases have been opened")
    static void sixteenOpened() {
        CaseManager x = courtOf(15);
        Check.due("fifteen leave room", 15, () -> x.charge(5, 4));
        Check.due("sixteen do not", STATE, () -> x.charge(5, 3));
        Check.due("nor by a program", UNSUPPORTED, () -> run(x, "charge 5 2"));
        Check.due("sixteen", 16, x::caseCount);
    }

    @Boundary(promise = 3, says = "Returns the number of the witness.")
    static void numbersFrom0To7() {
        CaseManager x = new CaseManager();
        for (int i = 0; i < 8; i++) {
            int witness = i;
            Check.due("witness", witness, () -> x.addWitness(9 - witness));
            Check.due("witnesses", witness + 1, x::witnessCount);
        }
    }

    @Boundary(promise = 3, says = "- `credibility`: the credibility, 0 to 9")
    static void everyCredibility() {
        for (int c = 0; c <= 9; c++) {
            int credibility = c;
            CaseManager x = new CaseManager();
            Check.due("addWitness " + c, 0, () -> x.addWitness(credibility));
            Check.due("credibility", c, () -> x.credibility(0));
        }
    }

    @Boundary(promise = 3, says = "Throws `IllegalArgumentException` if the credibility is out of range")
    static void credibilityOutOfRange() {
        CaseManager x = new CaseManager();
        for (int credibility : new int[] {LOWEST, -2, -1, 10, 11, GREATEST}) {
            Check.due("credibility " + credibility, ARGUMENT, () -> x.addWitness(credibility));
        }
        Check.due("nobody was registered", 0, x::witnessCount);
    }

    @Boundary(promise = 3, says = "Throws `IllegalStateException` if 8 witnesses are registered")
    static void eightRegistered() {
        CaseManager x = courtOf(0, 0, 1, 2, 3, 4, 5, 6);
        Check.due("seven leave room", 7, () -> x.addWitness(0));
        Check.due("eight do not", STATE, () -> x.addWitness(0));
        Check.due("nor by a program", UNSUPPORTED, () -> run(x, "witness 9"));
        Check.due("eight", 8, x::witnessCount);
    }

    @Boundary(promise = 4, says = "Returns the number of testimonies of the case afterwards.")
    static void testimoniesFrom1To6() {
        CaseManager x = eightWitnesses();
        for (int i = 0; i < 6; i++) {
            int witness = i + 2;
            Check.due("testimony " + (i + 1), i + 1, () -> x.testify(15, witness, witness % 2 == 0, 1));
            Check.due("testimonyCount", i + 1, () -> x.testimonyCount(15));
        }
        Check.due("the first of another case", 1, () -> x.testify(0, 2, true, 1));
    }

    @Boundary(promise = 4, says = "Throws `IndexOutOfBoundsException` if there is no such case or witness")
    static void testimonyOfNoSuch() {
        noSuchCase((x, caseNumber) -> x.testify(caseNumber, 0, true, 1));
        noSuchWitness((x, witness) -> x.testify(0, witness, true, 1));
    }

    @Boundary(promise = 4, says = "Throws `IllegalArgumentException` if the strength is out of range")
    static void strengthOutOfRange() {
        CaseManager x = courtOf(1, 9);
        for (int strength : new int[] {LOWEST, -5, -1, 0, 6, 7, GREATEST}) {
            Check.due("prosecution, strength " + strength, ARGUMENT, () -> x.testify(0, 0, true, strength));
            Check.due("defence, strength " + strength, ARGUMENT, () -> x.testify(0, 0, false, strength));
        }
        Check.due("nobody was heard", 0, () -> x.testimonyCount(0));
    }

    @Boundary(promise = 4, says = "- `strength`: the strength, 1 to 5")
    static void everyStrength() {
        CaseManager x = courtOf(5, 2);
        for (int i = 0; i < 5; i++) {
            int strength = i + 1;
            Check.due("strength " + strength, 1, () -> x.testify(strength - 1, 0, true, strength));
            Check.due("weight", 2 * strength, () -> x.prosecutionWeight(strength - 1));
        }
    }

    @Boundary(promise = 4, says = "Throws `IllegalStateException` if the case is not open")
    static void testimonyInACaseThatIsNotOpen() {
        CaseManager x = courtInAllPhases();
        Check.due("open", 3, () -> x.testify(0, 2, true, 1));
        Check.due("decided", STATE, () -> x.testify(1, 2, true, 1));
        Check.due("closed", STATE, () -> x.testify(2, 2, true, 1));
        x.appeal(1);
        Check.due("appealed", 2, () -> x.testify(1, 2, true, 1));
    }

    @Boundary(promise = 4, says = "the witness has already testified in it")
    static void testifiedAlready() {
        CaseManager x = courtOf(2, 5, 5, 5);
        x.testify(0, 0, true, 1);
        x.testify(0, 1, true, 1);
        x.testify(0, 2, false, 1);
        for (int i = 0; i < 3; i++) {
            int witness = i;
            Check.due("prosecution " + i, STATE, () -> x.testify(0, witness, true, 5));
            Check.due("defence " + i, STATE, () -> x.testify(0, witness, false, 5));
            Check.due("another case", witness + 1, () -> x.testify(1, witness, true, 5));
        }
        x.undo();
        Check.due("a testimony that was undone", 3, () -> x.testify(1, 2, false, 5));
    }

    @Boundary(promise = 4, says = "or it has 6 testimonies")
    static void sixTestified() {
        CaseManager x = eightWitnesses();
        for (int witness = 0; witness < 5; witness++) {
            x.testify(0, witness, true, 1);
        }
        Check.due("five leave room", 6, () -> x.testify(0, 5, true, 1));
        Check.due("six do not", STATE, () -> x.testify(0, 6, true, 1));
        Check.due("nor for the defence", STATE, () -> x.testify(0, 7, false, 1));
        Check.due("nor by a program", UNSUPPORTED, () -> run(x, "testify 0 6+1"));
    }

    @Boundary(promise = 5, says = "Returns the credibility of the witness afterwards.")
    static void credibilityAfterAQuestion() {
        CaseManager x = courtOf(3, 8, 1);
        x.testify(0, 0, true, 1);
        x.testify(1, 0, true, 1);
        x.testify(0, 1, true, 1);
        x.testify(1, 1, true, 1);
        Check.due("8 and 1", 9, () -> x.question(0, 0, true));
        Check.due("9 stays", 9, () -> x.question(0, 0, true));
        Check.due("9 less 2", 7, () -> x.question(1, 0, false));
        Check.due("1 less 2 is 0", 0, () -> x.question(0, 1, false));
        Check.due("0 stays", 0, () -> x.question(0, 1, false));
        Check.due("0 and 1", 1, () -> x.question(1, 1, true));
    }

    @Boundary(promise = 5, says = "Throws `IndexOutOfBoundsException` if there is no such case or witness")
    static void questionOfNoSuch() {
        noSuchCase((x, caseNumber) -> x.question(caseNumber, 0, true));
        noSuchWitness((x, witness) -> x.question(0, witness, false));
    }

    @Boundary(promise = 5, says = "Throws `NoSuchElementException` if the witness has not testified in the case")
    static void questionWithoutTestimony() {
        CaseManager x = courtOf(2, 5, 5);
        Check.due("nobody testified", ELEMENT, () -> x.question(0, 0, true));
        x.testify(0, 0, true, 1);
        Check.due("another witness testified", ELEMENT, () -> x.question(0, 1, true));
        Check.due("in another case", ELEMENT, () -> x.question(1, 0, true));
        Check.due("testified", 6, () -> x.question(0, 0, true));
        x.undo();
        x.undo();
        Check.due("the testimony was undone", ELEMENT, () -> x.question(0, 0, true));
    }

    @Boundary(promise = 5, says = "Throws `IllegalStateException` if the case is not open")
    static void questionInACaseThatIsNotOpen() {
        CaseManager x = courtInAllPhases();
        Check.due("decided", STATE, () -> x.question(1, 1, true));
        Check.due("closed", STATE, () -> x.question(2, 1, true));
        Check.due("no question was counted", 0, () -> x.questionCount(1, 1));
        x.appeal(1);
        Check.due("appealed", 7, () -> x.question(1, 1, false));
    }

    @Boundary(promise = 5, says = "or the testimony has been questioned twice")
    static void questionedTwice() {
        CaseManager x = courtOf(1, 5, 5);
        x.testify(0, 0, true, 1);
        x.testify(0, 1, false, 1);
        Check.due("the first", 6, () -> x.question(0, 0, true));
        Check.due("the second", 4, () -> x.question(0, 0, false));
        Check.due("a third, firm", STATE, () -> x.question(0, 0, true));
        Check.due("a third, weak", STATE, () -> x.question(0, 0, false));
        Check.due("nor by a program", UNSUPPORTED, () -> run(x, "question 0 0!"));
        Check.due("the other testimony", 3, () -> x.question(0, 1, false));
        Check.due("the other testimony", 1, () -> x.question(0, 1, false));
        Check.due("the other testimony, a third", STATE, () -> x.question(0, 1, true));
    }

    @Boundary(promise = 6, says = "Returns true if the verdict is guilty.")
    static void verdictsOfAMarginOf0And1() {
        CaseManager x = courtOf(2, 2, 5, 1);
        x.testify(0, 0, true, 1);
        Check.due("2 against 0 and 2", false, () -> x.decide(0));
        x.testify(1, 1, true, 1);
        Check.due("5 against 0 and 4", true, () -> x.decide(1));
        x.appeal(1);
        x.testify(1, 2, false, 1);
        Check.due("5 against 1 and 4", false, () -> x.decide(1));
    }

    @Boundary(promise = 6, says = "Throws `IndexOutOfBoundsException` if there is no such case")
    static void decisionOfNoSuch() {
        noSuchCase((x, caseNumber) -> x.decide(caseNumber));
    }

    @Boundary(promise = 6, says = "Throws `IllegalStateException` if the case is not open")
    static void decisionOfACaseThatIsNotOpen() {
        CaseManager x = courtInAllPhases();
        Check.due("decided", STATE, () -> x.decide(1));
        Check.due("closed", STATE, () -> x.decide(2));
        x.close(1);
        Check.due("closed when guilty", STATE, () -> x.decide(1));
        appealTwice(x, 0);
        x.decide(0);
        Check.due("closed by its decision", STATE, () -> x.decide(0));
        Check.due("five decisions", 5, x::decisionCount);
    }

    @Boundary(promise = 6, says = "or no witness has testified in it")
    static void decisionWithoutTestimony() {
        CaseManager x = courtOf(2, 9);
        Check.due("none", STATE, () -> x.decide(0));
        x.testify(1, 0, true, 5);
        Check.due("one in another case", STATE, () -> x.decide(0));
        x.undo();
        Check.due("one that was undone", STATE, () -> x.decide(1));
        Check.due("no decisions", 0, x::decisionCount);
    }

    @Boundary(promise = 7, says = "Returns how many times the case has been appealed, this time included.")
    static void firstAndSecondAppeal() {
        CaseManager x = courtOf(2, 9);
        x.testify(0, 0, true, 5);
        x.testify(1, 0, false, 5);
        x.decide(0);
        x.decide(1);
        Check.due("the first", 1, () -> x.appeal(0));
        x.decide(0);
        Check.due("the second", 2, () -> x.appeal(0));
        Check.due("the first of another case", 1, () -> x.appeal(1));
    }

    @Boundary(promise = 7, says = "Throws `IndexOutOfBoundsException` if there is no such case")
    static void appealOfNoSuch() {
        noSuchCase((x, caseNumber) -> x.appeal(caseNumber));
    }

    @Boundary(promise = 7, says = "Throws `IllegalStateException` if the case is not decided")
    static void appealOfACaseThatIsNotDecided() {
        CaseManager x = courtInAllPhases();
        Check.due("open", STATE, () -> x.appeal(0));
        Check.due("closed", STATE, () -> x.appeal(2));
        Check.due("decided", 1, () -> x.appeal(1));
        Check.due("appealed already", STATE, () -> x.appeal(1));
        appealTwice(x, 0);
        x.decide(0);
        Check.due("closed by its decision", STATE, () -> x.appeal(0));
        Check.due("never appealed", 0, () -> x.appealCount(2));
    }

    @Boundary(promise = 8, says = "Returns the number of closed cases afterwards.")
    static void closedCasesFrom1To16() {
        CaseManager x = courtOf(16, 9);
        for (int i = 0; i < 16; i++) {
            x.testify(i, 0, true, 5);
            x.decide(i);
        }
        for (int i = 0; i < 15; i++) {
            int caseNumber = 14 - i;
            Check.due("closed", i + 1, () -> x.close(caseNumber));
        }
        Check.due("all", 16, () -> x.close(15));
        CaseManager y = courtOf(2, 9);
        y.testify(0, 0, true, 5);
        appealTwice(y, 0);
        y.decide(0);
        y.testify(1, 0, true, 5);
        y.decide(1);
        Check.due("with the one that its decision closed", 2, () -> y.close(1));
    }

    @Boundary(promise = 8, says = "Throws `IndexOutOfBoundsException` if there is no such case")
    static void closingOfNoSuch() {
        noSuchCase((x, caseNumber) -> x.close(caseNumber));
    }

    @Boundary(promise = 8, says = "Throws `IllegalStateException` if the case is not decided")
    static void closingOfACaseThatIsNotDecided() {
        CaseManager x = courtInAllPhases();
        Check.due("open", STATE, () -> x.close(0));
        Check.due("closed", STATE, () -> x.close(2));
        x.appeal(1);
        Check.due("appealed", STATE, () -> x.close(1));
        appealTwice(x, 0);
        x.decide(0);
        Check.due("closed by its decision", STATE, () -> x.close(0));
        x.decide(1);
        Check.due("decided", 3, () -> x.close(1));
    }
}
