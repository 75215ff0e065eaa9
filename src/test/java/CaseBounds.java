/** The sentences of promises 9 to 23 that name a boundary case. */
final class CaseBounds extends Courts {
    @Boundary(promise = 9, says = "Returns the number of cases that have been opened.")
    static void casesFrom0To16() {
        CaseManager x = new CaseManager();
        Check.due("none", 0, x::caseCount);
        Check.answerOf(() -> x.charge(6, 0));
        Check.due("none by a refused charge", 0, x::caseCount);
        for (int i = 0; i < 16; i++) {
            x.charge(i % 6, i % 5);
            Check.due("cases", i + 1, x::caseCount);
        }
        Check.answerOf(() -> x.charge(1, 0));
        Check.due("no more by a refused charge", 16, x::caseCount);
        x.addWitness(9);
        x.testify(0, 0, true, 5);
        x.decide(0);
        x.close(0);
        Check.due("closed cases have been opened", 16, x::caseCount);
    }

    @Boundary(promise = 10, says = "Returns the number of the case.")
    static void firstAndLastCase() {
        CaseManager x = new CaseManager();
        for (int i = 0; i < 16; i++) {
            x.charge(5 - i / 5, 4 - i % 5);
        }
        for (int i = 0; i < 16; i++) {
            int number = i;
            Check.due("case " + i, i, () -> x.caseOf(5 - number / 5, 4 - number % 5));
        }
    }

    @Boundary(promise = 10, says = "Throws `IllegalArgumentException` if there is no such defendant or offence")
    static void caseOfNoSuch() {
        noSuchDefendant((x, defendant) -> x.caseOf(defendant, 0));
        for (int offence : new int[] {LOWEST, -1, 5, 6, GREATEST}) {
            Check.due("offence " + offence, ARGUMENT, () -> courtInAllPhases().caseOf(0, offence));
        }
        Check.due("offence 4", ELEMENT, () -> courtInAllPhases().caseOf(0, 4));
        Check.due("offence 0", 0, () -> courtInAllPhases().caseOf(0, 0));
    }

    @Boundary(promise = 10, says = "Throws `NoSuchElementException` if there is no such case")
    static void noCaseForThese() {
        CaseManager x = new CaseManager();
        Check.due("no cases", ELEMENT, () -> x.caseOf(0, 0));
        x.charge(3, 2);
        x.charge(1, 4);
        Check.due("another offence", ELEMENT, () -> x.caseOf(3, 4));
        Check.due("another defendant", ELEMENT, () -> x.caseOf(1, 2));
        Check.due("there is one", 1, () -> x.caseOf(1, 4));
        x.undo();
        Check.due("it was undone", ELEMENT, () -> x.caseOf(1, 4));
        CaseManager full = courtOf(16);
        Check.due("none of sixteen", ELEMENT, () -> full.caseOf(3, 1));
    }

    @Boundary(promise = 11, says = "Returns the defendant of a case.")
    static void defendantsOfFirstAndLastCase() {
        CaseManager x = courtOf(15);
        x.charge(5, 4);
        Check.due("the first", 0, () -> x.defendantOf(0));
        Check.due("the one before the last", 2, () -> x.defendantOf(14));
        Check.due("the last", 5, () -> x.defendantOf(15));
    }

    @Boundary(promise = 12, says = "Returns the offence of a case.")
    static void offencesOfFirstAndLastCase() {
        CaseManager x = courtOf(15);
        x.charge(5, 3);
        Check.due("the first", 0, () -> x.offenceOf(0));
        Check.due("the one before the last", 4, () -> x.offenceOf(14));
        Check.due("the last", 3, () -> x.offenceOf(15));
    }

    @Boundary(promise = 11, says = "Throws `IndexOutOfBoundsException` if there is no such case")
    static void defendantOfNoSuch() {
        noSuchCase(CaseManager::defendantOf);
    }

    @Boundary(promise = 12, says = "Throws `IndexOutOfBoundsException` if there is no such case")
    static void offenceOfNoSuch() {
        noSuchCase(CaseManager::offenceOf);
    }

    @Boundary(promise = 13, says = "Throws `IndexOutOfBoundsException` if there is no such case")
    static void isOpenOfNoSuch() {
        noSuchCase(CaseManager::isOpen);
    }

    @Boundary(promise = 13, says = "Returns true if it is open.")
    static void openBeforeAndAfter() {
        CaseManager x = courtOf(1, 9);
        Check.due("charged", true, () -> x.isOpen(0));
        x.testify(0, 0, true, 5);
        x.decide(0);
        Check.due("decided", false, () -> x.isOpen(0));
        x.appeal(0);
        Check.due("appealed", true, () -> x.isOpen(0));
        x.decide(0);
        x.close(0);
        Check.due("closed", false, () -> x.isOpen(0));
    }

    @Boundary(promise = 14, says = "Throws `IndexOutOfBoundsException` if there is no such case")
    static void isDecidedOfNoSuch() {
        noSuchCase(CaseManager::isDecided);
    }

    @Boundary(promise = 14, says = "Returns whether a case is decided but not closed.")
    static void decidedButNotClosed() {
        CaseManager x = courtOf(2, 9);
        x.testify(0, 0, true, 5);
        Check.due("open", false, () -> x.isDecided(0));
        x.decide(0);
        Check.due("decided", true, () -> x.isDecided(0));
        x.close(0);
        Check.due("closed", false, () -> x.isDecided(0));
        x.testify(1, 0, true, 5);
        appealTwice(x, 1);
        Check.due("appealed twice", false, () -> x.isDecided(1));
        x.decide(1);
        Check.due("closed by its decision", false, () -> x.isDecided(1));
    }

    @Boundary(promise = 15, says = "Throws `IndexOutOfBoundsException` if there is no such case")
    static void isClosedOfNoSuch() {
        noSuchCase(CaseManager::isClosed);
    }

    @Boundary(promise = 15, says = "Returns true if it is closed.")
    static void closedEitherWay() {
        CaseManager x = courtOf(2, 9);
        x.testify(0, 0, true, 5);
        x.testify(1, 0, true, 5);
        Check.due("open", false, () -> x.isClosed(0));
        x.decide(0);
        Check.due("decided", false, () -> x.isClosed(0));
        x.close(0);
        Check.due("closed", true, () -> x.isClosed(0));
        appealTwice(x, 1);
        Check.due("appealed twice", false, () -> x.isClosed(1));
        x.decide(1);
        Check.due("closed by its decision", true, () -> x.isClosed(1));
        x.undo();
        Check.due("the decision was undone", false, () -> x.isClosed(1));
    }

    @Boundary(promise = 16, says = "Throws `IndexOutOfBoundsException` if there is no such case")
    static void isGuiltyOfNoSuch() {
        noSuchCase(CaseManager::isGuilty);
    }

    @Boundary(promise = 16, says = "Throws `IllegalStateException` if the case is open")
    static void isGuiltyOfAnOpenCase() {
        CaseManager x = courtInAllPhases();
        Check.due("open", STATE, () -> x.isGuilty(0));
        Check.due("decided", true, () -> x.isGuilty(1));
        Check.due("closed", false, () -> x.isGuilty(2));
        x.appeal(1);
        Check.due("appealed", STATE, () -> x.isGuilty(1));
        x.question(1, 1, false);
        x.question(1, 1, false);
        x.decide(1);
        Check.due("guilty again", true, () -> x.isGuilty(1));
        x.close(1);
        Check.due("guilty and closed", true, () -> x.isGuilty(1));
    }

    @Boundary(promise = 17, says = "Throws `IndexOutOfBoundsException` if there is no such case")
    static void appealCountOfNoSuch() {
        noSuchCase(CaseManager::appealCount);
    }

    @Boundary(promise = 17, says = "Returns the number of times, 0 to 2.")
    static void appealsFrom0To2() {
        CaseManager x = courtOf(2, 9);
        x.testify(1, 0, true, 5);
        Check.due("charged", 0, () -> x.appealCount(1));
        x.decide(1);
        Check.due("decided", 0, () -> x.appealCount(1));
        x.appeal(1);
        Check.due("appealed", 1, () -> x.appealCount(1));
        x.decide(1);
        Check.due("decided again", 1, () -> x.appealCount(1));
        x.appeal(1);
        x.decide(1);
        Check.answerOf(() -> x.appeal(1));
        Check.due("never more than 2", 2, () -> x.appealCount(1));
        Check.due("another case", 0, () -> x.appealCount(0));
        x.undo();
        x.undo();
        Check.due("an appeal was undone", 1, () -> x.appealCount(1));
    }

    @Boundary(promise = 18, says = "Throws `IndexOutOfBoundsException` if there is no such case")
    static void testimonyCountOfNoSuch() {
        noSuchCase(CaseManager::testimonyCount);
    }

    @Boundary(promise = 18, says = "Returns the number of testimonies of a case.")
    static void testimoniesFrom0To6() {
        CaseManager x = eightWitnesses();
        Check.due("none", 0, () -> x.testimonyCount(15));
        for (int i = 0; i < 6; i++) {
            x.testify(15, i, true, 1);
            Check.due("testimonies", i + 1, () -> x.testimonyCount(15));
        }
        Check.answerOf(() -> x.testify(15, 6, true, 1));
        Check.due("none by a refused testimony", 6, () -> x.testimonyCount(15));
        Check.due("none in the case before", 0, () -> x.testimonyCount(14));
    }

    @Boundary(promise = 19, says = "Throws `IndexOutOfBoundsException` if there is no such case")
    static void witnessAtOfNoSuch() {
        noSuchCase((x, caseNumber) -> x.witnessAt(caseNumber, 0));
    }

    @Boundary(promise = 19, says = "- `position`: the position, starting at 0")
    static void firstAndLastPosition() {
        CaseManager x = eightWitnesses();
        int[] order = {7, 2, 5, 0, 6, 3};
        for (int witness : order) {
            x.testify(15, witness, true, 1);
        }
        for (int i = 0; i < 6; i++) {
            int position = i;
            Check.due("position " + i, order[i], () -> x.witnessAt(15, position));
        }
    }

    @Boundary(promise = 19, says = "Throws `NoSuchElementException` if the case has no such testimony")
    static void noSuchTestimony() {
        CaseManager x = eightWitnesses();
        x.testify(1, 7, true, 1);
        Check.due("position 0 of none", ELEMENT, () -> x.witnessAt(0, 0));
        Check.due("position -1", ELEMENT, () -> x.witnessAt(1, -1));
        Check.due("position 0 of one", 7, () -> x.witnessAt(1, 0));
        Check.due("position 1 of one", ELEMENT, () -> x.witnessAt(1, 1));
        for (int witness = 0; witness < 6; witness++) {
            x.testify(2, witness, true, 1);
        }
        Check.due("position 5 of six", 5, () -> x.witnessAt(2, 5));
        for (int position : new int[] {LOWEST, -6, -1, 6, 7, GREATEST}) {
            Check.due("position " + position + " of six", ELEMENT, () -> x.witnessAt(2, position));
        }
        x.undo();
        Check.due("a testimony that was undone", ELEMENT, () -> x.witnessAt(2, 5));
    }

    @Boundary(promise = 20, says = "Throws `IndexOutOfBoundsException` if there is no such case or witness")
    static void hasTestifiedOfNoSuch() {
        noSuchCase((x, caseNumber) -> x.hasTestified(caseNumber, 0));
        noSuchWitness((x, witness) -> x.hasTestified(0, witness));
    }

    @Boundary(promise = 20, says = "Returns true if this is so.")
    static void testifiedInThisCase() {
        CaseManager x = eightWitnesses();
        Check.due("nobody testified", false, () -> x.hasTestified(15, 7));
        x.testify(15, 7, false, 1);
        x.testify(14, 0, true, 1);
        Check.due("the defence counts too", true, () -> x.hasTestified(15, 7));
        Check.due("credibility 0 counts too", true, () -> x.hasTestified(14, 0));
        Check.due("another case", false, () -> x.hasTestified(14, 7));
        Check.due("another witness", false, () -> x.hasTestified(15, 0));
        x.decide(15);
        x.close(15);
        Check.due("in a closed case too", true, () -> x.hasTestified(15, 7));
    }

    /** Each of eight witnesses testifies in case 0 or 1, and in case 14 or 15 on the other side. */
    private static CaseManager heardAtTheCorners() {
        CaseManager x = eightWitnesses();
        for (int witness = 0; witness < 8; witness++) {
            x.testify(witness / 4, witness, witness % 3 == 0, 1 + witness % 5);
            x.testify(15 - witness / 4, witness, witness % 3 != 0, 5 - witness % 5);
        }
        return x;
    }

    @Boundary(promise = 21, says = "Returns true if it is, false if it is for the defence.")
    static void sidesAtTheCorners() {
        CaseManager x = heardAtTheCorners();
        for (int i = 0; i < 8; i++) {
            int witness = i;
            Check.due("one of the first cases, " + i, i % 3 == 0, () -> x.isForProsecution(witness / 4, witness));
            Check.due("one of the last cases, " + i, i % 3 != 0, () -> x.isForProsecution(15 - witness / 4, witness));
        }
    }

    @Boundary(promise = 22, says = "Returns the strength of the testimony of a witness.")
    static void strengthsAtTheCorners() {
        CaseManager x = heardAtTheCorners();
        for (int i = 0; i < 8; i++) {
            int witness = i;
            Check.due("one of the first cases, " + i, 1 + i % 5, () -> x.strength(witness / 4, witness));
            Check.due("one of the last cases, " + i, 5 - i % 5, () -> x.strength(15 - witness / 4, witness));
        }
    }

    @Boundary(promise = 21, says = "Throws `IndexOutOfBoundsException` if there is no such case or witness")
    static void isForProsecutionOfNoSuch() {
        noSuchCase((x, caseNumber) -> x.isForProsecution(caseNumber, 0));
        noSuchWitness((x, witness) -> x.isForProsecution(0, witness));
    }

    @Boundary(promise = 21, says = "Throws `NoSuchElementException` if the witness has not testified in the case")
    static void isForProsecutionWithoutTestimony() {
        withoutTestimony(CaseManager::isForProsecution, true);
    }

    @Boundary(promise = 22, says = "Throws `IndexOutOfBoundsException` if there is no such case or witness")
    static void strengthOfNoSuch() {
        noSuchCase((x, caseNumber) -> x.strength(caseNumber, 0));
        noSuchWitness((x, witness) -> x.strength(0, witness));
    }

    @Boundary(promise = 22, says = "Throws `NoSuchElementException` if the witness has not testified in the case")
    static void strengthWithoutTestimony() {
        withoutTestimony(CaseManager::strength, 2);
    }

    @Boundary(promise = 23, says = "Throws `IndexOutOfBoundsException` if there is no such case or witness")
    static void questionCountOfNoSuch() {
        noSuchCase((x, caseNumber) -> x.questionCount(caseNumber, 0));
        noSuchWitness((x, witness) -> x.questionCount(0, witness));
    }

    @Boundary(promise = 23, says = "Throws `NoSuchElementException` if the witness has not testified in the case")
    static void questionCountWithoutTestimony() {
        withoutTestimony(CaseManager::questionCount, 0);
    }

    /** Witness 1 testifies in case 1 for the prosecution with strength 2. */
    private static void withoutTestimony(WithTwo call, Object want) {
        CaseManager x = courtOf(3, 5, 5, 5);
        Check.due("nobody testified", ELEMENT, () -> call.answer(x, 1, 1));
        x.testify(1, 1, true, 2);
        Check.due("testified", want, () -> call.answer(x, 1, 1));
        Check.due("another witness", ELEMENT, () -> call.answer(x, 1, 0));
        Check.due("the last witness", ELEMENT, () -> call.answer(x, 1, 2));
        Check.due("another case", ELEMENT, () -> call.answer(x, 0, 1));
        Check.due("the last case", ELEMENT, () -> call.answer(x, 2, 1));
        x.undo();
        Check.due("the testimony was undone", ELEMENT, () -> call.answer(x, 1, 1));
    }

    @Boundary(promise = 23, says = "Returns the number of times, 0 to 2.")
    static void questionsFrom0To2() {
        CaseManager x = courtOf(2, 5, 9);
        x.testify(0, 0, true, 1);
        x.testify(1, 0, true, 1);
        x.testify(1, 1, true, 1);
        Check.due("none", 0, () -> x.questionCount(1, 0));
        x.question(1, 0, true);
        Check.due("one", 1, () -> x.questionCount(1, 0));
        x.question(1, 0, false);
        Check.due("two", 2, () -> x.questionCount(1, 0));
        Check.answerOf(() -> x.question(1, 0, true));
        Check.due("never more", 2, () -> x.questionCount(1, 0));
        Check.due("of another case", 0, () -> x.questionCount(0, 0));
        Check.due("of another witness", 0, () -> x.questionCount(1, 1));
        x.decide(1);
        x.appeal(1);
        Check.due("an appeal leaves them", 2, () -> x.questionCount(1, 0));
    }
}
