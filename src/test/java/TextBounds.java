/** The sentences of promises 53 to 55 that name a boundary case. */
final class TextBounds extends Courts {
    private static void caseLine(CaseManager x, int caseNumber, String want) {
        Check.due("length of \"" + want + "\"", want.length(), () -> x.formatCase(caseNumber));
        Check.due("case " + caseNumber, want, () -> lineOf(x, want.length()));
    }

    private static void witnessLine(CaseManager x, int witness, String want) {
        Check.due("length of \"" + want + "\"", want.length(), () -> x.formatWitness(witness));
        Check.due("witness " + witness, want, () -> lineOf(x, want.length()));
    }

    @Boundary(promise = 53, says = "Throws `IndexOutOfBoundsException` if there is no such case")
    static void formatOfNoSuchCase() {
        noSuchCase(CaseManager::formatCase);
    }

    @Boundary(promise = 53, says = "An example is \"3:1/4g. +0*5 -2*1\".")
    static void theExampleOfACase() {
        CaseManager x = new CaseManager();
        x.charge(0, 0);
        x.charge(5, 4);
        x.charge(1, 3);
        x.charge(1, 4);
        x.addWitness(9);
        x.addWitness(0);
        x.addWitness(2);
        x.testify(3, 0, true, 5);
        x.testify(3, 2, false, 1);
        caseLine(x, 3, "3:1/4o +0*5 -2*1");
        x.decide(3);
        caseLine(x, 3, "3:1/4g +0*5 -2*1");
        x.close(3);
        caseLine(x, 3, "3:1/4g. +0*5 -2*1");
    }

    @Boundary(promise = 53, says = "and \"o\" if the case is open, \"g\" if its verdict is guilty or \"n\" if it is "
        + "not guilty, followed by \".\" if the case is closed")
    static void signsOfThePhases() {
        CaseManager x = courtOf(3, 9);
        caseLine(x, 0, "0:0/0o");
        x.testify(0, 0, true, 5);
        x.testify(2, 0, false, 3);
        caseLine(x, 0, "0:0/0o +0*5");
        x.decide(0);
        x.decide(2);
        caseLine(x, 0, "0:0/0g +0*5");
        caseLine(x, 2, "2:0/2n -0*3");
        x.appeal(0);
        caseLine(x, 0, "0:0/0o +0*5");
        x.close(2);
        caseLine(x, 2, "2:0/2n. -0*3");
        x.decide(0);
        x.appeal(0);
        caseLine(x, 0, "0:0/0o +0*5");
        x.decide(0);
        caseLine(x, 0, "0:0/0g. +0*5");
    }

    @Boundary(promise = 53, says = "for each testimony in the order in which the witnesses testified, a blank, \"+\" "
        + "for the prosecution or \"-\" for the defence, the witness, \"*\" and the strength.")
    static void noneToSixTestimonies() {
        CaseManager x = eightWitnesses();
        caseLine(x, 9, "9:1/4o");
        caseLine(x, 10, "10:2/0o");
        caseLine(x, 15, "15:3/0o");
        x.testify(15, 7, false, 1);
        caseLine(x, 15, "15:3/0o -7*1");
        x.testify(15, 0, true, 5);
        x.testify(15, 5, true, 2);
        x.testify(15, 1, false, 3);
        x.testify(15, 6, true, 4);
        x.testify(15, 3, true, 5);
        caseLine(x, 15, "15:3/0o -7*1 +0*5 +5*2 -1*3 +6*4 +3*5");
        appealTwice(x, 15);
        x.decide(15);
        caseLine(x, 15, "15:3/0g. -7*1 +0*5 +5*2 -1*3 +6*4 +3*5");
        caseLine(x, 14, "14:2/4o");
    }

    @Boundary(promise = 53, says = "Formats a case into the line, replacing the previous line")
    static void aShorterLineReplacesALonger() {
        CaseManager x = courtOf(2, 9, 8);
        x.testify(0, 0, true, 5);
        x.testify(0, 1, false, 4);
        caseLine(x, 0, "0:0/0o +0*5 -1*4");
        caseLine(x, 1, "1:0/1o");
        Check.due("nothing of the longer line", INDEX, () -> x.lineChar(7));
        witnessLine(x, 1, "w1=8");
        caseLine(x, 1, "1:0/1o");
    }

    @Boundary(promise = 54, says = "Throws `IndexOutOfBoundsException` if there is no such witness")
    static void formatOfNoSuchWitness() {
        noSuchWitness(CaseManager::formatWitness);
    }

    @Boundary(promise = 54, says = "An example is \"w2=7\".")
    static void theExampleOfAWitness() {
        CaseManager x = courtOf(1, 0, 9, 7);
        witnessLine(x, 2, "w2=7");
        witnessLine(x, 0, "w0=0");
        witnessLine(x, 1, "w1=9");
        x.testify(0, 2, true, 1);
        x.question(0, 2, true);
        witnessLine(x, 2, "w2=8");
        witnessLine(eightWitnesses(), 7, "w7=5");
    }

    @Boundary(promise = 54, says = "Formats a witness into the line, replacing the previous line")
    static void aWitnessReplacesACase() {
        CaseManager x = courtOf(1, 3);
        caseLine(x, 0, "0:0/0o");
        witnessLine(x, 0, "w0=3");
        Check.due("nothing of the longer line", INDEX, () -> x.lineChar(4));
        Check.due("nothing of the longer line", INDEX, () -> x.lineChar(5));
    }

    @Boundary(promise = 55, says = "Returns a character of the line, which is empty at first.")
    static void anEmptyLineAtFirst() {
        CaseManager x = courtOf(1, 3);
        Check.due("index 0", INDEX, () -> x.lineChar(0));
        Check.due("index -1", INDEX, () -> x.lineChar(-1));
        Check.answerOf(() -> x.formatCase(1));
        Check.answerOf(() -> x.formatWitness(1));
        Check.due("after refused calls", INDEX, () -> x.lineChar(0));
        x.formatWitness(0);
        Check.due("index 0 of a line", 'w', () -> x.lineChar(0));
    }

    @Boundary(promise = 55, says = "Throws `IndexOutOfBoundsException` if the index is negative or not less than the "
        + "length of the line")
    static void indexesOfTheLine() {
        CaseManager x = courtOf(1, 3);
        x.formatWitness(0);
        Check.due("index 0", 'w', () -> x.lineChar(0));
        Check.due("the last index", '3', () -> x.lineChar(3));
        for (int index : new int[] {LOWEST, -4, -1, 4, 5, 60, GREATEST}) {
            Check.due("index " + index, INDEX, () -> x.lineChar(index));
        }
        x.formatCase(0);
        Check.due("the last index", 'o', () -> x.lineChar(5));
        Check.due("the length", INDEX, () -> x.lineChar(6));
    }

    @Boundary(promise = {53, 54, 55}, says = "A method that throws an exception leaves the court unchanged, unless its "
        + "description says otherwise.")
    static void refusedCallsLeaveTheLine() {
        CaseManager x = courtOf(1, 3);
        x.formatWitness(0);
        Check.due("formatCase", INDEX, () -> x.formatCase(1));
        Check.due("formatWitness", INDEX, () -> x.formatWitness(1));
        Check.due("lineChar", INDEX, () -> x.lineChar(4));
        Check.due("testify", INDEX, () -> x.testify(1, 0, true, 1));
        Check.due("run", ARGUMENT, x::run);
        Check.due("undo", 1, x::undo);
        Check.due("the line", "w0=3", () -> lineOf(x, 4));
    }
}
