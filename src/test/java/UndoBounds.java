/** The sentences of promises 61 to 64, and on changes in the terms, that name a boundary case. */
final class UndoBounds extends Courts {
    @Boundary(promise = {61, 62}, says = "The calls of the methods to which commands correspond, and of run, that "
        + "return normally are changes, even if they have no effect.")
    static void allKindsOfChanges() {
        CaseManager x = new CaseManager();
        x.charge(0, 0);
        changes(x, 1);
        x.addWitness(9);
        changes(x, 2);
        x.testify(0, 0, true, 5);
        changes(x, 3);
        x.question(0, 0, true);
        changes(x, 4);
        x.decide(0);
        changes(x, 5);
        x.appeal(0);
        changes(x, 6);
        run(x, "decide 0;charge 1 1;witness 3");
        changes(x, 7);
        x.close(0);
        changes(x, 8);
    }

    private static void changes(CaseManager x, int want) {
        Check.due("undoableCount", want, x::undoableCount);
    }

    @Boundary(promise = {61, 62}, says = "even if they have no effect.")
    static void changesWithoutEffect() {
        CaseManager x = courtOf(1, 9, 0);
        x.testify(0, 0, true, 5);
        x.testify(0, 1, false, 5);
        changes(x, 5);
        x.question(0, 0, true);
        changes(x, 6);
        x.question(0, 1, false);
        changes(x, 7);
        Check.due("undone alone", 6, x::undo);
        Check.due("the other question stays", 1, () -> x.questionCount(0, 0));
        Check.due("it was undone", 0, () -> x.questionCount(0, 1));
        run(x, "question 0 1?");
        changes(x, 7);
    }

    @Boundary(promise = {61, 62}, says = "that return normally are changes")
    static void whatIsNoChange() {
        CaseManager x = courtOf(1, 9);
        changes(x, 2);
        Check.answerOf(() -> x.charge(0, 0));
        Check.answerOf(() -> x.addWitness(10));
        Check.answerOf(() -> x.testify(0, 0, true, 0));
        Check.answerOf(() -> x.question(0, 0, true));
        Check.answerOf(() -> x.decide(0));
        Check.answerOf(() -> x.appeal(0));
        Check.answerOf(() -> x.close(0));
        changes(x, 2);
        run(x, "witness 1;decide 0");
        run(x, "witness 1;");
        Check.answerOf(x::run);
        changes(x, 2);
        x.append('w');
        x.save();
        x.formatCase(0);
        x.formatWitness(0);
        x.lineChar(0);
        x.isConsistent();
        x.docketAt(0);
        Check.answerOf(x::errorPosition);
        Check.answerOf(x::failedCommand);
        changes(x, 2);
        Check.due("undo is no change", 1, x::undo);
        changes(x, 1);
        Check.due("undo of the charge", 0, x::undo);
        changes(x, 0);
    }

    @Boundary(promise = {61, 62}, says = "Up to 8 changes can be undone, the latest change first.")
    static void eightOfMany() {
        for (int many = 7; many <= 16; many++) {
            CaseManager x = courtOf(many);
            int kept = Math.min(8, many);
            changes(x, kept);
            for (int undone = 1; undone <= kept; undone++) {
                int left = kept - undone;
                int cases = many - undone;
                Check.due("undo " + undone + " of " + many, left, x::undo);
                Check.due("the latest first", cases, x::caseCount);
                changes(x, left);
            }
            Check.due("no more of " + many, STATE, x::undo);
            Check.due("the rest stays", many - kept, x::caseCount);
        }
    }

    @Boundary(promise = {61, 62}, says = "Up to 8 changes can be undone, the latest change first.")
    static void newChangesAfterUndo() {
        CaseManager x = courtOf(10);
        for (int i = 0; i < 3; i++) {
            x.undo();
        }
        changes(x, 5);
        for (int i = 0; i < 5; i++) {
            x.addWitness(i);
            changes(x, Math.min(8, 6 + i));
        }
        int[] witnesses = {4, 3, 2, 1, 0, 0, 0, 0};
        int[] cases = {7, 7, 7, 7, 7, 6, 5, 4};
        for (int i = 0; i < 8; i++) {
            int step = i;
            Check.due("undo", 7 - i, x::undo);
            Check.due("witnesses", witnesses[step], x::witnessCount);
            Check.due("cases", cases[step], x::caseCount);
        }
        Check.due("no more", STATE, x::undo);
        changes(x, 0);
        x.charge(5, 4);
        changes(x, 1);
        Check.due("undo", 0, x::undo);
        Check.due("cases", 4, x::caseCount);
    }

    @Boundary(promise = 62, says = "Undo does not affect the input buffer, the error position, the failed command and "
        + "its cause, the formatted line, or the saved copy.")
    static void whatUndoLeaves() {
        CaseManager x = courtOf(1, 9);
        run(x, "charge 1 1;x");
        run(x, "charge 1 1;decide 0");
        x.formatCase(0);
        x.save();
        x.charge(2, 2);
        type(x, "charge 3 ");
        Check.due("undo", 2, x::undo);
        Check.due("undo", 1, x::undo);
        Check.due("undo", 0, x::undo);
        Check.due("nothing is left of the court", 0, x::caseCount);
        Check.due("the error position", 11, x::errorPosition);
        Check.due("the failed command", 1, x::failedCommand);
        Check.due("its cause", true, x::isFailureOfState);
        Check.due("the line", "0:0/0o", () -> lineOf(x, 6));
        Check.due("the input buffer", 10, () -> x.append('3'));
        Check.due("the input buffer is run", 1, x::run);
        Check.due("the program in it", 3, () -> x.defendantOf(0));
        Check.due("the saved copy", 1, x::restore);
        Check.due("the saved copy", 9, () -> x.credibility(0));
    }

    @Boundary(promise = {57, 62}, says = "Undo does not affect the input buffer")
    static void undoOfARunLeavesTheBufferEmpty() {
        CaseManager x = courtOf(0);
        run(x, "charge 1 1;witness 3");
        Check.due("one change", 0, x::undo);
        Check.due("no case", 0, x::caseCount);
        Check.due("no witness", 0, x::witnessCount);
        Check.due("the buffer stays empty", 1, () -> x.append('w'));
    }

    @Boundary(promise = 61, says = "Returns the number, 0 to 8.")
    static void changesFrom0To8() {
        CaseManager x = new CaseManager();
        changes(x, 0);
        for (int i = 1; i <= 12; i++) {
            x.charge(i / 5, i % 5);
            changes(x, Math.min(8, i));
        }
        for (int i = 7; i >= 0; i--) {
            x.undo();
            changes(x, i);
        }
        Check.answerOf(x::undo);
        changes(x, 0);
    }

    @Boundary(promise = 62, says = "Returns the number of changes that can still be undone.")
    static void changesLeft() {
        CaseManager x = courtOf(9);
        for (int i = 7; i >= 0; i--) {
            Check.due("left", i, x::undo);
        }
        CaseManager y = courtOf(1);
        Check.due("the only one", 0, y::undo);
    }

    @Boundary(promise = 62, says = "Throws `IllegalStateException` if no change can be undone")
    static void nothingToUndo() {
        CaseManager x = new CaseManager();
        Check.due("a new court", STATE, x::undo);
        Check.answerOf(() -> x.charge(9, 9));
        Check.due("after a refused call", STATE, x::undo);
        x.charge(0, 0);
        x.undo();
        Check.due("after the only change was undone", STATE, x::undo);
        x.save();
        x.charge(0, 0);
        x.restore();
        Check.due("after restore", STATE, x::undo);
        Check.due("the court stays", 0, x::caseCount);
    }

    @Boundary(promise = 62, says = "Undoes the latest change that has not been undone.")
    static void programsAreUndone() {
        String[] programs = {"charge 4 4", "witness 6", "testify 0 1+5", "question 0 0!", "decide 0", "appeal 1",
            "close 1", "charge 4 4;witness 6;testify 3 4-2;question 3 4?;decide 3"};
        for (String program : programs) {
            undone(courtInAllPhases(), program);
        }
    }

    private static void undone(CaseManager x, String program) {
        String before = everyNumber(x);
        run(x, program);
        Check.due("\"" + program + "\" has an effect", false, () -> everyNumber(x).equals(before));
        x.undo();
        Check.due("undo of \"" + program + "\"", before, () -> everyNumber(x));
    }

    /** Less than everything, so that three readings of one court stay within 512 calls. */
    private static String everyNumber(CaseManager x) {
        StringBuilder text = new StringBuilder();
        for (int i = 0; i < x.caseCount(); i++) {
            text.append(x.isOpen(i)).append(x.isClosed(i)).append(x.appealCount(i)).append(x.testimonyCount(i));
            text.append(' ');
        }
        for (int i = 0; i < x.witnessCount(); i++) {
            text.append(x.credibility(i)).append(x.groupSize(i)).append(' ');
        }
        text.append(x.sentence(0)).append(x.sentence(4)).append(x.decisionCount()).append(x.questionTotal());
        return text.toString();
    }

    @Boundary(promise = 62, says = "Undoes the latest change that has not been undone.")
    static void changesByMethodsAreUndone() {
        undoneToTheLast(x -> x.charge(5, 4));
        undoneToTheLast(x -> x.addWitness(7));
        undoneToTheLast(x -> x.testify(0, 1, true, 5));
        undoneToTheLast(x -> x.question(0, 0, false));
        undoneToTheLast(x -> x.decide(0));
        undoneToTheLast(x -> x.appeal(1));
        undoneToTheLast(x -> x.close(1));
        undoneToTheLast(x -> run(x, "decide 0;appeal 1;charge 5 4;witness 7;testify 3 4+5"));
    }

    /** A change of a court in all phases. */
    private interface Change {
        Object on(CaseManager x);
    }

    private static void undoneToTheLast(Change change) {
        CaseManager x = courtInAllPhases();
        String before = everything(x);
        change.on(x);
        Check.due("seven left", 7, x::undo);
        Check.due("the court", before, () -> everything(x));
    }

    @Boundary(promise = 63, says = "Returns the number of cases.")
    static void saveOf0And16Cases() {
        Check.due("none", 0, () -> new CaseManager().save());
        Check.due("sixteen", 16, () -> courtOf(16).save());
        CaseManager x = courtInAllPhases();
        Check.due("open or not", 3, x::save);
    }

    @Boundary(promise = 63, says = "replacing an earlier copy.")
    static void theLatestCopyAlone() {
        CaseManager x = courtOf(1);
        x.save();
        x.addWitness(5);
        Check.due("a second copy", 1, x::save);
        x.charge(1, 1);
        x.addWitness(3);
        Check.due("restored", 1, x::restore);
        Check.due("with the witness", 1, x::witnessCount);
        CaseManager z = courtOf(3, 9);
        z.testify(0, 0, true, 5);
        z.save();
        for (int i = 0; i < 5; i++) {
            z.undo();
        }
        Check.due("an empty copy replaces a greater one", 0, z::save);
        z.charge(0, 0);
        Check.due("restored", 0, z::restore);
        Check.due("no cases", 0, z::caseCount);
        Check.due("no witnesses", 0, z::witnessCount);
    }

    @Boundary(promise = {63, 64}, says = "Saves a copy of everything that changes can change")
    static void everythingIsRestored() {
        CaseManager x = courtInAllPhases();
        String before = everything(x);
        x.save();
        run(x, "appeal 1;testify 1 0-5;question 1 1?;decide 1;decide 0");
        x.charge(5, 4);
        x.addWitness(7);
        x.testify(3, 4, true, 3);
        Check.due("restored", 3, x::restore);
        Check.due("everything", before, () -> everything(x));
    }

    @Boundary(promise = {63, 64}, says = "Saves a copy of everything that changes can change")
    static void restoredOverAnotherCourt() {
        CaseManager x = courtOf(1, 5, 8, 3);
        x.testify(0, 2, false, 4);
        x.testify(0, 1, true, 2);
        String before = everything(x);
        x.save();
        for (int i = 0; i < 6; i++) {
            x.undo();
        }
        Check.due("nothing is left", 0, x::caseCount);
        x.charge(5, 4);
        x.charge(4, 3);
        x.addWitness(9);
        x.addWitness(0);
        x.testify(0, 0, true, 5);
        x.testify(0, 1, false, 5);
        x.question(0, 0, false);
        Check.due("restored", 1, x::restore);
        Check.due("everything", before, () -> everything(x));
    }

    @Boundary(promise = {63, 64}, says = "Saves a copy of everything that changes can change")
    static void aFullCourtIsRestored() {
        CaseManager x = eightWitnesses();
        for (int i = 0; i < 6; i++) {
            x.testify(15, i + 2, i % 2 == 0, 5);
        }
        x.question(15, 7, true);
        x.question(15, 7, true);
        appealTwice(x, 15);
        x.decide(15);
        Check.due("saved", 16, x::save);
        for (int i = 0; i < 8; i++) {
            x.undo();
        }
        Check.due("undone", 5, () -> x.testimonyCount(15));
        Check.due("restored", 16, x::restore);
        Check.due("closed", true, () -> x.isClosed(15));
        Check.due("two appeals", 2, () -> x.appealCount(15));
        Check.due("six testimonies", 6, () -> x.testimonyCount(15));
        Check.due("two questions", 2, () -> x.questionCount(15, 7));
        Check.due("credibility 7", 7, () -> x.credibility(7));
        Check.due("six in a group", 6, () -> x.groupSize(7));
        Check.due("three decisions", 3, x::decisionCount);
        Check.due("two questions in all", 2, x::questionTotal);
        Check.due("sixteen cases", STATE, () -> x.charge(5, 4));
        Check.due("eight witnesses", STATE, () -> x.addWitness(5));
    }

    @Boundary(promise = 64, says = "Throws `IllegalStateException` if there is no saved copy")
    static void noCopy() {
        CaseManager x = courtOf(2);
        Check.due("never saved", STATE, x::restore);
        Check.due("the court stays", 2, x::caseCount);
        changes(x, 2);
        x.save();
        Check.due("saved", 2, x::restore);
        CaseManager y = new CaseManager();
        y.save();
        Check.due("a copy of an empty court is a copy", 0, y::restore);
    }

    @Boundary(promise = 64, says = "Restores the saved copy, which stays available.")
    static void restoredAgainAndAgain() {
        CaseManager x = courtOf(1, 5);
        x.save();
        for (int i = 0; i < 3; i++) {
            x.charge(3, 3);
            x.testify(0, 0, true, 5);
            x.question(0, 0, true);
            x.addWitness(1);
            Check.due("restored", 1, x::restore);
            Check.due("one case", 1, x::caseCount);
            Check.due("one witness", 1, x::witnessCount);
            Check.due("not heard", false, () -> x.hasTestified(0, 0));
            Check.due("credibility", 5, () -> x.credibility(0));
        }
        Check.due("restored twice without a change", 1, x::restore);
    }

    @Boundary(promise = 64, says = "No changes can be undone afterwards.")
    static void noUndoAfterRestore() {
        CaseManager x = courtOf(8);
        x.save();
        changes(x, 8);
        x.charge(5, 4);
        x.restore();
        changes(x, 0);
        Check.due("none", STATE, x::undo);
        x.charge(5, 4);
        changes(x, 1);
        Check.due("a change after restore", 0, x::undo);
        Check.due("back to the copy", 8, x::caseCount);
        Check.due("no more", STATE, x::undo);
    }

    @Boundary(promise = 64, says = "Returns the number of cases.")
    static void restoreOf0And16Cases() {
        CaseManager x = courtOf(0);
        x.save();
        x.charge(0, 0);
        Check.due("none", 0, x::restore);
        CaseManager y = courtOf(16);
        y.save();
        y.undo();
        Check.due("sixteen", 16, y::restore);
        Check.due("sixteen cases", 16, y::caseCount);
    }

    @Boundary(promise = {63, 64}, says = "everything that changes can change")
    static void whatRestoreLeaves() {
        CaseManager x = courtOf(1, 9);
        x.save();
        run(x, "x");
        run(x, "witness 1;decide 0");
        x.formatWitness(0);
        type(x, "witne");
        x.restore();
        Check.due("the error position", 0, x::errorPosition);
        Check.due("the failed command", 1, x::failedCommand);
        Check.due("its cause", true, x::isFailureOfState);
        Check.due("the line", "w0=9", () -> lineOf(x, 4));
        Check.due("the input buffer", 6, () -> x.append('s'));
    }
}
