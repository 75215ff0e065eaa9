/** The sentences of the sections "What it is" and "Terms" that name a boundary case, but for the commands. */
final class TermsBounds extends Courts {
    @Boundary(promise = {6, 62}, says = "An object is used for at most 512 calls after it has been made")
    static void theLastOf512Calls() {
        CaseManager x = new CaseManager();
        x.charge(0, 4);
        x.addWitness(9);
        x.testify(0, 0, true, 5);
        for (int pair = 0; pair < 254; pair++) {
            Check.due("decide before call 512", true, () -> x.decide(0));
            Check.due("undo before call 512", 3, x::undo);
        }
        Check.due("call 512", true, () -> x.decide(0));
    }

    @Boundary(promise = {2, 10, 11, 12, 40}, says = "Defendants are numbered from 0 to 5, offences from 0 to 4.")
    static void everyDefendantAndOffence() {
        for (int d = 0; d <= 5; d++) {
            int defendant = d;
            CaseManager x = new CaseManager();
            for (int o = 0; o <= 4; o++) {
                int offence = o;
                Check.due("charge " + d + " " + o, o, () -> x.charge(defendant, offence));
                Check.due("caseOf " + d + " " + o, o, () -> x.caseOf(defendant, offence));
                Check.due("defendantOf " + o, d, () -> x.defendantOf(offence));
                Check.due("offenceOf " + o, o, () -> x.offenceOf(offence));
            }
            Check.due("sentence " + d, 0, () -> x.sentence(defendant));
        }
    }

    @Boundary(promise = {6, 37}, says = "The severity of an offence is its number plus 1.")
    static void severities() {
        CaseManager x = courtOf(5, 9);
        for (int o = 0; o <= 4; o++) {
            int offence = o;
            int before = x.sentence(0);
            Check.due("margin with offence " + o, -2 * (o + 1), () -> x.margin(offence));
            x.testify(o, 0, true, 5);
            x.decide(o);
            Check.due("sentence for offence " + o, before + o + 1, () -> x.sentence(0));
        }
    }

    @Boundary(promise = {2, 9}, says = "Cases are numbered from 0 in the order in which they were opened")
    static void numbersOfCases() {
        CaseManager x = new CaseManager();
        Check.due("the first", 0, () -> x.charge(5, 4));
        Check.due("the second", 1, () -> x.charge(0, 0));
        Check.due("the third", 2, () -> x.charge(5, 0));
        x.undo();
        Check.due("the third once more", 2, () -> x.charge(3, 3));
        Check.due("the first stays", 5, () -> x.defendantOf(0));
        Check.due("the third is the new one", 3, () -> x.defendantOf(2));
    }

    @Boundary(promise = {2, 9}, says = "at most 16 cases are opened")
    static void sixteenCasesThoughClosed() {
        CaseManager x = courtOf(15, 9);
        Check.due("the sixteenth", 15, () -> x.charge(3, 0));
        Check.due("the seventeenth", STATE, () -> x.charge(4, 0));
        x.testify(0, 0, true, 5);
        x.decide(0);
        x.close(0);
        Check.due("a closed case has been opened too", STATE, () -> x.charge(4, 0));
        Check.due("sixteen", 16, x::caseCount);
        for (int i = 0; i < 4; i++) {
            x.undo();
        }
        Check.due("the sixteenth was undone", 15, x::caseCount);
        Check.due("another sixteenth", 15, () -> x.charge(4, 0));
        Check.due("another seventeenth", STATE, () -> x.charge(3, 0));
    }

    @Boundary(promise = {13, 14, 15}, says = "A case is open, decided, or closed.")
    static void onePhaseAtATime() {
        CaseManager x = courtInAllPhases();
        for (int number = 0; number < 3; number++) {
            int caseNumber = number;
            Check.due("isOpen " + number, number == 0, () -> x.isOpen(caseNumber));
            Check.due("isDecided " + number, number == 1, () -> x.isDecided(caseNumber));
            Check.due("isClosed " + number, number == 2, () -> x.isClosed(caseNumber));
        }
    }

    @Boundary(promise = {13, 16, 47}, says = "An open case has been charged or appealed and has no valid verdict.")
    static void openCasesHaveNoVerdict() {
        CaseManager x = courtOf(1, 9);
        Check.due("charged", true, () -> x.isOpen(0));
        Check.due("charged, no verdict", STATE, () -> x.isGuilty(0));
        x.testify(0, 0, true, 5);
        Check.due("heard, no verdict", STATE, () -> x.isGuilty(0));
        for (int appeals = 1; appeals <= 2; appeals++) {
            x.decide(0);
            Check.due("a verdict", true, () -> x.isGuilty(0));
            x.appeal(0);
            Check.due("appealed " + appeals, true, () -> x.isOpen(0));
            Check.due("appealed, no verdict", STATE, () -> x.isGuilty(0));
            Check.due("appealed, no guilty case", 0, x::guiltyCount);
            Check.due("appealed, no case with a verdict", ARITHMETIC, x::guiltyShare);
        }
    }

    @Boundary(promise = {7, 16}, says = "A decided case has a verdict, guilty or not guilty, that can be appealed.")
    static void bothVerdictsCanBeAppealed() {
        CaseManager x = courtOf(2, 9);
        x.testify(0, 0, true, 5);
        x.testify(1, 0, false, 5);
        x.decide(0);
        x.decide(1);
        Check.due("guilty", true, () -> x.isGuilty(0));
        Check.due("not guilty", false, () -> x.isGuilty(1));
        Check.due("guilty, appealed", 1, () -> x.appeal(0));
        Check.due("not guilty, appealed", 1, () -> x.appeal(1));
    }

    @Boundary(promise = {4, 5, 6, 7, 8, 16}, says = "A closed case has a final verdict.")
    static void nothingMovesAClosedCase() {
        CaseManager x = courtInAllPhases();
        Check.due("testify", STATE, () -> x.testify(2, 0, true, 5));
        Check.due("question", STATE, () -> x.question(2, 1, true));
        Check.due("decide", STATE, () -> x.decide(2));
        Check.due("appeal", STATE, () -> x.appeal(2));
        Check.due("close", STATE, () -> x.close(2));
    }

    @Boundary(promise = {16, 40, 47}, says = "A closed case has a final verdict.")
    static void verdictsStayThoughMarginsMove() {
        CaseManager x = courtOf(3, 4, 2);
        x.testify(0, 0, true, 1);
        x.testify(1, 1, true, 2);
        x.testify(2, 0, true, 1);
        x.testify(2, 1, true, 1);
        x.decide(0);
        x.decide(1);
        for (int closed = 0; closed <= 2; closed++) {
            Check.due("guilty", true, () -> x.isGuilty(0));
            Check.due("not guilty", false, () -> x.isGuilty(1));
            Check.due("one guilty case", 1, x::guiltyCount);
            Check.due("the sentence", 1, () -> x.sentence(0));
            Check.due("the sentence", 1, () -> x.sentenceByCases(0));
            if (closed == 0) {
                x.question(2, 0, false);
                x.question(2, 1, true);
                Check.due("a margin of 0", 0, () -> x.margin(0));
                Check.due("a margin of 2", 2, () -> x.margin(1));
            } else {
                x.close(closed - 1);
            }
        }
    }

    @Boundary(promise = 2, says = "A defendant cannot be charged with an offence if there already is a case for this "
        + "defendant and this offence.")
    static void noSecondCharge() {
        CaseManager x = courtOf(2, 9);
        Check.due("open", STATE, () -> x.charge(0, 1));
        x.testify(1, 0, true, 5);
        x.decide(1);
        Check.due("decided", STATE, () -> x.charge(0, 1));
        x.appeal(1);
        Check.due("appealed", STATE, () -> x.charge(0, 1));
        x.decide(1);
        x.close(1);
        Check.due("closed", STATE, () -> x.charge(0, 1));
        Check.due("the case before it", STATE, () -> x.charge(0, 0));
        Check.due("another defendant", 2, () -> x.charge(1, 1));
        Check.due("another offence", 3, () -> x.charge(0, 2));
        x.undo();
        Check.due("a charge that was undone", 3, () -> x.charge(0, 2));
    }

    @Boundary(promise = 2, says = "No defendant is judged twice for the same offence.")
    static void notJudgedTwice() {
        CaseManager x = courtOf(1, 9);
        x.testify(0, 0, false, 5);
        x.decide(0);
        x.close(0);
        Check.due("not guilty", STATE, () -> x.charge(0, 0));
        Check.due("by a program", UNSUPPORTED, () -> run(x, "charge 0 0"));
        Check.due("one case", 1, x::caseCount);
    }

    @Boundary(promise = {3, 24}, says = "At most 8 witnesses are registered, numbered from 0.")
    static void eightWitnessesAtTheMost() {
        CaseManager x = new CaseManager();
        for (int i = 0; i < 8; i++) {
            int witness = i;
            Check.due("registered", witness, () -> x.addWitness(witness + 1));
        }
        Check.due("a ninth", STATE, () -> x.addWitness(1));
        Check.due("eight", 8, x::witnessCount);
        for (int i = 0; i < 8; i++) {
            int witness = i;
            Check.due("credibility of " + i, i + 1, () -> x.credibility(witness));
        }
        x.undo();
        Check.due("the eighth once more", 7, () -> x.addWitness(1));
    }

    @Boundary(promise = {3, 25}, says = "A witness has a credibility from 0 to 9.")
    static void credibilities() {
        CaseManager x = new CaseManager();
        Check.due("-1", ARGUMENT, () -> x.addWitness(-1));
        Check.due("10", ARGUMENT, () -> x.addWitness(10));
        Check.due("0", 0, () -> x.addWitness(0));
        Check.due("9", 1, () -> x.addWitness(9));
        Check.due("0", 0, () -> x.credibility(0));
        Check.due("9", 9, () -> x.credibility(1));
    }

    @Boundary(promise = {5, 25, 35}, says = "The credibility belongs to the witness, not to a case, and changes by "
        + "questions.")
    static void oneCredibilityForAllCases() {
        CaseManager x = courtOf(2, 4);
        x.testify(0, 0, true, 1);
        x.testify(1, 0, true, 3);
        x.question(0, 0, true);
        Check.due("credibility", 5, () -> x.credibility(0));
        Check.due("the weight in the one case", 5, () -> x.prosecutionWeight(0));
        Check.due("the weight in the other case", 15, () -> x.prosecutionWeight(1));
        Check.due("a question in the other case", 3, () -> x.question(1, 0, false));
        Check.due("the weight in the one case", 3, () -> x.prosecutionWeight(0));
    }

    @Boundary(promise = 4, says = "In an open case a registered witness can testify once")
    static void testifiesOnce() {
        CaseManager x = courtOf(2, 5, 5);
        x.testify(0, 0, true, 1);
        Check.due("on the same side", STATE, () -> x.testify(0, 0, true, 1));
        Check.due("on the other side", STATE, () -> x.testify(0, 0, false, 5));
        Check.due("in another case", 1, () -> x.testify(1, 0, false, 5));
        Check.due("another witness", 2, () -> x.testify(0, 1, true, 1));
        Check.due("the first one again", STATE, () -> x.testify(0, 0, false, 2));
        x.decide(0);
        x.appeal(0);
        Check.due("after an appeal", STATE, () -> x.testify(0, 0, true, 1));
        Check.due("no testimony was added", 2, () -> x.testimonyCount(0));
        Check.due("the strength stays", 1, () -> x.strength(0, 0));
        Check.due("the side stays", true, () -> x.isForProsecution(0, 0));
    }

    @Boundary(promise = {4, 22}, says = "with a strength from 1 to 5")
    static void strengths() {
        for (int s = 1; s <= 5; s++) {
            int strength = s;
            CaseManager x = courtOf(1, 9);
            Check.due("testify with " + s, 1, () -> x.testify(0, 0, strength % 2 == 0, strength));
            Check.due("strength", s, () -> x.strength(0, 0));
        }
        CaseManager x = courtOf(1, 9);
        Check.due("testify with 0", ARGUMENT, () -> x.testify(0, 0, true, 0));
        Check.due("testify with 6", ARGUMENT, () -> x.testify(0, 0, false, 6));
    }

    @Boundary(promise = {4, 18}, says = "A case has at most 6 testimonies.")
    static void sixTestimonies() {
        CaseManager x = eightWitnesses();
        for (int i = 0; i < 6; i++) {
            int witness = 7 - i;
            Check.due("testimony " + i, i + 1, () -> x.testify(15, witness, true, 1));
        }
        Check.due("the seventh", STATE, () -> x.testify(15, 0, true, 1));
        Check.due("the eighth", STATE, () -> x.testify(15, 1, false, 1));
        Check.due("six", 6, () -> x.testimonyCount(15));
        Check.due("another case has room", 1, () -> x.testify(14, 0, true, 1));
        x.undo();
        x.undo();
        Check.due("another sixth", 6, () -> x.testify(15, 0, false, 2));
        Check.due("another seventh", STATE, () -> x.testify(15, 1, false, 1));
        x.decide(15);
        x.appeal(15);
        Check.due("a seventh after an appeal", STATE, () -> x.testify(15, 1, false, 1));
    }

    @Boundary(promise = {35, 36, 33}, says = "The weight of a testimony is its strength times the current credibility "
        + "of the witness.")
    static void leastAndGreatestWeight() {
        CaseManager x = courtOf(2, 9, 0);
        x.testify(0, 0, true, 5);
        x.testify(0, 1, false, 5);
        Check.due("5 times 9", 45, () -> x.prosecutionWeight(0));
        Check.due("5 times 0", 0, () -> x.defenceWeight(0));
        x.decide(0);
        x.testify(1, 0, true, 1);
        x.question(1, 0, false);
        Check.due("5 times the current 7 in a decided case", 35, () -> x.prosecutionWeight(0));
    }

    @Boundary(promise = {35, 36}, says = "The prosecution weight of a case is the sum of the weights of all "
        + "testimonies for the prosecution; the defence weight is the sum for the defence.")
    static void sumsOfNoneAndOfSix() {
        CaseManager x = courtOf(3, 9, 9, 9, 9, 9, 9);
        for (int i = 0; i < 6; i++) {
            x.testify(0, i, true, 5);
            x.testify(1, i, false, 5);
        }
        Check.due("six for the prosecution", 270, () -> x.prosecutionWeight(0));
        Check.due("none for the defence", 0, () -> x.defenceWeight(0));
        Check.due("none for the prosecution", 0, () -> x.prosecutionWeight(1));
        Check.due("six for the defence", 270, () -> x.defenceWeight(1));
        Check.due("no testimony, prosecution", 0, () -> x.prosecutionWeight(2));
        Check.due("no testimony, defence", 0, () -> x.defenceWeight(2));
    }

    @Boundary(promise = 5, says = "A question to a witness who has testified in an open case is answered either "
        + "firmly or weakly.")
    static void questionsInOpenCasesAlone() {
        CaseManager x = courtInAllPhases();
        Check.due("open, firm", 7, () -> x.question(0, 0, true));
        Check.due("open, weak", 1, () -> x.question(0, 3, false));
        Check.due("decided", STATE, () -> x.question(1, 1, true));
        Check.due("closed", STATE, () -> x.question(2, 1, false));
        Check.due("not testified", ELEMENT, () -> x.question(0, 1, true));
    }

    @Boundary(promise = 5, says = "A firm answer increases the credibility of the witness by 1, a weak answer "
        + "decreases it by 2; the credibility stays between 0 and 9.")
    static void answersMoveCredibility() {
        int[] firm = {1, 2, 3, 4, 5, 6, 7, 8, 9, 9};
        int[] weak = {0, 0, 0, 1, 2, 3, 4, 5, 6, 7};
        for (int from = 0; from <= 9; from++) {
            int credibility = from;
            CaseManager x = courtOf(2, from);
            x.testify(0, 0, true, 1);
            Check.due("firm from " + from, firm[from], () -> x.question(0, 0, true));
            Check.due("firm from " + from, firm[from], () -> x.credibility(0));
            CaseManager y = courtOf(2, from);
            y.testify(0, 0, false, 1);
            Check.due("weak from " + from, weak[credibility], () -> y.question(0, 0, false));
            Check.due("weak from " + from, weak[credibility], () -> y.credibility(0));
        }
    }

    @Boundary(promise = {5, 23, 49, 61}, says = "A question counts even if the credibility does not change.")
    static void questionsWithoutEffectCount() {
        CaseManager x = courtOf(1, 9, 0);
        x.testify(0, 0, true, 1);
        x.testify(0, 1, false, 1);
        for (int count = 1; count <= 2; count++) {
            int questions = count;
            Check.due("9 stays", 9, () -> x.question(0, 0, true));
            Check.due("0 stays", 0, () -> x.question(0, 1, false));
            Check.due("questions at 9", questions, () -> x.questionCount(0, 0));
            Check.due("questions at 0", questions, () -> x.questionCount(0, 1));
            Check.due("all questions", 2 * questions, x::questionTotal);
        }
        Check.due("a third at 9", STATE, () -> x.question(0, 0, true));
        Check.due("a third at 0", STATE, () -> x.question(0, 1, false));
    }

    @Boundary(promise = {5, 23}, says = "Every testimony can be questioned at most twice, also if the case is appealed "
        + "in between.")
    static void twoQuestionsForEachTestimony() {
        CaseManager x = courtOf(2, 5, 5);
        x.testify(0, 0, true, 5);
        x.testify(1, 0, true, 5);
        x.testify(0, 1, false, 1);
        x.question(0, 0, true);
        x.decide(0);
        x.appeal(0);
        Check.due("the second, after an appeal", 7, () -> x.question(0, 0, true));
        Check.due("the third", STATE, () -> x.question(0, 0, false));
        x.decide(0);
        x.appeal(0);
        Check.due("the third, after the second appeal", STATE, () -> x.question(0, 0, false));
        Check.due("the other witness has two left", 6, () -> x.question(0, 1, true));
        Check.due("the other case has two left", 8, () -> x.question(1, 0, true));
        Check.due("the other case has one left", 9, () -> x.question(1, 0, true));
        Check.due("the other case has none left", STATE, () -> x.question(1, 0, true));
        x.undo();
        Check.due("a question that was undone does not count", 6, () -> x.question(1, 0, false));
    }

    @Boundary(promise = 6, says = "The verdict of an open case is guilty if its prosecution weight is greater than its "
        + "defence weight plus twice the severity of its offence, and otherwise not guilty.")
    static void exactlyAtTheVerdict() {
        for (int o = 0; o <= 4; o++) {
            int offence = o;
            CaseManager x = courtOf(5, 2, 3, 6, 1);
            x.testify(offence, 0, true, offence + 1);
            Check.due("the same as twice the severity " + (o + 1), false, () -> x.decide(offence));
            x.appeal(offence);
            x.testify(offence, 1, false, 2);
            x.testify(offence, 2, true, 1);
            Check.due("the same with a defence", false, () -> x.decide(offence));
            x.appeal(offence);
            x.testify(offence, 3, true, 1);
            Check.due("greater by 1", true, () -> x.decide(offence));
        }
    }

    @Boundary(promise = 6, says = "To decide a case, at least one witness must have testified in it.")
    static void oneTestimonyToDecide() {
        CaseManager x = courtOf(3, 0, 9);
        x.testify(1, 1, true, 5);
        Check.due("none", STATE, () -> x.decide(0));
        x.testify(0, 0, false, 1);
        Check.due("one that weighs 0", false, () -> x.decide(0));
        Check.due("one", true, () -> x.decide(1));
        Check.due("none", STATE, () -> x.decide(2));
    }

    @Boundary(promise = {6, 40}, says = "A guilty verdict adds the severity of the offence to the sentence of the "
        + "defendant.")
    static void onlyGuiltyVerdictsAdd() {
        CaseManager x = courtOf(10, 9);
        x.testify(4, 0, false, 5);
        x.testify(9, 0, true, 5);
        x.testify(5, 0, true, 5);
        x.decide(4);
        Check.due("not guilty", 0, () -> x.sentence(0));
        x.decide(9);
        Check.due("guilty of offence 4", 5, () -> x.sentence(1));
        x.decide(5);
        Check.due("guilty of offence 0 too", 6, () -> x.sentence(1));
        x.close(5);
        Check.due("closing adds nothing", 6, () -> x.sentence(1));
        Check.due("not the other's", 0, () -> x.sentence(0));
    }

    @Boundary(promise = {6, 25}, says = "Reaching a verdict does not change any credibility.")
    static void verdictsLeaveCredibility() {
        CaseManager x = courtOf(2, 9, 0, 5);
        x.testify(0, 0, true, 5);
        x.testify(0, 1, false, 5);
        x.testify(1, 2, false, 5);
        x.decide(0);
        x.decide(1);
        Check.due("9", 9, () -> x.credibility(0));
        Check.due("0", 0, () -> x.credibility(1));
        Check.due("5", 5, () -> x.credibility(2));
    }

    @Boundary(promise = {7, 17}, says = "A decided case can be appealed if it has been appealed fewer than 2 times; it "
        + "is open again then.")
    static void twoAppeals() {
        CaseManager x = courtOf(1, 9);
        x.testify(0, 0, true, 5);
        for (int count = 1; count <= 2; count++) {
            int appeals = count;
            x.decide(0);
            Check.due("appeal", appeals, () -> x.appeal(0));
            Check.due("open again", true, () -> x.isOpen(0));
            Check.due("in the docket again", 0, () -> x.docketPosition(0));
            Check.due("an open case", STATE, () -> x.appeal(0));
        }
        x.decide(0);
        Check.due("a third", STATE, () -> x.appeal(0));
        Check.due("two", 2, () -> x.appealCount(0));
    }

    @Boundary(promise = {7, 40}, says = "If its verdict was guilty, the severity of its offence is taken off the "
        + "sentence of the defendant.")
    static void onlyGuiltyVerdictsAreTakenOff() {
        CaseManager x = courtOf(5, 9);
        for (int offence = 0; offence <= 4; offence++) {
            x.testify(offence, 0, offence != 1, 5);
            x.decide(offence);
        }
        Check.due("all but offence 1", 13, () -> x.sentence(0));
        x.appeal(1);
        Check.due("not guilty", 13, () -> x.sentence(0));
        x.appeal(4);
        Check.due("offence 4", 8, () -> x.sentence(0));
        x.appeal(0);
        Check.due("offence 0", 7, () -> x.sentence(0));
        x.decide(4);
        Check.due("offence 4 again", 12, () -> x.sentence(0));
        x.appeal(4);
        Check.due("and off again", 7, () -> x.sentence(0));
    }

    @Boundary(promise = {4, 7, 18, 19}, says = "The testimonies of an appealed case stay, and further witnesses can "
        + "testify.")
    static void testimoniesOfAppealedCases() {
        CaseManager x = courtOf(1, 9, 8, 7, 6, 5, 4, 3);
        for (int i = 0; i < 4; i++) {
            x.testify(0, i, i % 2 == 0, i + 1);
        }
        x.decide(0);
        x.appeal(0);
        Check.due("four stay", 4, () -> x.testimonyCount(0));
        Check.due("a fifth", 5, () -> x.testify(0, 6, true, 1));
        x.decide(0);
        x.appeal(0);
        Check.due("a sixth", 6, () -> x.testify(0, 5, false, 1));
        Check.due("a seventh", STATE, () -> x.testify(0, 4, false, 1));
        Check.due("all stay", "0:0/0o +0*1 -1*2 +2*3 -3*4 +6*1 -5*1", () -> lineOf(x, x.formatCase(0)));
    }

    @Boundary(promise = 8, says = "A decided case can be closed.")
    static void bothVerdictsCanBeClosed() {
        CaseManager x = courtOf(2, 9);
        x.testify(0, 0, true, 5);
        x.testify(1, 0, false, 5);
        x.decide(0);
        x.decide(1);
        Check.due("not guilty", 1, () -> x.close(1));
        x.appeal(0);
        Check.due("open again", STATE, () -> x.close(0));
        x.decide(0);
        Check.due("guilty, appealed once", 2, () -> x.close(0));
    }

    @Boundary(promise = {6, 15, 46}, says = "A case that has been appealed 2 times is closed as soon as it is decided.")
    static void closedByTheThirdDecision() {
        CaseManager x = courtOf(2, 9);
        x.testify(0, 0, true, 5);
        x.testify(1, 0, false, 5);
        for (int number = 0; number < 2; number++) {
            int caseNumber = number;
            for (int appeals = 0; appeals < 2; appeals++) {
                x.decide(number);
                Check.due("appealed " + appeals + " times", false, () -> x.isClosed(caseNumber));
                Check.due("appealed " + appeals + " times", true, () -> x.isDecided(caseNumber));
                x.appeal(number);
            }
            Check.due("not closed before it is decided", true, () -> x.isOpen(caseNumber));
            x.decide(number);
            Check.due("closed", true, () -> x.isClosed(caseNumber));
            Check.due("not decided", false, () -> x.isDecided(caseNumber));
            Check.due("its verdict stays", number == 0, () -> x.isGuilty(caseNumber));
            Check.due("closedCount", number + 1, x::closedCount);
        }
    }

    @Boundary(promise = {29, 30}, says = "Two witnesses are linked if there is a case in which both have testified.")
    static void linked() {
        CaseManager x = courtOf(3, 1, 2, 3);
        x.testify(0, 0, true, 1);
        x.testify(1, 1, true, 1);
        areConnected(x, 0, 1, false);
        x.testify(0, 2, false, 1);
        areConnected(x, 0, 2, true);
        areConnected(x, 1, 2, false);
        x.decide(0);
        x.close(0);
        areConnected(x, 2, 0, true);
        x.testify(2, 1, true, 1);
        areConnected(x, 1, 0, false);
    }

    static void areConnected(CaseManager x, int one, int other, boolean want) {
        Check.due("areConnected " + one + " " + other, want, () -> x.areConnected(one, other));
        Check.due("areConnected " + other + " " + one, want, () -> x.areConnected(other, one));
        Check.due("areConnectedBySearch " + one + " " + other, want, () -> x.areConnectedBySearch(one, other));
        Check.due("areConnectedBySearch " + other + " " + one, want, () -> x.areConnectedBySearch(other, one));
    }

    @Boundary(promise = {29, 30, 31, 32}, says = "The group of a witness consists of this witness and all witnesses "
        + "that can be reached from this witness by one link or several links.")
    static void oneLinkOrSeveral() {
        int[] chain = {3, 7, 0, 5, 1, 6, 2, 4};
        CaseManager x = eightWitnesses();
        areConnected(x, 3, 3, true);
        Check.due("nobody is linked", 8, x::groupCount);
        for (int i = 0; i < 7; i++) {
            int end = chain[i + 1];
            int size = i + 2;
            x.testify(6 - i, chain[i], true, 1);
            Check.due("nobody else was heard", 1, () -> x.groupSize(end));
            x.testify(6 - i, end, false, 1);
            areConnected(x, 3, end, true);
            Check.due("one more", size, () -> x.groupSize(3));
            Check.due("one more", size, () -> x.groupSize(end));
            Check.due("a group fewer", 9 - size, x::groupCount);
        }
        x.undo();
        areConnected(x, 3, 4, false);
        areConnected(x, 3, 2, true);
        Check.due("one fewer", 7, () -> x.groupSize(3));
        Check.due("alone again", 1, () -> x.groupSize(4));
    }

    @Boundary(promise = {43, 44, 45}, says = "The open cases are in the docket.")
    static void openCasesAlone() {
        CaseManager x = courtInAllPhases();
        Check.due("one open case", 1, x::docketLength);
        Check.due("the open one", 0, () -> x.docketAt(0));
        Check.due("no other", ELEMENT, () -> x.docketAt(1));
        x.appeal(1);
        Check.due("the appealed one", 1, () -> x.docketAt(0));
        x.decide(0);
        x.decide(1);
        Check.due("none", 0, x::docketLength);
        Check.due("none", ELEMENT, () -> x.docketAt(0));
    }

    @Boundary(promise = {44, 45}, says = "They are ordered by the severity of their offences, the greatest first, then "
        + "by the number of testimonies, the greatest first, then by the number of the case, the lowest first.")
    static void tiesInTheDocket() {
        CaseManager x = courtOf(16, 9, 8);
        isDocket(x, 4, 9, 14, 3, 8, 13, 2, 7, 12, 1, 6, 11, 0, 5, 10, 15);
        x.testify(15, 0, true, 1);
        x.testify(15, 1, true, 1);
        x.testify(14, 0, true, 1);
        x.testify(9, 0, true, 1);
        x.testify(10, 1, true, 1);
        x.testify(5, 0, true, 1);
        isDocket(x, 9, 14, 4, 3, 8, 13, 2, 7, 12, 1, 6, 11, 15, 5, 10, 0);
    }

    private static void isDocket(CaseManager x, int... order) {
        for (int place = 0; place < order.length; place++) {
            int position = place;
            Check.due("docketAt " + place, order[place], () -> x.docketAt(position));
            Check.due("docketPosition " + order[place], place, () -> x.docketPosition(order[position]));
        }
        Check.due("docketAt the length", ELEMENT, () -> x.docketAt(order.length));
    }

    @Boundary(promise = {2, 3, 4, 5, 6, 7, 8, 57, 62, 64}, says = "A method that throws an exception leaves the court "
        + "unchanged, unless its description says otherwise.")
    static void refusedCallsLeaveTheCourt() {
        refused("charge", ARGUMENT, x -> x.charge(6, 0));
        refused("charge", ARGUMENT, x -> x.charge(0, 5));
        refused("charge", STATE, x -> x.charge(0, 1));
        refused("addWitness", ARGUMENT, x -> x.addWitness(10));
        refused("testify", INDEX, x -> x.testify(3, 1, true, 1));
        refused("testify", INDEX, x -> x.testify(0, 4, true, 1));
        refused("testify", ARGUMENT, x -> x.testify(0, 1, true, 6));
        refused("testify", STATE, x -> x.testify(1, 0, true, 1));
        refused("testify", STATE, x -> x.testify(0, 0, false, 5));
        refused("question", INDEX, x -> x.question(0, 4, true));
        refused("question", ELEMENT, x -> x.question(0, 1, false));
        refused("question", STATE, x -> x.question(1, 1, false));
        refused("decide", INDEX, x -> x.decide(3));
        refused("decide", STATE, x -> x.decide(1));
        refused("decide", STATE, x -> x.decide(2));
        refused("appeal", INDEX, x -> x.appeal(3));
        refused("appeal", STATE, x -> x.appeal(0));
        refused("appeal", STATE, x -> x.appeal(2));
        refused("close", INDEX, x -> x.close(-1));
        refused("close", STATE, x -> x.close(0));
        refused("close", STATE, x -> x.close(2));
        refused("run of nothing", ARGUMENT, x -> x.run());
        refused("restore", STATE, x -> x.restore());
    }

    /** A call of a court in all phases that is refused. */
    private interface Refused {
        Object on(CaseManager x);
    }

    private static void refused(String name, Object want, Refused call) {
        CaseManager x = courtInAllPhases();
        String before = everything(x);
        Check.due(name, want, () -> call.on(x));
        Check.due(name + " leaves the court", before, () -> everything(x));
        Check.due(name + " leaves what can be undone", 8, x::undoableCount);
        x.undo();
        Check.due(name + " is not what undo undoes", true, () -> x.isDecided(2));
    }

    @Boundary(promise = {2, 3, 4}, says = "A method that throws an exception leaves the court unchanged, unless its "
        + "description says otherwise.")
    static void refusedCallsOfAFullCourt() {
        CaseManager x = eightWitnesses();
        for (int witness = 0; witness < 6; witness++) {
            x.testify(15, witness, true, 1);
        }
        Check.due("a seventeenth case", STATE, () -> x.charge(5, 4));
        Check.due("a ninth witness", STATE, () -> x.addWitness(5));
        Check.due("a seventh testimony", STATE, () -> x.testify(15, 7, true, 1));
        Check.due("sixteen cases", 16, x::caseCount);
        Check.due("no case for the refused charge", ELEMENT, () -> x.caseOf(5, 4));
        Check.due("eight witnesses", 8, x::witnessCount);
        Check.due("not heard", false, () -> x.hasTestified(15, 7));
        Check.due("not linked", 1, () -> x.groupSize(7));
        Check.due("in no case", 0, () -> x.casesOfWitness(7));
        Check.due("the last of six", 5, () -> x.witnessAt(15, 5));
        x.undo();
        Check.due("undo undoes the last of six", 5, () -> x.testimonyCount(15));
    }

    @Boundary(promise = {2, 3, 4, 5}, says = "If several conditions of a method apply, the exception that is listed "
        + "first is thrown.")
    static void theFirstListedOfChanges() {
        CaseManager x = eightWitnesses();
        Check.due("charge: no such offence, and sixteen cases", ARGUMENT, () -> x.charge(5, 5));
        Check.due("charge: no such defendant, and sixteen cases", ARGUMENT, () -> x.charge(6, 4));
        Check.due("addWitness: out of range, and eight witnesses", ARGUMENT, () -> x.addWitness(10));
        CaseManager y = courtInAllPhases();
        Check.due("testify: no such case, and strength 0", INDEX, () -> y.testify(3, 0, true, 0));
        Check.due("testify: no such witness, and strength 6", INDEX, () -> y.testify(0, 4, true, 6));
        Check.due("testify: no such witness, and a closed case", INDEX, () -> y.testify(2, -1, true, 1));
        Check.due("testify: strength 0, and a decided case", ARGUMENT, () -> y.testify(1, 0, true, 0));
        Check.due("testify: strength 6, and testified already", ARGUMENT, () -> y.testify(0, 0, true, 6));
        for (int witness = 0; witness < 6; witness++) {
            x.testify(15, witness, true, 1);
        }
        Check.due("testify: strength 0, and six testimonies", ARGUMENT, () -> x.testify(15, 6, true, 0));
        Check.due("question: no such case, and not testified", INDEX, () -> y.question(3, 2, true));
        Check.due("question: no such witness, and a closed case", INDEX, () -> y.question(2, 4, true));
        Check.due("question: not testified, and a decided case", ELEMENT, () -> y.question(1, 0, true));
        Check.due("question: not testified, and a closed case", ELEMENT, () -> y.question(2, 0, true));
    }

    @Boundary(promise = {10, 19, 21, 22, 23, 39, 56}, says = "If several conditions of a method apply, the "
        + "exception that is listed first is thrown.")
    static void theFirstListedOfReaders() {
        CaseManager x = courtInAllPhases();
        Check.due("caseOf: no such defendant, so no case", ARGUMENT, () -> x.caseOf(6, 0));
        Check.due("caseOf: no such offence, so no case", ARGUMENT, () -> x.caseOf(0, -1));
        Check.due("witnessAt: no such case, and no position", INDEX, () -> x.witnessAt(3, -1));
        int[][] pairs = {{3, 0}, {-1, 2}, {0, 4}, {0, -1}, {3, 4}};
        for (int[] pair : pairs) {
            String told = pair[0] + " " + pair[1] + ": no such, so not testified";
            Check.due("isForProsecution " + told, INDEX, () -> x.isForProsecution(pair[0], pair[1]));
            Check.due("strength " + told, INDEX, () -> x.strength(pair[0], pair[1]));
            Check.due("questionCount " + told, INDEX, () -> x.questionCount(pair[0], pair[1]));
            Check.due("firmAnswersToGuilty " + told, INDEX, () -> x.firmAnswersToGuilty(pair[0], pair[1]));
        }
        for (int i = 0; i < 60; i++) {
            x.append(';');
        }
        Check.due("append: out of range, and a full buffer", ARGUMENT, () -> x.append((char) 127));
        Check.due("append: out of range, and a full buffer", ARGUMENT, () -> x.append((char) 31));
    }
}
