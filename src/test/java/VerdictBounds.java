/** The sentences of promises 35 to 52 that name a boundary case. */
final class VerdictBounds extends Courts {
    @Boundary(promise = 35, says = "Throws `IndexOutOfBoundsException` if there is no such case")
    static void prosecutionWeightOfNoSuch() {
        noSuchCase(CaseManager::prosecutionWeight);
    }

    @Boundary(promise = 35, says = "Returns the weight.")
    static void prosecutionWeightsFrom0To270() {
        CaseManager x = courtOf(2, 9, 9, 9, 9, 9, 9, 0);
        Check.due("nobody", 0, () -> x.prosecutionWeight(0));
        x.testify(1, 0, false, 5);
        Check.due("the defence does not count", 0, () -> x.prosecutionWeight(1));
        x.testify(1, 6, true, 5);
        Check.due("credibility 0", 0, () -> x.prosecutionWeight(1));
        for (int i = 0; i < 6; i++) {
            x.testify(0, i, true, 5);
            Check.due("45 more", 45 * (i + 1), () -> x.prosecutionWeight(0));
        }
    }

    @Boundary(promise = 36, says = "Throws `IndexOutOfBoundsException` if there is no such case")
    static void defenceWeightOfNoSuch() {
        noSuchCase(CaseManager::defenceWeight);
    }

    @Boundary(promise = 36, says = "Returns the weight.")
    static void defenceWeightsFrom0To270() {
        CaseManager x = courtOf(2, 9, 9, 9, 9, 9, 9, 0);
        Check.due("nobody", 0, () -> x.defenceWeight(0));
        x.testify(1, 0, true, 5);
        Check.due("the prosecution does not count", 0, () -> x.defenceWeight(1));
        x.testify(1, 6, false, 5);
        Check.due("credibility 0", 0, () -> x.defenceWeight(1));
        for (int i = 0; i < 6; i++) {
            x.testify(0, i, false, 5);
            Check.due("45 more", 45 * (i + 1), () -> x.defenceWeight(0));
        }
    }

    @Boundary(promise = 37, says = "Throws `IndexOutOfBoundsException` if there is no such case")
    static void marginOfNoSuch() {
        noSuchCase(CaseManager::margin);
    }

    @Boundary(promise = 37, says = "Returns the prosecution weight of a case minus its defence weight minus twice the "
        + "severity of its offence, computed testimony by testimony.")
    static void leastAndGreatestMargin() {
        extremes(CaseManager::margin);
    }

    @Boundary(promise = 38, says = "Returns the same number as margin, but computes it by adding, for each credibility "
        + "from 0 to 9, the credibility times the sum of the strengths on both sides.")
    static void leastAndGreatestMarginByCredibility() {
        extremes(CaseManager::marginByCredibility);
    }

    private static void extremes(WithOne margin) {
        CaseManager x = courtOf(5, 9, 9, 9, 9, 9, 9, 0);
        Check.due("nobody, severity 1", -2, () -> margin.answer(x, 0));
        Check.due("nobody, severity 5", -10, () -> margin.answer(x, 4));
        for (int i = 0; i < 6; i++) {
            x.testify(0, i, true, 5);
            x.testify(4, i, false, 5);
        }
        Check.due("the greatest", 268, () -> margin.answer(x, 0));
        Check.due("the least", -280, () -> margin.answer(x, 4));
        x.testify(1, 6, true, 5);
        Check.due("credibility 0", -4, () -> margin.answer(x, 1));
        for (int i = 0; i < 5; i++) {
            x.testify(1, i, i % 2 == 0, 5 - i);
        }
        Check.due("5 + 3 + 1 less 4 + 2, nine times", 23, () -> margin.answer(x, 1));
        x.decide(1);
        x.question(0, 0, false);
        Check.due("the current credibility, in a decided case", 13, () -> margin.answer(x, 1));
    }

    @Boundary(promise = 38, says = "for each credibility from 0 to 9")
    static void everyCredibilityWeighs() {
        for (int c = 0; c <= 9; c++) {
            int credibility = c;
            CaseManager x = courtOf(1, c, c);
            x.testify(0, 0, true, 5);
            Check.due("prosecution of " + c, 5 * credibility - 2, () -> x.marginByCredibility(0));
            x.testify(0, 1, false, 3);
            Check.due("both sides of " + c, 2 * credibility - 2, () -> x.marginByCredibility(0));
        }
    }

    @Boundary(promise = 37, says = "Returns the margin, which is greater than 0 if the verdict would be guilty now.")
    static void marginsOf0And1() {
        CaseManager x = courtOf(3, 6, 1);
        x.testify(2, 0, true, 1);
        Check.due("0", 0, () -> x.margin(2));
        Check.due("0 is not guilty", false, () -> x.decide(2));
        x.appeal(2);
        x.testify(2, 1, true, 1);
        Check.due("1", 1, () -> x.margin(2));
        Check.due("1 is guilty", true, () -> x.decide(2));
    }

    @Boundary(promise = 38, says = "Throws `IndexOutOfBoundsException` if there is no such case")
    static void marginByCredibilityOfNoSuch() {
        noSuchCase(CaseManager::marginByCredibility);
    }

    @Boundary(promise = 39, says = "Throws `IndexOutOfBoundsException` if there is no such case or witness")
    static void firmAnswersOfNoSuch() {
        noSuchCase((x, caseNumber) -> x.firmAnswersToGuilty(caseNumber, 0));
        noSuchWitness((x, witness) -> x.firmAnswersToGuilty(0, witness));
    }

    @Boundary(promise = 39, says = "Throws `NoSuchElementException` if the witness has not testified in the case")
    static void firmAnswersWithoutTestimony() {
        CaseManager x = courtOf(2, 9, 9);
        Check.due("nobody testified", ELEMENT, () -> x.firmAnswersToGuilty(0, 0));
        x.testify(0, 0, true, 5);
        Check.due("guilty now, but another witness", ELEMENT, () -> x.firmAnswersToGuilty(0, 1));
        Check.due("another case", ELEMENT, () -> x.firmAnswersToGuilty(1, 0));
        Check.due("guilty now", 0, () -> x.firmAnswersToGuilty(0, 0));
    }

    @Boundary(promise = 39, says = "Returns the number of answers, 0 if the verdict would be guilty now.")
    static void noAnswersIfGuiltyNow() {
        CaseManager x = courtOf(1, 3, 1, 9);
        x.testify(0, 0, true, 1);
        Check.due("a margin of 1", 0, () -> x.firmAnswersToGuilty(0, 0));
        x.testify(0, 1, false, 1);
        Check.due("a margin of 0", 1, () -> x.firmAnswersToGuilty(0, 0));
        x.testify(0, 2, true, 1);
        Check.due("guilty now, at credibility 9", 0, () -> x.firmAnswersToGuilty(0, 2));
        Check.due("guilty now, of a witness for the defence", 0, () -> x.firmAnswersToGuilty(0, 1));
    }

    @Boundary(promise = 39, says = "or no number of firm answers of this witness is enough")
    static void noNumberOfAnswersIsEnough() {
        CaseManager x = courtOf(5, 0, 9, 8, 1);
        x.testify(4, 0, true, 1);
        Check.due("9 against 10", ELEMENT, () -> x.firmAnswersToGuilty(4, 0));
        x.testify(4, 3, true, 1);
        Check.due("10 against 10", ELEMENT, () -> x.firmAnswersToGuilty(4, 0));
        x.testify(3, 0, true, 1);
        Check.due("9 against 8", 9, () -> x.firmAnswersToGuilty(3, 0));
        x.testify(0, 1, false, 1);
        Check.due("a witness for the defence", ELEMENT, () -> x.firmAnswersToGuilty(0, 1));
        x.testify(0, 2, true, 1);
        Check.due("9 against 11", ELEMENT, () -> x.firmAnswersToGuilty(0, 2));
        x.testify(1, 1, true, 1);
        x.testify(1, 2, false, 1);
        Check.due("credibility 9 stays 9", ELEMENT, () -> x.firmAnswersToGuilty(1, 1));
        Check.due("of the defence, not guilty now", ELEMENT, () -> x.firmAnswersToGuilty(1, 2));
        x.testify(2, 0, false, 5);
        Check.due("of the defence, with nine answers left", ELEMENT, () -> x.firmAnswersToGuilty(2, 0));
    }

    @Boundary(promise = 39, says = "if nothing else happened and the number of questions was not limited.")
    static void moreAnswersThanQuestions() {
        CaseManager x = courtOf(4, 0, 5);
        x.testify(3, 0, true, 1);
        x.question(3, 0, false);
        x.question(3, 0, false);
        Check.due("questioned twice", 9, () -> x.firmAnswersToGuilty(3, 0));
        Check.due("the answers are not given", 0, () -> x.credibility(0));
        Check.due("the questions are not asked", 2, x::questionTotal);
        x.decide(3);
        Check.due("of a decided case", 9, () -> x.firmAnswersToGuilty(3, 0));
        x.testify(0, 1, true, 5);
        x.testify(0, 0, false, 1);
        Check.due("guilty now", 0, () -> x.firmAnswersToGuilty(0, 1));
    }

    @Boundary(promise = 39, says = "Returns how many firm answers of a witness would be needed until the verdict of a "
        + "case would be guilty")
    static void answersByStrength() {
        int[] needed = {0, 0, 6, 4, 3, 3};
        for (int s = 1; s <= 5; s++) {
            int strength = s;
            CaseManager x = courtOf(5, 0);
            x.testify(4, 0, true, s);
            Object want = strength == 1 ? ELEMENT : needed[strength];
            Check.due("more than 10 with strength " + s, want, () -> x.firmAnswersToGuilty(4, 0));
        }
    }

    @Boundary(promise = 40, says = "Throws `IllegalArgumentException` if there is no such defendant")
    static void sentenceOfNoSuch() {
        noSuchDefendant(CaseManager::sentence);
    }

    @Boundary(promise = 40, says = "Returns the sum of the severities of all offences of which the defendant is found "
        + "guilty now.")
    static void sentencesFrom0To15() {
        fifteenAndBack(CaseManager::sentence);
    }

    @Boundary(promise = 41, says = "Throws `IllegalArgumentException` if there is no such defendant")
    static void sentenceByCasesOfNoSuch() {
        noSuchDefendant(CaseManager::sentenceByCases);
    }

    @Boundary(promise = 41, says = "Returns the same number as sentence, but adds it up from the cases of the "
        + "defendant.")
    static void sentencesByCasesFrom0To15() {
        fifteenAndBack(CaseManager::sentenceByCases);
    }

    /** Defendant 2 is found guilty of all offences, defendant 0 of none; then the verdicts are appealed. */
    private static void fifteenAndBack(WithOne sentence) {
        CaseManager x = courtOf(15, 9);
        int[] sums = {1, 3, 6, 10, 15};
        for (int offence = 0; offence < 5; offence++) {
            x.testify(10 + offence, 0, true, 5);
            x.testify(offence, 0, false, 5);
            x.decide(10 + offence);
            x.decide(offence);
            Check.due("guilty of offences to " + offence, sums[offence], () -> sentence.answer(x, 2));
        }
        Check.due("guilty of none", 0, () -> sentence.answer(x, 0));
        Check.due("charged with all, but not heard", 0, () -> sentence.answer(x, 1));
        Check.due("never charged", 0, () -> sentence.answer(x, 5));
        x.close(14);
        Check.due("closed cases count", 15, () -> sentence.answer(x, 2));
        for (int offence = 0; offence < 4; offence++) {
            x.appeal(10 + offence);
            Check.due("appealed to " + offence, 15 - sums[offence], () -> sentence.answer(x, 2));
        }
        x.undo();
        Check.due("an appeal was undone", 9, () -> sentence.answer(x, 2));
    }

    @Boundary(promise = 42, says = "Of several such defendants it is the one with the lowest number.")
    static void theLowestOfEquals() {
        Check.due("all 0, no cases", 0, () -> new CaseManager().mostSentenced());
        CaseManager x = new CaseManager();
        x.addWitness(9);
        for (int defendant = 5; defendant >= 0; defendant--) {
            x.charge(defendant, 2);
            x.testify(5 - defendant, 0, true, 5);
        }
        Check.due("all 0", 0, x::mostSentenced);
        for (int i = 0; i < 6; i++) {
            int lowest = 5 - i;
            x.decide(i);
            Check.due("equals from " + lowest + " on", lowest, x::mostSentenced);
        }
        x.appeal(5);
        Check.due("defendant 0 no more", 1, x::mostSentenced);
    }

    @Boundary(promise = 42, says = "Returns the defendant with the greatest sentence.")
    static void theGreatestSentence() {
        for (int d = 0; d <= 5; d++) {
            int greatest = d;
            CaseManager x = new CaseManager();
            x.addWitness(9);
            for (int defendant = 0; defendant <= 5; defendant++) {
                x.charge(defendant, defendant == d ? 4 : 3);
                x.testify(defendant, 0, true, 5);
                x.decide(defendant);
            }
            Check.due("5 against 4", greatest, x::mostSentenced);
        }
        CaseManager x = courtOf(7, 9);
        for (int number : new int[] {0, 1, 6, 5}) {
            x.testify(number, 0, true, 5);
            x.decide(number);
        }
        x.undo();
        x.undo();
        Check.due("1 and 2 against 2", 0, x::mostSentenced);
    }

    @Boundary(promise = 43, says = "Returns the number of open cases.")
    static void docketsFrom0To16() {
        CaseManager x = courtOf(0, 9);
        Check.due("no cases", 0, x::docketLength);
        for (int i = 0; i < 16; i++) {
            x.charge(i % 6, i % 5);
            Check.due("open cases", i + 1, x::docketLength);
        }
        for (int i = 0; i < 16; i++) {
            x.testify(i, 0, i % 2 == 0, 5);
            x.decide(i);
            Check.due("one fewer", 15 - i, x::docketLength);
        }
        x.close(3);
        Check.due("closed", 0, x::docketLength);
        x.appeal(4);
        Check.due("appealed", 1, x::docketLength);
    }

    @Boundary(promise = 44, says = "Throws `NoSuchElementException` if the docket has no such position")
    static void noSuchPosition() {
        Check.due("position 0 of none", ELEMENT, () -> courtOf(0, 9).docketAt(0));
        for (int position : new int[] {LOWEST, -16, -1, 16, 17, GREATEST}) {
            Check.due("position " + position + " of 16", ELEMENT, () -> courtOf(16).docketAt(position));
        }
        CaseManager x = courtInAllPhases();
        Check.due("position 0 of one open case", 0, () -> x.docketAt(0));
        for (int position : new int[] {LOWEST, -1, 1, 2, 15, GREATEST}) {
            Check.due("position " + position + " of one open case", ELEMENT, () -> x.docketAt(position));
        }
        CaseManager y = courtOf(2);
        y.docketAt(1);
        y.undo();
        Check.due("the position of a charge that was undone", ELEMENT, () -> y.docketAt(1));
    }

    @Boundary(promise = 44, says = "- `position`: the position, starting at 0")
    static void firstAndLastInTheDocket() {
        CaseManager x = courtOf(16);
        Check.due("the first", 4, () -> x.docketAt(0));
        Check.due("the last", 15, () -> x.docketAt(15));
        Check.due("the only one", 0, () -> courtOf(1).docketAt(0));
    }

    @Boundary(promise = 45, says = "Throws `IndexOutOfBoundsException` if there is no such case")
    static void docketPositionOfNoSuch() {
        noSuchCase(CaseManager::docketPosition);
    }

    @Boundary(promise = 45, says = "Throws `IllegalStateException` if the case is not open")
    static void docketPositionOfACaseThatIsNotOpen() {
        CaseManager x = courtInAllPhases();
        Check.due("open", 0, () -> x.docketPosition(0));
        Check.due("decided", STATE, () -> x.docketPosition(1));
        Check.due("closed", STATE, () -> x.docketPosition(2));
        x.appeal(1);
        Check.due("appealed", 0, () -> x.docketPosition(1));
        Check.due("behind the appealed one", 1, () -> x.docketPosition(0));
    }

    @Boundary(promise = 45, says = "counted by comparing it with all other open cases.")
    static void positionsFrom0To15() {
        CaseManager x = courtOf(16);
        Check.due("the first", 0, () -> x.docketPosition(4));
        Check.due("the last", 15, () -> x.docketPosition(15));
        Check.due("the only one", 0, () -> courtOf(1).docketPosition(0));
    }

    @Boundary(promise = 46, says = "Returns the number of closed cases.")
    static void closedFrom0To16() {
        CaseManager x = courtOf(16, 9);
        Check.due("none", 0, x::closedCount);
        for (int i = 0; i < 16; i++) {
            x.testify(i, 0, true, 5);
            x.decide(i);
        }
        Check.due("none, but decided", 0, x::closedCount);
        for (int i = 0; i < 16; i++) {
            x.close(i);
            Check.due("closed", i + 1, x::closedCount);
        }
        x.undo();
        Check.due("one was undone", 15, x::closedCount);
    }

    @Boundary(promise = 47, says = "Returns the number of cases, decided or closed, whose verdict is guilty.")
    static void guiltyFrom0To16() {
        CaseManager x = courtOf(16, 9);
        Check.due("none", 0, x::guiltyCount);
        for (int i = 0; i < 16; i++) {
            x.testify(i, 0, true, 5);
            x.decide(i);
            Check.due("guilty", i + 1, x::guiltyCount);
        }
        x.close(15);
        Check.due("closed cases count", 16, x::guiltyCount);
        x.appeal(0);
        Check.due("open cases do not", 15, x::guiltyCount);
        CaseManager y = courtOf(1, 9);
        y.testify(0, 0, false, 5);
        y.decide(0);
        Check.due("not guilty", 0, y::guiltyCount);
        y.close(0);
        Check.due("not guilty and closed", 0, y::guiltyCount);
    }

    @Boundary(promise = 48, says = "Returns how many times cases have been decided so far, cases that were appealed "
        + "afterwards included.")
    static void everyDecisionCounts() {
        CaseManager x = courtOf(16, 9);
        Check.due("none", 0, x::decisionCount);
        int decisions = 0;
        for (int i = 0; i < 16; i++) {
            x.testify(i, 0, i % 2 == 0, 5);
            for (int appeals = 0; appeals <= 2; appeals++) {
                x.decide(i);
                decisions++;
                int count = decisions;
                Check.due("decided", count, x::decisionCount);
                if (appeals < 2) {
                    x.appeal(i);
                }
            }
            Check.answerOf(() -> x.decide(16));
        }
        Check.due("three times each", 48, x::decisionCount);
    }

    @Boundary(promise = 49, says = "Returns how many questions have been asked so far.")
    static void everyQuestionCounts() {
        CaseManager x = courtOf(16, 9, 0);
        Check.due("none", 0, x::questionTotal);
        for (int i = 0; i < 16; i++) {
            x.testify(i, 0, true, 5);
            x.testify(i, 1, false, 5);
            x.question(i, 0, true);
            x.question(i, 0, true);
            x.question(i, 1, false);
            x.question(i, 1, false);
            Check.due("four more", 4 * i + 4, x::questionTotal);
            int number = i;
            Check.answerOf(() -> x.question(number, 0, true));
        }
        Check.due("no more by refused questions", 64, x::questionTotal);
        x.undo();
        Check.due("one was undone", 63, x::questionTotal);
    }

    @Boundary(promise = 50, says = "Throws `ArithmeticException` if there are no witnesses")
    static void noMeanWithoutWitnesses() {
        CaseManager x = courtOf(1);
        Check.due("none", ARITHMETIC, x::meanCredibility);
        x.addWitness(0);
        Check.due("one of credibility 0", 0.0, x::meanCredibility);
        x.undo();
        Check.due("undone", ARITHMETIC, x::meanCredibility);
    }

    @Boundary(promise = 50, says = "the sum, converted to double, divided by the number of witnesses.")
    static void meansInDouble() {
        Check.due("eight times 9", 9.0, () -> courtOf(0, 9, 9, 9, 9, 9, 9, 9, 9).meanCredibility());
        Check.due("eight times 0", 0.0, () -> courtOf(0, 0, 0, 0, 0, 0, 0, 0, 0).meanCredibility());
        Check.due("one half", 0.5, () -> courtOf(0, 0, 1).meanCredibility());
        Check.due("one third", 1.0 / 3, () -> courtOf(0, 0, 1, 0).meanCredibility());
        Check.due("one eighth", 0.125, () -> courtOf(0, 1, 0, 0, 0, 0, 0, 0, 0).meanCredibility());
        Check.due("62 sevenths", 62.0 / 7, () -> courtOf(0, 9, 9, 9, 9, 9, 9, 8).meanCredibility());
    }

    @Boundary(promise = 51, says = "Throws `ArithmeticException` if no case is decided or closed")
    static void noShareWithoutVerdicts() {
        CaseManager x = courtOf(0, 9);
        Check.due("no cases", ARITHMETIC, x::guiltyShare);
        x.charge(0, 0);
        x.testify(0, 0, true, 5);
        Check.due("an open case", ARITHMETIC, x::guiltyShare);
        x.decide(0);
        Check.due("a decided case", 1.0f, x::guiltyShare);
        x.appeal(0);
        Check.due("an appealed case", ARITHMETIC, x::guiltyShare);
        x.decide(0);
        x.close(0);
        Check.due("a closed case", 1.0f, x::guiltyShare);
    }

    @Boundary(promise = 51, says = "converted to float, divided by the number of all cases that are decided or closed.")
    static void sharesInFloat() {
        for (int guilty = 0; guilty <= 15; guilty++) {
            CaseManager x = courtOf(16, 9);
            for (int i = 0; i < 15; i++) {
                x.testify(i, 0, i < guilty, 5);
                x.decide(i);
            }
            float want = (float) guilty / 15;
            Check.due(guilty + " of 15 decided, one open", want, x::guiltyShare);
            for (int i = 3; i < 9; i++) {
                x.close(i);
            }
            Check.due(guilty + " of 15, six of them closed", want, x::guiltyShare);
        }
        CaseManager y = courtOf(16, 9);
        for (int i = 0; i < 16; i++) {
            y.testify(i, 0, i == 15, 5);
            y.decide(i);
        }
        Check.due("one of sixteen", 0.0625f, y::guiltyShare);
    }

    @Boundary(promise = 52, says = "Returns true if all these checks succeed.")
    static void consistentAtItsLimits() {
        Check.due("an empty court", true, () -> new CaseManager().isConsistent());
        Check.due("cases alone", true, () -> courtOf(16).isConsistent());
        Check.due("witnesses alone", true, () -> courtOf(0, 9, 0).isConsistent());
        CaseManager x = eightWitnesses();
        for (int i = 0; i < 16; i++) {
            for (int t = 0; t < 6; t++) {
                x.testify(i, (i + t) % 8, t % 2 == 0, 1 + (i + t) % 5);
            }
            x.question(i, i % 8, i % 3 == 0);
            Check.due("open", true, x::isConsistent);
        }
        for (int i = 0; i < 16; i++) {
            x.decide(i);
            Check.due("decided", true, x::isConsistent);
        }
        for (int i = 0; i < 8; i++) {
            x.appeal(2 * i);
            Check.due("appealed", true, x::isConsistent);
        }
        for (int i = 0; i < 8; i++) {
            x.undo();
            Check.due("undone", true, x::isConsistent);
        }
    }
}
