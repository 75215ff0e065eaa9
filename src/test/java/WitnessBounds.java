/** The sentences of promises 24 to 34 that name a boundary case. */
final class WitnessBounds extends Courts {
    @Boundary(promise = 24, says = "Returns the number of registered witnesses.")
    static void witnessesFrom0To8() {
        CaseManager x = new CaseManager();
        Check.due("none", 0, x::witnessCount);
        Check.answerOf(() -> x.addWitness(10));
        Check.due("none by a refused registration", 0, x::witnessCount);
        for (int i = 1; i <= 8; i++) {
            x.addWitness(0);
            Check.due("witnesses", i, x::witnessCount);
        }
        Check.answerOf(() -> x.addWitness(0));
        Check.due("no more by a refused registration", 8, x::witnessCount);
        x.undo();
        Check.due("one was undone", 7, x::witnessCount);
    }

    @Boundary(promise = 25, says = "Returns the credibility of a witness.")
    static void credibilitiesOfFirstAndLastWitness() {
        CaseManager x = eightWitnesses();
        Check.due("the first", 0, () -> x.credibility(0));
        Check.due("the second", 9, () -> x.credibility(1));
        Check.due("the one before the last", 6, () -> x.credibility(6));
        Check.due("the last", 5, () -> x.credibility(7));
        x.testify(15, 7, true, 1);
        x.question(15, 7, false);
        Check.due("the last after a question", 3, () -> x.credibility(7));
        Check.due("the one before the last", 6, () -> x.credibility(6));
    }

    @Boundary(promise = 25, says = "Throws `IndexOutOfBoundsException` if there is no such witness")
    static void credibilityOfNoSuch() {
        noSuchWitness(CaseManager::credibility);
    }

    @Boundary(promise = 26, says = "Throws `IndexOutOfBoundsException` if there is no such witness")
    static void casesOfNoSuchWitness() {
        noSuchWitness(CaseManager::casesOfWitness);
    }

    @Boundary(promise = 26, says = "Returns the number of cases in which a witness has testified.")
    static void casesFrom0To16() {
        CaseManager x = eightWitnesses();
        Check.due("none", 0, () -> x.casesOfWitness(7));
        for (int i = 0; i < 16; i++) {
            x.testify(15 - i, 7, i % 3 == 0, 1);
            Check.due("cases", i + 1, () -> x.casesOfWitness(7));
        }
        Check.due("none of another witness", 0, () -> x.casesOfWitness(6));
        x.question(3, 7, true);
        x.decide(3);
        x.close(3);
        Check.due("open or not, questioned or not", 16, () -> x.casesOfWitness(7));
    }

    @Boundary(promise = 27, says = "Throws `NoSuchElementException` if there is no such rank")
    static void noSuchRank() {
        for (int rank : new int[] {LOWEST, -1, 0, 1, GREATEST}) {
            Check.due("rank " + rank + " of none", ELEMENT, () -> courtOf(1).mostCredible(rank));
        }
        for (int rank : new int[] {LOWEST, -8, -1, 2, 3, 7, 8, GREATEST}) {
            Check.due("rank " + rank + " of two", ELEMENT, () -> courtOf(1, 5, 9).mostCredible(rank));
        }
        for (int rank : new int[] {-1, 8, 9}) {
            Check.due("rank " + rank + " of eight", ELEMENT, () -> eightWitnesses().mostCredible(rank));
        }
        CaseManager x = courtOf(1, 5, 9);
        x.undo();
        Check.due("the rank of a registration that was undone", ELEMENT, () -> x.mostCredible(1));
    }

    @Boundary(promise = 27, says = "- `rank`: the rank, starting at 0")
    static void firstAndLastRank() {
        Check.due("the one of one", 0, () -> courtOf(0, 0).mostCredible(0));
        ranks(eightWitnesses(), 1, 2, 5, 6, 7, 4, 3, 0);
    }

    private static void ranks(CaseManager x, int... order) {
        for (int i = 0; i < order.length; i++) {
            int rank = i;
            Check.due("rank " + i, order[i], () -> x.mostCredible(rank));
        }
    }

    @Boundary(promise = 27, says = "greater credibility first, then more cases in which the witness has testified, "
        + "then lower numbers.")
    static void tiesOfCredibility() {
        CaseManager x = courtOf(3, 5, 5, 5, 5, 6);
        ranks(x, 4, 0, 1, 2, 3);
        x.testify(0, 3, true, 1);
        ranks(x, 4, 3, 0, 1, 2);
        x.testify(0, 2, false, 5);
        ranks(x, 4, 2, 3, 0, 1);
        x.testify(1, 3, false, 1);
        ranks(x, 4, 3, 2, 0, 1);
        x.testify(2, 1, true, 1);
        x.question(2, 1, true);
        ranks(x, 1, 4, 3, 2, 0);
        x.question(0, 3, false);
        ranks(x, 1, 4, 2, 0, 3);
    }

    @Boundary(promise = 28, says = "Throws `IndexOutOfBoundsException` if there is no such witness, for either")
    static void agreementOfNoSuch() {
        noSuchEither(CaseManager::agreement);
    }

    private static void noSuchEither(WithTwo call) {
        noSuchWitness((x, one) -> call.answer(x, one, 0));
        noSuchWitness((x, other) -> call.answer(x, 0, other));
        noSuchWitness((x, both) -> call.answer(x, both, both));
    }

    @Boundary(promise = 28, says = "Returns the number of cases in which two witnesses have testified for the same "
        + "side, minus the number of cases in which they have testified for different sides.")
    static void agreementsFromMinus16To16() {
        CaseManager same = courtOf(16, 5, 5);
        CaseManager different = courtOf(16, 5, 5);
        for (int i = 0; i < 16; i++) {
            same.testify(i, 0, i % 2 == 0, 5);
            different.testify(i, 0, i % 2 == 0, 5);
            same.testify(i, 1, i % 2 == 0, 1);
            different.testify(i, 1, i % 2 != 0, 1);
        }
        agreement(same, 0, 1, 16);
        agreement(different, 0, 1, -16);
        CaseManager x = courtOf(4, 5, 5, 5);
        agreement(x, 0, 1, 0);
        x.testify(0, 0, true, 1);
        x.testify(1, 1, true, 1);
        agreement(x, 0, 1, 0);
        x.testify(0, 1, true, 1);
        agreement(x, 0, 1, 1);
        x.testify(1, 0, false, 1);
        agreement(x, 0, 1, 0);
        x.testify(2, 0, true, 1);
        x.testify(2, 1, false, 1);
        agreement(x, 0, 1, -1);
        agreement(x, 0, 2, 0);
    }

    private static void agreement(CaseManager x, int one, int other, int want) {
        Check.due("agreement " + one + " " + other, want, () -> x.agreement(one, other));
        Check.due("agreement " + other + " " + one, want, () -> x.agreement(other, one));
    }

    @Boundary(promise = 28, says = "for one and the same witness the number of cases in which the witness has "
        + "testified.")
    static void agreementWithOneself() {
        CaseManager x = courtOf(16, 5);
        for (int i = 0; i < 16; i++) {
            int cases = i;
            Check.due("cases", cases, () -> x.agreement(0, 0));
            x.testify(i, 0, i % 2 == 0, 1);
        }
        Check.due("cases", 16, () -> x.agreement(0, 0));
    }

    @Boundary(promise = 29, says = "Throws `IndexOutOfBoundsException` if there is no such witness, for either")
    static void areConnectedOfNoSuch() {
        noSuchEither(CaseManager::areConnected);
    }

    @Boundary(promise = 29, says = "Returns true if they do.")
    static void unionsInAnyOrder() {
        CaseManager x = eightWitnesses();
        Check.due("with oneself", true, () -> x.areConnected(7, 7));
        Check.due("not linked", false, () -> x.areConnected(0, 7));
        int[][] links = {{0, 1}, {2, 3}, {4, 5}, {6, 7}, {1, 3}, {7, 5}, {2, 6}};
        for (int i = 0; i < links.length; i++) {
            x.testify(i, links[i][0], true, 1);
            x.testify(i, links[i][1], false, 1);
            if (i < 6) {
                Check.due("0 and 7 before the last link", false, () -> x.areConnected(0, 7));
                Check.due("5 and 2 before the last link", false, () -> x.areConnected(5, 2));
            }
        }
        for (int one = 0; one < 8; one++) {
            for (int other = 0; other < 8; other++) {
                int first = one;
                int second = other;
                Check.due("all linked", true, () -> x.areConnected(first, second));
            }
        }
        x.undo();
        Check.due("0 and 7 without the last link", false, () -> x.areConnected(0, 7));
        Check.due("4 and 6 without the last link", true, () -> x.areConnected(4, 6));
    }

    @Boundary(promise = 30, says = "Throws `IndexOutOfBoundsException` if there is no such witness, for either")
    static void areConnectedBySearchOfNoSuch() {
        noSuchEither(CaseManager::areConnectedBySearch);
    }

    @Boundary(promise = 30, says = "Returns the same as areConnected, but uses breadth-first search.")
    static void searchOverSevenLinks() {
        CaseManager x = eightWitnesses();
        Check.due("with oneself", true, () -> x.areConnectedBySearch(7, 7));
        Check.due("not linked", false, () -> x.areConnectedBySearch(0, 7));
        for (int i = 0; i < 7; i++) {
            Check.due("before link " + i, false, () -> x.areConnectedBySearch(0, 7));
            x.testify(15 - i, i, true, 1);
            x.testify(15 - i, i + 1, false, 1);
        }
        Check.due("over seven links", true, () -> x.areConnectedBySearch(0, 7));
        Check.due("over seven links back", true, () -> x.areConnectedBySearch(7, 0));
        x.undo();
        Check.due("without the last link", false, () -> x.areConnectedBySearch(0, 7));
        Check.due("over six links", true, () -> x.areConnectedBySearch(6, 0));
    }

    @Boundary(promise = 31, says = "Throws `IndexOutOfBoundsException` if there is no such witness")
    static void groupSizeOfNoSuch() {
        noSuchWitness(CaseManager::groupSize);
    }

    @Boundary(promise = 31, says = "Returns the number, at least 1.")
    static void groupsOf1To8() {
        CaseManager x = eightWitnesses();
        Check.due("never heard", 1, () -> x.groupSize(0));
        x.testify(0, 0, true, 1);
        Check.due("heard alone", 1, () -> x.groupSize(0));
        for (int i = 1; i < 6; i++) {
            int size = i + 1;
            x.testify(0, i, true, 1);
            Check.due("one more", size, () -> x.groupSize(0));
            Check.due("one more", size, () -> x.groupSize(size - 1));
            Check.due("alone still", 1, () -> x.groupSize(size));
        }
        x.testify(1, 7, true, 1);
        x.testify(1, 6, true, 1);
        Check.due("another group", 2, () -> x.groupSize(6));
        x.testify(1, 3, true, 1);
        Check.due("all eight", 8, () -> x.groupSize(6));
        Check.due("all eight", 8, () -> x.groupSize(0));
    }

    @Boundary(promise = 32, says = "Returns the number of groups.")
    static void groupsFrom0To8() {
        CaseManager x = courtOf(16);
        Check.due("no witnesses, no groups", 0, x::groupCount);
        for (int i = 1; i <= 8; i++) {
            x.addWitness(i);
            Check.due("each alone", i, x::groupCount);
        }
        x.testify(0, 3, true, 1);
        Check.due("heard alone", 8, x::groupCount);
        for (int i = 0; i < 7; i++) {
            x.testify(i + 1, i + 1, true, 1);
            x.testify(i + 1, 0, true, 1);
            Check.due("a group fewer", 7 - i, x::groupCount);
        }
        x.testify(9, 4, true, 1);
        x.testify(9, 5, true, 1);
        Check.due("a link within a group", 1, x::groupCount);
    }

    @Boundary(promise = 33, says = "Throws `IndexOutOfBoundsException` if there is no such case")
    static void heaviestWitnessOfNoSuch() {
        noSuchCase(CaseManager::heaviestWitness);
    }

    @Boundary(promise = 33, says = "Throws `NoSuchElementException` if nobody has testified in the case")
    static void heaviestOfNobody() {
        CaseManager x = courtOf(2, 0);
        Check.due("no testimony", ELEMENT, () -> x.heaviestWitness(0));
        x.testify(1, 0, true, 1);
        Check.due("a testimony in another case", ELEMENT, () -> x.heaviestWitness(0));
        Check.due("the only one, which weighs 0", 0, () -> x.heaviestWitness(1));
        x.undo();
        Check.due("a testimony that was undone", ELEMENT, () -> x.heaviestWitness(1));
    }

    @Boundary(promise = 33, says = "Of several such witnesses it is the one who testified first.")
    static void theFirstOfEqualWeights() {
        CaseManager x = courtOf(3, 2, 4, 0, 0, 1);
        x.testify(0, 1, true, 1);
        x.testify(0, 0, true, 2);
        Check.due("4 times 1 before 2 times 2", 1, () -> x.heaviestWitness(0));
        x.testify(1, 0, false, 2);
        x.testify(1, 1, true, 1);
        Check.due("2 times 2 before 4 times 1", 0, () -> x.heaviestWitness(1));
        x.testify(2, 3, true, 1);
        x.testify(2, 2, false, 5);
        Check.due("0 and 0", 3, () -> x.heaviestWitness(2));
        x.testify(2, 4, false, 1);
        Check.due("1 is greater", 4, () -> x.heaviestWitness(2));
    }

    @Boundary(promise = 33, says = "Returns the witness whose testimony in a case has the greatest weight, on either "
        + "side.")
    static void theGreatestOfSix() {
        for (int place = 0; place < 6; place++) {
            int heaviest = place;
            CaseManager x = courtOf(1, 8, 8, 8, 8, 8, 8);
            for (int i = 0; i < 6; i++) {
                x.testify(0, i, i % 2 == 0, i == place ? 5 : 4);
            }
            Check.due("the one at place " + place, heaviest, () -> x.heaviestWitness(0));
            x.question(0, place, false);
            x.question(0, place, false);
            Check.due("by the current credibility", heaviest == 0 ? 1 : 0, () -> x.heaviestWitness(0));
        }
    }

    @Boundary(promise = 34, says = "Throws `NoSuchElementException` if there is no such case")
    static void nobodyToDecide() {
        CaseManager x = courtOf(0, 9);
        Check.due("no cases", ELEMENT, x::nextToDecide);
        x.charge(0, 0);
        x.charge(0, 4);
        Check.due("no testimonies", ELEMENT, x::nextToDecide);
        x.testify(0, 0, true, 5);
        Check.due("one", 0, x::nextToDecide);
        x.decide(0);
        Check.due("the other has no testimony", ELEMENT, x::nextToDecide);
        x.appeal(0);
        Check.due("appealed", 0, x::nextToDecide);
        x.decide(0);
        x.close(0);
        Check.due("closed", ELEMENT, x::nextToDecide);
    }

    @Boundary(promise = 34, says = "Returns the first case of the docket that could be decided now.")
    static void theFirstThatWasHeard() {
        CaseManager x = courtOf(16, 9, 0);
        x.testify(15, 1, false, 1);
        Check.due("the last of sixteen alone was heard", 15, x::nextToDecide);
        x.testify(10, 0, true, 1);
        Check.due("the lower number", 10, x::nextToDecide);
        x.testify(15, 0, true, 1);
        Check.due("more testimonies", 15, x::nextToDecide);
        x.testify(6, 0, true, 1);
        Check.due("the greater severity", 6, x::nextToDecide);
        x.testify(4, 1, true, 1);
        Check.due("the first of the docket", 4, x::nextToDecide);
        x.decide(4);
        Check.due("the next one", 6, x::nextToDecide);
    }
}
