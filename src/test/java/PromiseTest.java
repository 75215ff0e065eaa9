/** At least one test for each promise of the document: ordinary inputs, the edges it names, and wrong inputs. */
public final class PromiseTest extends Courts {
    private static final int[] BAD = {Integer.MIN_VALUE, -1, 16, Integer.MAX_VALUE};

    public static void main(String[] arguments) {
        newObject();
        charging();
        registering();
        testifying();
        questioning();
        deciding();
        appealing();
        closing();
        readersOfCases();
        readersOfTestimonies();
        readersOfWitnesses();
        groups();
        heaviest();
        nextToDecide();
        weights();
        firmAnswers();
        sentences();
        docket();
        counts();
        shares();
        consistency();
        formatting();
        appending();
        running();
        runningAllOrNone();
        errorPositions();
        failures();
        undoing();
        undoingEverything();
        savingAndRestoring();
        Check.end();
    }

    private static void newObject() {
        CaseManager x = new CaseManager();
        Check.due("1 no cases", 0, x::caseCount);
        Check.due("1 no witnesses", 0, x::witnessCount);
        for (int defendant = 0; defendant < 6; defendant++) {
            int d = defendant;
            Check.due("1 sentence of " + d, 0, () -> x.sentence(d));
        }
        Check.due("1 docketLength", 0, x::docketLength);
        Check.due("1 undoableCount", 0, x::undoableCount);
        Check.due("1 groupCount", 0, x::groupCount);
        Check.due("1 isConsistent", true, x::isConsistent);
        Check.due("1 no case 0", INDEX, () -> x.isOpen(0));
        Check.due("1 no witness 0", INDEX, () -> x.credibility(0));
    }

    private static void charging() {
        CaseManager x = new CaseManager();
        int[][] wrong = {{-1, 0}, {6, 0}, {0, -1}, {0, 5}, {Integer.MIN_VALUE, 0}, {0, Integer.MAX_VALUE}};
        for (int[] w : wrong) {
            Check.due("2 charge " + w[0] + " " + w[1], ARGUMENT, () -> x.charge(w[0], w[1]));
        }
        Check.due("2 nothing charged", 0, x::caseCount);
        for (int i = 0; i < 16; i++) {
            int number = i;
            Check.due("2 charge", number, () -> x.charge(5 - number / 5, number % 5));
            Check.due("2 charge again", STATE, () -> x.charge(5 - number / 5, number % 5));
        }
        Check.due("2 a seventeenth case", STATE, () -> x.charge(0, 0));
        Check.due("2 no such defendant comes first", ARGUMENT, () -> x.charge(6, 0));
        Check.due("2 sixteen cases", 16, x::caseCount);
        Check.due("2 only normal returns are changes", 8, x::undoableCount);
        CaseManager y = court();
        y.testify(0, 1, true, 5);
        y.decide(0);
        y.close(0);
        Check.due("2 nobody is judged twice", STATE, () -> y.charge(1, 4));
        Check.due("2 another offence", 2, () -> y.charge(1, 0));
        Check.due("2 a new case is open", true, () -> y.isOpen(2));
    }

    private static void registering() {
        CaseManager x = new CaseManager();
        Check.due("3 credibility -1", ARGUMENT, () -> x.addWitness(-1));
        Check.due("3 credibility 10", ARGUMENT, () -> x.addWitness(10));
        int[] credibilities = {0, 9, 5, 5, 1, 2, 3, 4};
        for (int i = 0; i < 8; i++) {
            int number = i;
            Check.due("3 addWitness", number, () -> x.addWitness(credibilities[number]));
            Check.due("3 credibility", credibilities[number], () -> x.credibility(number));
        }
        Check.due("3 a ninth witness", STATE, () -> x.addWitness(5));
        Check.due("3 range comes first", ARGUMENT, () -> x.addWitness(10));
        Check.due("3 eight witnesses", 8, x::witnessCount);
    }

    private static void testifying() {
        CaseManager x = court();
        for (int bad : BAD) {
            Check.due("4 case " + bad, INDEX, () -> x.testify(bad, 0, true, 0));
            Check.due("4 witness " + bad, INDEX, () -> x.testify(0, bad, true, 0));
        }
        Check.due("4 case 2", INDEX, () -> x.testify(2, 0, true, 1));
        Check.due("4 witness 3", INDEX, () -> x.testify(0, 3, true, 1));
        Check.due("4 strength 0", ARGUMENT, () -> x.testify(0, 0, true, 0));
        Check.due("4 strength 6", ARGUMENT, () -> x.testify(0, 0, true, 6));
        Check.due("4 first", 1, () -> x.testify(0, 2, true, 5));
        Check.due("4 second", 2, () -> x.testify(0, 0, false, 1));
        Check.due("4 other case", 1, () -> x.testify(1, 0, true, 1));
        Check.due("4 again", STATE, () -> x.testify(0, 2, false, 5));
        Check.due("4 strength before state", ARGUMENT, () -> x.testify(0, 2, false, 6));
        x.decide(0);
        Check.due("4 decided", STATE, () -> x.testify(0, 1, true, 1));
        Check.due("4 decided, strength first", ARGUMENT, () -> x.testify(0, 1, true, 0));
        x.appeal(0);
        Check.due("4 appealed", 3, () -> x.testify(0, 1, true, 1));
        x.decide(0);
        x.close(0);
        Check.due("4 closed", STATE, () -> x.testify(0, 1, true, 1));
        for (int i = 3; i < 8; i++) {
            x.addWitness(i);
        }
        for (int i = 1; i < 6; i++) {
            int witness = i;
            Check.due("4 up to six", witness + 1, () -> x.testify(1, witness, witness % 2 == 0, witness));
        }
        Check.due("4 a seventh", STATE, () -> x.testify(1, 6, true, 1));
        Check.due("4 still six", 6, () -> x.testimonyCount(1));
    }

    private static void questioning() {
        CaseManager x = court();
        x.testify(0, 0, true, 1);
        for (int bad : BAD) {
            Check.due("5 case " + bad, INDEX, () -> x.question(bad, 0, true));
            Check.due("5 witness " + bad, INDEX, () -> x.question(0, bad, true));
        }
        Check.due("5 not testified", ELEMENT, () -> x.question(0, 1, true));
        Check.due("5 firm", 6, () -> x.question(0, 0, true));
        Check.due("5 weak", 4, () -> x.question(0, 0, false));
        Check.due("5 a third", STATE, () -> x.question(0, 0, true));
        x.testify(0, 1, true, 1);
        Check.due("5 top", 9, () -> x.question(0, 1, true));
        Check.due("5 it counts without effect", 1, () -> x.questionCount(0, 1));
        x.decide(0);
        Check.due("5 decided", STATE, () -> x.question(0, 1, true));
        Check.due("5 decided, not testified first", ELEMENT, () -> x.question(0, 2, true));
        x.appeal(0);
        Check.due("5 after appeal", 7, () -> x.question(0, 1, false));
        Check.due("5 twice, over the appeal", STATE, () -> x.question(0, 1, false));
        x.testify(1, 2, false, 1);
        Check.due("5 3 weak", 1, () -> x.question(1, 2, false));
        Check.due("5 1 weak", 0, () -> x.question(1, 2, false));
        x.testify(1, 0, true, 2);
        Check.due("5 each testimony has its own two", 5, () -> x.question(1, 0, true));
        Check.due("5 the credibility is the witness's", 5, () -> x.prosecutionWeight(0) - 7);
    }

    private static void deciding() {
        CaseManager x = new CaseManager();
        x.charge(0, 1);
        x.addWitness(4);
        x.addWitness(1);
        for (int bad : BAD) {
            Check.due("6 case " + bad, INDEX, () -> x.decide(bad));
        }
        Check.due("6 no testimony", STATE, () -> x.decide(0));
        x.testify(0, 0, true, 1);
        Check.due("6 4 is not greater than 4", false, () -> x.decide(0));
        Check.due("6 not guilty adds nothing", 0, () -> x.sentence(0));
        Check.due("6 decided", STATE, () -> x.decide(0));
        x.appeal(0);
        x.question(0, 0, true);
        Check.due("6 5 is greater than 4", true, () -> x.decide(0));
        Check.due("6 guilty adds the severity", 2, () -> x.sentence(0));
        Check.due("6 no credibility moved", 5, () -> x.credibility(0));
        Check.due("6 decided, not closed", true, () -> x.isDecided(0));
        x.appeal(0);
        x.testify(0, 1, false, 1);
        Check.due("6 the defence counts", false, () -> x.decide(0));
        Check.due("6 closed after two appeals", true, () -> x.isClosed(0));
        Check.due("6 closed", STATE, () -> x.decide(0));
    }

    private static void appealing() {
        CaseManager x = court();
        for (int bad : BAD) {
            Check.due("7 case " + bad, INDEX, () -> x.appeal(bad));
        }
        Check.due("7 open", STATE, () -> x.appeal(0));
        x.testify(0, 1, true, 5);
        x.question(0, 1, false);
        x.decide(0);
        Check.due("7 sentence before", 5, () -> x.sentence(1));
        Check.due("7 first", 1, () -> x.appeal(0));
        Check.due("7 the severity is taken off", 0, () -> x.sentence(1));
        Check.due("7 open again", true, () -> x.isOpen(0));
        Check.due("7 testimonies stay", 1, () -> x.testimonyCount(0));
        Check.due("7 questions stay", 1, () -> x.questionCount(0, 1));
        Check.due("7 open again, no appeal", STATE, () -> x.appeal(0));
        x.decide(0);
        Check.due("7 second", 2, () -> x.appeal(0));
        x.decide(0);
        Check.due("7 closed", STATE, () -> x.appeal(0));
        x.testify(1, 0, false, 1);
        x.decide(1);
        Check.due("7 not guilty too", 1, () -> x.appeal(1));
        Check.due("7 nothing to take off", 0, () -> x.sentence(2));
        x.decide(1);
        x.close(1);
        Check.due("7 closed early", STATE, () -> x.appeal(1));
    }

    private static void closing() {
        CaseManager x = court();
        for (int bad : BAD) {
            Check.due("8 case " + bad, INDEX, () -> x.close(bad));
        }
        Check.due("8 open", STATE, () -> x.close(1));
        x.testify(1, 1, true, 1);
        x.testify(0, 1, false, 1);
        x.decide(1);
        x.decide(0);
        Check.due("8 first", 1, () -> x.close(1));
        Check.due("8 the verdict stays", true, () -> x.isGuilty(1));
        Check.due("8 the sentence stays", 1, () -> x.sentence(2));
        Check.due("8 twice", STATE, () -> x.close(1));
        Check.due("8 second", 2, () -> x.close(0));
    }

    private static void readersOfCases() {
        CaseManager x = court();
        Check.due("9 caseCount", 2, x::caseCount);
        Check.due("10 caseOf", 0, () -> x.caseOf(1, 4));
        Check.due("10 caseOf", 1, () -> x.caseOf(2, 0));
        Check.due("10 no case", ELEMENT, () -> x.caseOf(1, 0));
        Check.due("10 no case", ELEMENT, () -> x.caseOf(4, 1));
        int[][] wrong = {{-1, 0}, {6, 0}, {0, -1}, {0, 5}};
        for (int[] w : wrong) {
            Check.due("10 caseOf " + w[0] + " " + w[1], ARGUMENT, () -> x.caseOf(w[0], w[1]));
        }
        Check.due("11 defendantOf", 1, () -> x.defendantOf(0));
        Check.due("11 defendantOf", 2, () -> x.defendantOf(1));
        Check.due("12 offenceOf", 4, () -> x.offenceOf(0));
        Check.due("12 offenceOf", 0, () -> x.offenceOf(1));
        phase(x, 1, true, false, false);
        Check.due("16 isGuilty of an open case", STATE, () -> x.isGuilty(1));
        Check.due("17 appealCount", 0, () -> x.appealCount(1));
        x.testify(1, 1, true, 1);
        x.testify(0, 1, false, 1);
        x.decide(0);
        x.decide(1);
        phase(x, 1, false, true, false);
        Check.due("16 guilty", true, () -> x.isGuilty(1));
        Check.due("16 not guilty", false, () -> x.isGuilty(0));
        x.appeal(1);
        phase(x, 1, true, false, false);
        Check.due("16 isGuilty of an appealed case", STATE, () -> x.isGuilty(1));
        Check.due("17 appealCount", 1, () -> x.appealCount(1));
        x.decide(1);
        x.appeal(1);
        Check.due("17 appealCount", 2, () -> x.appealCount(1));
        x.decide(1);
        phase(x, 1, false, false, true);
        Check.due("16 guilty when closed", true, () -> x.isGuilty(1));
        Check.due("17 appealCount of the other", 0, () -> x.appealCount(0));
        for (int bad : new int[] {-1, 2, 16, Integer.MIN_VALUE, Integer.MAX_VALUE}) {
            Check.due("11 case " + bad, INDEX, () -> x.defendantOf(bad));
            Check.due("12 case " + bad, INDEX, () -> x.offenceOf(bad));
            Check.due("13 case " + bad, INDEX, () -> x.isOpen(bad));
            Check.due("14 case " + bad, INDEX, () -> x.isDecided(bad));
            Check.due("15 case " + bad, INDEX, () -> x.isClosed(bad));
            Check.due("16 case " + bad, INDEX, () -> x.isGuilty(bad));
            Check.due("17 case " + bad, INDEX, () -> x.appealCount(bad));
        }
    }

    private static void phase(CaseManager x, int number, boolean isOpen, boolean isDecided, boolean isClosed) {
        Check.due("13 isOpen", isOpen, () -> x.isOpen(number));
        Check.due("14 isDecided", isDecided, () -> x.isDecided(number));
        Check.due("15 isClosed", isClosed, () -> x.isClosed(number));
    }

    private static void readersOfTestimonies() {
        CaseManager x = court();
        Check.due("18 testimonyCount", 0, () -> x.testimonyCount(0));
        Check.due("19 none", ELEMENT, () -> x.witnessAt(0, 0));
        x.testify(0, 2, false, 4);
        x.testify(0, 0, true, 5);
        x.testify(1, 1, true, 1);
        x.question(0, 2, true);
        Check.due("18 testimonyCount", 2, () -> x.testimonyCount(0));
        Check.due("18 testimonyCount", 1, () -> x.testimonyCount(1));
        Check.due("19 in the order of hearing", 2, () -> x.witnessAt(0, 0));
        Check.due("19 in the order of hearing", 0, () -> x.witnessAt(0, 1));
        Check.due("19 position 2", ELEMENT, () -> x.witnessAt(0, 2));
        Check.due("19 position 1 of case 1", ELEMENT, () -> x.witnessAt(1, 1));
        Check.due("19 position -1", ELEMENT, () -> x.witnessAt(1, -1));
        Check.due("19 the case comes first", INDEX, () -> x.witnessAt(2, -1));
        Check.due("20 hasTestified", true, () -> x.hasTestified(0, 2));
        Check.due("20 not in this case", false, () -> x.hasTestified(0, 1));
        Check.due("21 for the defence", false, () -> x.isForProsecution(0, 2));
        Check.due("21 for the prosecution", true, () -> x.isForProsecution(0, 0));
        Check.due("22 strength", 4, () -> x.strength(0, 2));
        Check.due("22 strength", 5, () -> x.strength(0, 0));
        Check.due("22 strength", 1, () -> x.strength(1, 1));
        Check.due("23 questionCount", 1, () -> x.questionCount(0, 2));
        Check.due("23 questionCount", 0, () -> x.questionCount(0, 0));
        x.question(0, 2, false);
        Check.due("23 questionCount", 2, () -> x.questionCount(0, 2));
        Check.due("21 not testified", ELEMENT, () -> x.isForProsecution(0, 1));
        Check.due("22 not testified", ELEMENT, () -> x.strength(1, 0));
        Check.due("23 not testified", ELEMENT, () -> x.questionCount(1, 2));
        for (int bad : BAD) {
            Check.due("18 case " + bad, INDEX, () -> x.testimonyCount(bad));
            Check.due("19 case " + bad, INDEX, () -> x.witnessAt(bad, 0));
            wrongPair(x, bad, 0);
            wrongPair(x, 0, bad);
        }
        wrongPair(x, 2, 0);
        wrongPair(x, 0, 3);
    }

    private static void wrongPair(CaseManager x, int number, int witness) {
        String pair = number + " " + witness;
        Check.due("20 " + pair, INDEX, () -> x.hasTestified(number, witness));
        Check.due("21 " + pair, INDEX, () -> x.isForProsecution(number, witness));
        Check.due("22 " + pair, INDEX, () -> x.strength(number, witness));
        Check.due("23 " + pair, INDEX, () -> x.questionCount(number, witness));
        Check.due("39 " + pair, INDEX, () -> x.firmAnswersToGuilty(number, witness));
    }

    private static void readersOfWitnesses() {
        CaseManager x = court();
        Check.due("24 witnessCount", 3, x::witnessCount);
        Check.due("25 credibility", 9, () -> x.credibility(1));
        Check.due("26 casesOfWitness", 0, () -> x.casesOfWitness(1));
        x.addWitness(5);
        x.addWitness(9);
        x.charge(0, 0);
        int[] byNumber = {1, 4, 0, 3, 2};
        for (int rank = 0; rank < 5; rank++) {
            int r = rank;
            Check.due("27 lower numbers first", byNumber[r], () -> x.mostCredible(r));
        }
        x.testify(0, 3, true, 1);
        x.testify(1, 3, false, 1);
        x.testify(0, 0, true, 1);
        x.testify(1, 4, true, 1);
        Check.due("26 casesOfWitness", 2, () -> x.casesOfWitness(3));
        Check.due("26 casesOfWitness", 1, () -> x.casesOfWitness(0));
        int[] byCases = {4, 1, 3, 0, 2};
        for (int rank = 0; rank < 5; rank++) {
            int r = rank;
            Check.due("27 more cases first", byCases[r], () -> x.mostCredible(r));
        }
        x.testify(2, 4, false, 1);
        x.testify(2, 3, false, 1);
        Check.due("28 both cases differ in side", 0, () -> x.agreement(3, 4));
        Check.due("28 same side", 1, () -> x.agreement(0, 3));
        Check.due("28 no common case", 0, () -> x.agreement(0, 4));
        Check.due("28 with oneself", 3, () -> x.agreement(3, 3));
        Check.due("28 with oneself, never heard", 0, () -> x.agreement(2, 2));
        x.undo();
        Check.due("28 different sides", -1, () -> x.agreement(4, 3));
        Check.due("27 rank -1", ELEMENT, () -> x.mostCredible(-1));
        Check.due("27 rank 5", ELEMENT, () -> x.mostCredible(5));
        Check.due("27 rank 0 of none", ELEMENT, () -> new CaseManager().mostCredible(0));
        for (int bad : new int[] {-1, 5, 8, Integer.MIN_VALUE, Integer.MAX_VALUE}) {
            Check.due("25 witness " + bad, INDEX, () -> x.credibility(bad));
            Check.due("26 witness " + bad, INDEX, () -> x.casesOfWitness(bad));
            Check.due("28 one " + bad, INDEX, () -> x.agreement(bad, 0));
            Check.due("28 other " + bad, INDEX, () -> x.agreement(0, bad));
            Check.due("29 one " + bad, INDEX, () -> x.areConnected(bad, 0));
            Check.due("29 other " + bad, INDEX, () -> x.areConnected(0, bad));
            Check.due("30 one " + bad, INDEX, () -> x.areConnectedBySearch(bad, 0));
            Check.due("30 other " + bad, INDEX, () -> x.areConnectedBySearch(0, bad));
            Check.due("31 witness " + bad, INDEX, () -> x.groupSize(bad));
        }
    }

    private static void groups() {
        CaseManager x = new CaseManager();
        for (int i = 0; i < 8; i++) {
            x.addWitness(i);
        }
        for (int i = 0; i < 4; i++) {
            x.charge(i, i);
        }
        Check.due("32 each alone", 8, x::groupCount);
        Check.due("31 alone", 1, () -> x.groupSize(7));
        connected(x, 3, 3, true);
        x.testify(0, 7, true, 1);
        x.testify(0, 2, false, 1);
        x.testify(1, 5, true, 1);
        x.testify(1, 0, true, 1);
        x.testify(1, 1, true, 1);
        Check.due("32 groupCount", 5, x::groupCount);
        connected(x, 2, 7, true);
        connected(x, 1, 5, true);
        connected(x, 2, 5, false);
        x.testify(2, 2, true, 1);
        connected(x, 2, 5, false);
        x.testify(2, 1, true, 1);
        connected(x, 7, 0, true);
        connected(x, 7, 6, false);
        Check.due("31 over several links", 5, () -> x.groupSize(7));
        Check.due("32 groupCount", 4, x::groupCount);
        x.undo();
        connected(x, 7, 0, false);
        Check.due("31 after undo", 2, () -> x.groupSize(7));
        Check.due("32 after undo", 5, x::groupCount);
        x.testify(3, 7, true, 1);
        x.testify(3, 6, true, 1);
        x.testify(3, 0, true, 1);
        x.testify(0, 3, true, 1);
        x.testify(2, 4, true, 1);
        Check.due("31 all", 8, () -> x.groupSize(4));
        Check.due("32 one", 1, x::groupCount);
        connected(x, 4, 6, true);
    }

    private static void connected(CaseManager x, int one, int other, boolean want) {
        Check.due("29 " + one + " " + other, want, () -> x.areConnected(one, other));
        Check.due("29 " + other + " " + one, want, () -> x.areConnected(other, one));
        Check.due("30 " + one + " " + other, want, () -> x.areConnectedBySearch(one, other));
        Check.due("30 " + other + " " + one, want, () -> x.areConnectedBySearch(other, one));
    }

    private static void heaviest() {
        CaseManager x = court();
        Check.due("33 nobody", ELEMENT, () -> x.heaviestWitness(0));
        for (int bad : BAD) {
            Check.due("33 case " + bad, INDEX, () -> x.heaviestWitness(bad));
        }
        x.testify(0, 2, false, 3);
        x.testify(0, 1, true, 1);
        Check.due("33 the first of equals", 2, () -> x.heaviestWitness(0));
        x.testify(0, 0, true, 2);
        Check.due("33 the greatest", 0, () -> x.heaviestWitness(0));
        x.question(0, 2, true);
        Check.due("33 on either side", 2, () -> x.heaviestWitness(0));
        CaseManager y = new CaseManager();
        y.charge(0, 0);
        y.addWitness(0);
        y.addWitness(0);
        y.testify(0, 1, true, 1);
        y.testify(0, 0, true, 5);
        Check.due("33 all weigh 0", 1, () -> y.heaviestWitness(0));
        y.addWitness(9);
        y.addWitness(8);
        y.charge(1, 0);
        y.testify(1, 0, true, 5);
        y.testify(1, 2, false, 1);
        y.testify(1, 3, true, 1);
        Check.due("33 the one in the middle", 2, () -> y.heaviestWitness(1));
    }

    private static void nextToDecide() {
        CaseManager x = court();
        Check.due("34 nobody testified", ELEMENT, x::nextToDecide);
        x.testify(1, 1, true, 1);
        Check.due("34 the first without testimony is passed over", 1, x::nextToDecide);
        x.testify(0, 1, true, 5);
        Check.due("34 the first of the docket", 0, x::nextToDecide);
        x.decide(0);
        Check.due("34 a decided case is not in the docket", 1, x::nextToDecide);
        x.decide(1);
        Check.due("34 none", ELEMENT, x::nextToDecide);
        x.appeal(0);
        Check.due("34 appealed", 0, x::nextToDecide);
    }

    private static void weights() {
        CaseManager x = court();
        Check.due("37 nobody", -10, () -> x.margin(0));
        Check.due("38 nobody", -2, () -> x.marginByCredibility(1));
        Check.due("35 nobody", 0, () -> x.prosecutionWeight(0));
        x.addWitness(5);
        x.testify(0, 0, true, 4);
        x.testify(0, 1, true, 2);
        x.testify(0, 2, false, 5);
        x.testify(0, 3, false, 1);
        x.testify(1, 0, false, 3);
        Check.due("35 prosecutionWeight", 38, () -> x.prosecutionWeight(0));
        Check.due("36 defenceWeight", 20, () -> x.defenceWeight(0));
        Check.due("37 margin", 8, () -> x.margin(0));
        Check.due("38 marginByCredibility", 8, () -> x.marginByCredibility(0));
        Check.due("35 prosecutionWeight", 0, () -> x.prosecutionWeight(1));
        Check.due("36 defenceWeight", 15, () -> x.defenceWeight(1));
        Check.due("37 margin", -17, () -> x.margin(1));
        Check.due("38 marginByCredibility", -17, () -> x.marginByCredibility(1));
        x.question(1, 0, false);
        Check.due("35 the current credibility", 30, () -> x.prosecutionWeight(0));
        Check.due("37 the current credibility", 0, () -> x.margin(0));
        Check.due("38 the current credibility", 0, () -> x.marginByCredibility(0));
        for (int bad : BAD) {
            Check.due("35 case " + bad, INDEX, () -> x.prosecutionWeight(bad));
            Check.due("36 case " + bad, INDEX, () -> x.defenceWeight(bad));
            Check.due("37 case " + bad, INDEX, () -> x.margin(bad));
            Check.due("38 case " + bad, INDEX, () -> x.marginByCredibility(bad));
        }
    }

    private static void firmAnswers() {
        CaseManager x = court();
        x.testify(0, 0, true, 2);
        x.testify(0, 2, true, 1);
        Check.due("39 13 - 10 is guilty now", 0, () -> x.firmAnswersToGuilty(0, 0));
        x.testify(0, 1, false, 1);
        Check.due("39 13 - 9 - 10: -6 + 4 * 2 > 0", 4, () -> x.firmAnswersToGuilty(0, 0));
        Check.due("39 6 answers give 0 only", ELEMENT, () -> x.firmAnswersToGuilty(0, 2));
        Check.due("39 the defence", ELEMENT, () -> x.firmAnswersToGuilty(0, 1));
        x.question(0, 1, false);
        x.question(0, 1, false);
        Check.due("39 -2 needs two of 2", 2, () -> x.firmAnswersToGuilty(0, 0));
        Check.due("39 -2 needs three of 1", 3, () -> x.firmAnswersToGuilty(0, 2));
        x.testify(1, 1, true, 1);
        Check.due("39 of the defence, guilty now", 0, () -> x.firmAnswersToGuilty(1, 1));
        x.testify(1, 0, false, 1);
        Check.due("39 5 - 5 - 2", 3, () -> x.firmAnswersToGuilty(1, 1));
        Check.due("39 not testified", ELEMENT, () -> x.firmAnswersToGuilty(1, 2));
        x.decide(1);
        Check.due("39 in a decided case too", 3, () -> x.firmAnswersToGuilty(1, 1));
        CaseManager y = court();
        y.testify(1, 1, true, 5);
        y.testify(1, 0, false, 1);
        Check.due("39 of the defence, guilty now", 0, () -> y.firmAnswersToGuilty(1, 0));
        CaseManager z = new CaseManager();
        z.charge(0, 3);
        z.addWitness(1);
        z.testify(0, 0, true, 1);
        Check.due("39 exactly at the top", 8, () -> z.firmAnswersToGuilty(0, 0));
    }

    private static void sentences() {
        CaseManager x = court();
        x.charge(2, 3);
        x.charge(1, 0);
        Check.due("42 all 0", 0, x::mostSentenced);
        x.testify(0, 1, true, 5);
        x.testify(1, 1, true, 5);
        x.testify(2, 1, true, 5);
        x.testify(3, 1, false, 5);
        x.decide(1);
        Check.due("42 the greatest", 2, x::mostSentenced);
        x.decide(2);
        x.decide(0);
        x.decide(3);
        Check.due("40 sentence", 5, () -> x.sentence(1));
        Check.due("41 sentenceByCases", 5, () -> x.sentenceByCases(1));
        Check.due("40 a sum", 5, () -> x.sentence(2));
        Check.due("41 a sum", 5, () -> x.sentenceByCases(2));
        Check.due("42 the lowest of equals", 1, x::mostSentenced);
        x.appeal(2);
        Check.due("40 without an appealed case", 1, () -> x.sentence(2));
        Check.due("41 without an appealed case", 1, () -> x.sentenceByCases(2));
        x.close(1);
        Check.due("40 with a closed case", 1, () -> x.sentence(2));
        Check.due("41 with a closed case", 1, () -> x.sentenceByCases(2));
        Check.due("40 nobody else", 0, () -> x.sentence(5));
        Check.due("41 nobody else", 0, () -> x.sentenceByCases(0));
        for (int bad : new int[] {-1, 6, Integer.MIN_VALUE, Integer.MAX_VALUE}) {
            Check.due("40 defendant " + bad, ARGUMENT, () -> x.sentence(bad));
            Check.due("41 defendant " + bad, ARGUMENT, () -> x.sentenceByCases(bad));
        }
    }

    private static void docket() {
        CaseManager x = new CaseManager();
        int[][] charges = {{0, 1}, {1, 4}, {2, 1}, {3, 4}, {4, 0}, {5, 1}};
        for (int[] c : charges) {
            x.charge(c[0], c[1]);
        }
        x.addWitness(5);
        x.addWitness(5);
        docketIs(x, 1, 3, 0, 2, 5, 4);
        x.testify(3, 0, true, 1);
        x.testify(5, 0, true, 1);
        x.testify(5, 1, true, 1);
        x.testify(2, 0, true, 1);
        x.testify(4, 0, true, 1);
        docketIs(x, 3, 1, 5, 2, 0, 4);
        x.decide(5);
        x.decide(3);
        docketIs(x, 1, 2, 0, 4);
        Check.due("45 a decided case", STATE, () -> x.docketPosition(5));
        x.appeal(5);
        x.close(3);
        docketIs(x, 1, 5, 2, 0, 4);
        Check.due("45 a closed case", STATE, () -> x.docketPosition(3));
        for (int bad : new int[] {-1, 6, 16, Integer.MIN_VALUE, Integer.MAX_VALUE}) {
            Check.due("44 position " + bad, ELEMENT, () -> x.docketAt(bad));
            Check.due("45 case " + bad, INDEX, () -> x.docketPosition(bad));
        }
    }

    private static void docketIs(CaseManager x, int... want) {
        Check.due("43 docketLength", want.length, x::docketLength);
        for (int i = 0; i < want.length; i++) {
            int position = i;
            Check.due("44 docketAt " + position, want[position], () -> x.docketAt(position));
            Check.due("45 docketPosition " + want[position], position, () -> x.docketPosition(want[position]));
        }
        Check.due("44 docketAt the length", ELEMENT, () -> x.docketAt(want.length));
        Check.due("52 isConsistent", true, x::isConsistent);
    }

    private static void counts() {
        CaseManager x = court();
        countsAre(x, 0, 0, 0, 0);
        x.testify(0, 1, true, 5);
        x.testify(1, 0, false, 1);
        x.question(0, 1, true);
        countsAre(x, 0, 0, 0, 1);
        x.decide(0);
        x.decide(1);
        countsAre(x, 0, 1, 2, 1);
        x.appeal(0);
        countsAre(x, 0, 0, 2, 1);
        x.question(0, 1, true);
        x.decide(0);
        countsAre(x, 0, 1, 3, 2);
        x.close(1);
        countsAre(x, 1, 1, 3, 2);
        x.close(0);
        countsAre(x, 2, 1, 3, 2);
        x.undo();
        x.undo();
        x.undo();
        x.undo();
        countsAre(x, 0, 0, 2, 1);
    }

    private static void countsAre(CaseManager x, int closed, int guilty, int decisions, int questions) {
        Check.due("46 closedCount", closed, x::closedCount);
        Check.due("47 guiltyCount", guilty, x::guiltyCount);
        Check.due("48 decisionCount", decisions, x::decisionCount);
        Check.due("49 questionTotal", questions, x::questionTotal);
    }

    private static void shares() {
        CaseManager x = new CaseManager();
        Check.due("50 no witnesses", ARITHMETIC, x::meanCredibility);
        Check.due("51 no cases", ARITHMETIC, x::guiltyShare);
        x.addWitness(0);
        Check.due("50 a mean of 0", 0.0, x::meanCredibility);
        x.undo();
        x.addWitness(1);
        Check.due("50 one witness", 1.0, x::meanCredibility);
        x.addWitness(8);
        Check.due("50 no rounding", 4.5, x::meanCredibility);
        x.addWitness(1);
        Check.due("50 in double", 10.0 / 3, x::meanCredibility);
        x.charge(0, 0);
        x.charge(1, 0);
        x.charge(2, 0);
        Check.due("51 open cases alone", ARITHMETIC, x::guiltyShare);
        for (int number = 0; number < 3; number++) {
            x.testify(number, 1, number == 1, 1);
            x.decide(number);
        }
        Check.due("51 in float", 1.0f / 3, x::guiltyShare);
        x.close(0);
        Check.due("51 closed cases count", 1.0f / 3, x::guiltyShare);
        x.appeal(2);
        Check.due("51 appealed cases do not", 0.5f, x::guiltyShare);
        x.appeal(1);
        Check.due("51 none guilty", 0.0f, x::guiltyShare);
    }

    private static void consistency() {
        CaseManager x = new CaseManager();
        for (int i = 0; i < 16; i++) {
            x.charge(i % 6, i % 5);
        }
        for (int i = 0; i < 8; i++) {
            x.addWitness((i * 5) % 10);
        }
        for (int i = 0; i < 60; i++) {
            int number = (i * 7) % 16;
            Check.answerOf(() -> x.testify(number, (number * 3 + 5) % 8, number % 3 != 0, number % 5 + 1));
            if (number % 4 == 0) {
                Check.answerOf(() -> x.decide(number));
            }
            Check.due("52 isConsistent", true, x::isConsistent);
        }
    }

    private static void formatting() {
        CaseManager x = court();
        Check.due("55 empty at first", INDEX, () -> x.lineChar(0));
        Check.due("53 length", 6, () -> x.formatCase(0));
        Check.due("53 an open case", "0:1/4o", () -> lineOf(x, x.formatCase(0)));
        Check.due("54 length", 4, () -> x.formatWitness(2));
        Check.due("54 a witness", "w2=3", () -> lineOf(x, 4));
        x.testify(0, 1, true, 5);
        x.testify(0, 2, false, 1);
        Check.due("55 the line stays when the court changes", 'w', () -> x.lineChar(0));
        Check.due("53 testimonies in order", "0:1/4o +1*5 -2*1", () -> lineOf(x, x.formatCase(0)));
        x.decide(0);
        Check.due("53 guilty", "0:1/4g +1*5 -2*1", () -> lineOf(x, x.formatCase(0)));
        x.close(0);
        Check.due("53 closed", "0:1/4g. +1*5 -2*1", () -> lineOf(x, x.formatCase(0)));
        x.testify(1, 2, false, 3);
        x.decide(1);
        Check.due("53 not guilty", "1:2/0n -2*3", () -> lineOf(x, x.formatCase(1)));
        x.appeal(1);
        Check.due("53 appealed", "1:2/0o -2*3", () -> lineOf(x, x.formatCase(1)));
        for (int bad : BAD) {
            Check.due("53 case " + bad, INDEX, () -> x.formatCase(bad));
            Check.due("54 witness " + bad, INDEX, () -> x.formatWitness(bad));
            Check.due("55 index " + bad, INDEX, () -> x.lineChar(bad));
        }
        Check.due("54 witness 3", INDEX, () -> x.formatWitness(3));
        Check.due("55 a refused call leaves the line", "1:2/0o -2*3", () -> lineOf(x, 11));
        x.undo();
        Check.due("62 undo leaves the line", "1:2/0o -2*3", () -> lineOf(x, 11));
        formattingTheLongest();
    }

    private static void formattingTheLongest() {
        CaseManager x = new CaseManager();
        for (int i = 0; i < 16; i++) {
            x.charge(i % 6, i % 5);
        }
        for (int i = 0; i < 8; i++) {
            x.addWitness(9);
        }
        for (int i = 7; i > 1; i--) {
            x.testify(15, i, i % 2 == 0, 5);
        }
        x.decide(15);
        x.close(15);
        Check.due("53 the longest", "15:3/0n. -7*5 +6*5 -5*5 +4*5 -3*5 +2*5", () -> lineOf(x, x.formatCase(15)));
    }

    private static void appending() {
        CaseManager x = new CaseManager();
        Check.due("56 blank", 1, () -> x.append(' '));
        Check.due("56 tilde", 2, () -> x.append('~'));
        char[] wrong = {(char) 31, (char) 127, (char) 0, (char) 10, (char) 233, (char) 65535};
        for (char c : wrong) {
            Check.due("56 character " + (int) c, ARGUMENT, () -> x.append(c));
        }
        for (int i = 3; i <= 60; i++) {
            int length = i;
            Check.due("56 up to 60", length, () -> x.append('a'));
        }
        Check.due("56 full", STATE, () -> x.append('a'));
        Check.due("56 the range comes first", ARGUMENT, () -> x.append((char) 31));
        Check.due("56 append is no change", 0, x::undoableCount);
        Check.due("57 malformed", ARGUMENT, x::run);
        Check.due("57 the buffer is empty afterwards", 1, () -> x.append('a'));
    }

    private static void running() {
        CaseManager x = new CaseManager();
        Check.due("57 charge, witness, testify", 4, () -> run(x, "charge 3 2;witness 7;testify 0 0+4;charge 5 4"));
        Check.due("57 defendant", 3, () -> x.defendantOf(0));
        Check.due("57 offence", 2, () -> x.offenceOf(0));
        Check.due("57 offence", 4, () -> x.offenceOf(1));
        Check.due("57 credibility", 7, () -> x.credibility(0));
        Check.due("57 side", true, () -> x.isForProsecution(0, 0));
        Check.due("57 strength", 4, () -> x.strength(0, 0));
        Check.due("57 the buffer is empty afterwards", 1, () -> x.append('t'));
        Check.due("57 two digits", 3, () -> run(x, "estify 01 0-5;question 00 0!;question 1 0?"));
        Check.due("57 the defence", false, () -> x.isForProsecution(1, 0));
        Check.due("57 firm and weak", 6, () -> x.credibility(0));
        Check.due("57 one question each", 1, () -> x.questionCount(0, 0));
        Check.due("57 decide, appeal, close", 5, () -> run(x, "decide 0;appeal 0;decide 00;close 0;decide 1"));
        Check.due("57 closed", true, () -> x.isClosed(0));
        Check.due("57 guilty", true, () -> x.isGuilty(0));
        Check.due("57 not guilty", false, () -> x.isGuilty(1));
        Check.due("57 appealed", 1, () -> x.appealCount(0));
        Check.due("61 a run is one change", 3, x::undoableCount);
        CaseManager y = new CaseManager();
        for (int i = 0; i < 15; i++) {
            y.charge(i % 6, i % 5);
        }
        Check.due("57 case 15", 3, () -> run(y, "charge 3 0;witness 1;testify 15 0-1"));
        Check.due("57 case 15 heard", true, () -> y.hasTestified(15, 0));
        Check.due("57 case 15 questioned", 2, () -> run(y, "question 15 0!;question 15 0?"));
        Check.due("23 of case 15", 2, () -> y.questionCount(15, 0));
        Check.due("5 of case 15, twice", STATE, () -> y.question(15, 0, true));
    }

    private static void runningAllOrNone() {
        CaseManager x = court();
        x.testify(0, 0, true, 1);
        Check.due("57 the third fails", UNSUPPORTED, () -> run(x, "charge 0 0;question 0 0!;charge 1 4;witness 1"));
        Check.due("57 no case", 2, x::caseCount);
        Check.due("57 no question", 0, () -> x.questionCount(0, 0));
        Check.due("57 no credibility", 5, () -> x.credibility(0));
        Check.due("57 no count", 0, x::questionTotal);
        Check.due("57 no witness", 3, x::witnessCount);
        Check.due("57 no change", 6, x::undoableCount);
        Check.due("57 the buffer is empty afterwards", 1, () -> x.append('w'));
        Check.due("57 malformed at its end", ARGUMENT, () -> run(x, "itness 1;witness x"));
        Check.due("57 nothing executed", 3, x::witnessCount);
        Check.due("57 an empty program", ARGUMENT, x::run);
        Check.due("58 an empty program", 0, x::errorPosition);
        Check.due("57 no change", 6, x::undoableCount);
        for (int i = 0; i < 4; i++) {
            x.addWitness(1);
        }
        Check.due("57 one fits, the second does not", UNSUPPORTED, () -> run(x, "witness 1;witness 1"));
        x.undo();
        Check.due("57 a failed run leaves what can be undone", 6, x::witnessCount);
        Check.due("57 it does", 7, x::undoableCount);
    }

    private static void errorPositions() {
        Check.due("58 none so far", ELEMENT, () -> new CaseManager().errorPosition());
        CaseManager good = new CaseManager();
        run(good, "witness 1");
        run(good, "decide 0");
        Check.due("58 none was malformed", ELEMENT, good::errorPosition);
        error("x", 0);
        error(" ", 0);
        error(";", 0);
        error("c", 1);
        error("cx", 1);
        error("chose 1", 2);
        error("clarge 0 0", 2);
        error("charge", 6);
        error("charge ", 7);
        error("charge0 0", 6);
        error("charge  0 0", 7);
        error("charge 00", 8);
        error("charge 0", 8);
        error("charge 0 ", 9);
        error("charge 0 x", 9);
        error("charge 0 00", 10);
        error("charge 0 0;", 11);
        error("charge 0 0; charge 1 1", 11);
        error("charge 0 0;;", 11);
        error("Charge 0 0", 0);
        error("witness", 7);
        error("witness 10", 9);
        error("witness -1", 8);
        error("testify 0", 9);
        error("testify 00", 10);
        error("testify 000 0+1", 10);
        error("testify 0 0", 11);
        error("testify 0 00", 11);
        error("testify 0 0*", 11);
        error("testify 0 0+", 12);
        error("testify 0 0+x", 12);
        error("testify 0 0 +1", 11);
        error("testify 00 0-11", 14);
        error("testify x", 8);
        error("question 0 0", 12);
        error("question 0 0.", 12);
        error("question 0 0!!", 13);
        error("question 00 0+", 13);
        error("quest 0 0!", 5);
        error("decide ", 7);
        error("decide x", 7);
        error("decide 123", 9);
        error("decide 1 ", 8);
        error("decide 12,", 9);
        error("appeal 1;appeel 1", 13);
        error("appeal 1;a", 10);
        error("close", 5);
        error("close /", 6);
        error("close :", 6);
        error("close 1;close 1;close 1;close 1;close 1;close 1;close 1;clos", 60);
        error("witness 1;witness 1;witness 1;witness 1;witness 1;witness 1;", 60);
        CaseManager x = new CaseManager();
        run(x, "decide 1x");
        run(x, "witness 1");
        run(x, "decide 0");
        Check.due("58 it stays", 8, x::errorPosition);
        run(x, "?");
        Check.due("58 the latest", 0, x::errorPosition);
        x.undo();
        Check.due("58 undo leaves it", 0, x::errorPosition);
    }

    private static void error(String text, int want) {
        CaseManager x = new CaseManager();
        Check.due("57 \"" + text + "\"", ARGUMENT, () -> run(x, text));
        Check.due("58 \"" + text + "\"", want, x::errorPosition);
        Check.due("59 \"" + text + "\" is no failure", ELEMENT, x::failedCommand);
    }

    private static void failures() {
        CaseManager x = court();
        x.testify(0, 0, true, 1);
        Check.due("59 none so far", ELEMENT, x::failedCommand);
        Check.due("60 none so far", ELEMENT, x::isFailureOfState);
        failure(x, "decide 1", 0, true);
        failure(x, "decide 0;decide 2", 1, false);
        failure(x, "close 0", 0, true);
        failure(x, "witness 1;witness 1;appeal 0", 2, true);
        failure(x, "charge 6 0", 0, false);
        failure(x, "charge 0 5", 0, false);
        failure(x, "charge 0 0;charge 0 0", 1, true);
        failure(x, "testify 99 0+1", 0, false);
        failure(x, "testify 0 3+1", 0, false);
        failure(x, "testify 0 1+0", 0, false);
        failure(x, "testify 0 1+6", 0, false);
        failure(x, "testify 0 0+5", 0, true);
        failuresOfMore();
    }

    /** On a court of its own, since an object is used for 512 calls at the most. */
    private static void failuresOfMore() {
        CaseManager x = court();
        x.testify(0, 0, true, 1);
        failure(x, "question 0 1!", 0, false);
        failure(x, "question 1 0!", 0, false);
        failure(x, "question 0 9!", 0, false);
        failure(x, "question 0 0!;question 0 0?;question 0 0!", 2, true);
        failure(x, "close 10", 0, false);
        failure(x, "decide 0;close 0;close 0;close 0;close 0;close 0;close 0", 2, true);
        failure(x, "close 0;close 0;close 0;close 0;close 0;close 0;close 0", 0, true);
        Check.due("57 seven commands", 6, () -> run(x, "witness 1;witness 1;witness 1;witness 1;witness 1;charge 0 0"));
        failure(x, "witness 1", 0, true);
        Check.due("58 no program was malformed", ELEMENT, x::errorPosition);
        run(x, "charge 0 1");
        run(x, "nothing");
        x.undo();
        Check.due("59 it stays", 0, x::failedCommand);
        Check.due("60 it stays", true, x::isFailureOfState);
    }

    private static void failure(CaseManager x, String text, int index, boolean isOfState) {
        Check.due("57 \"" + text + "\"", UNSUPPORTED, () -> run(x, text));
        Check.due("59 \"" + text + "\"", index, x::failedCommand);
        Check.due("60 \"" + text + "\"", isOfState, x::isFailureOfState);
    }

    private static void undoing() {
        CaseManager x = new CaseManager();
        Check.due("62 nothing to undo", STATE, x::undo);
        for (int i = 0; i < 16; i++) {
            int changes = i + 1;
            x.charge(i % 6, i % 5);
            Check.due("61 undoableCount", Math.min(8, changes), x::undoableCount);
        }
        for (int i = 7; i >= 3; i--) {
            int left = i;
            Check.due("62 what can still be undone", left, x::undo);
            Check.due("61 undoableCount", left, x::undoableCount);
            Check.due("62 the latest first", left + 8, x::caseCount);
        }
        x.addWitness(5);
        x.testify(0, 0, true, 1);
        Check.due("61 new changes after undo", 5, x::undoableCount);
        for (int i = 4; i >= 0; i--) {
            int left = i;
            Check.due("62 undo", left, x::undo);
        }
        Check.due("62 eight at the most", STATE, x::undo);
        Check.due("62 the eighth before", 8, x::caseCount);
        Check.due("62 no witness", 0, x::witnessCount);
        type(x, "witness ");
        x.charge(2, 3);
        x.undo();
        Check.due("62 undo leaves the input buffer", 9, () -> x.append('1'));
        Check.due("62 undo leaves the input buffer", 1, x::run);
        x.undo();
        Check.due("62 undo does not bring the input back", 1, () -> x.append('w'));
        Check.due("62 undone as one", 0, x::witnessCount);
    }

    private static void undoingEverything() {
        CaseManager x = court();
        x.testify(0, 1, true, 5);
        String before = stateOf(x);
        x.question(0, 1, true);
        x.undo();
        Check.due("62 a question without effect", before, () -> stateOf(x));
        x.decide(0);
        String decided = stateOf(x);
        x.appeal(0);
        x.undo();
        Check.due("62 an appeal", decided, () -> stateOf(x));
        x.close(0);
        x.undo();
        Check.due("62 a closing", decided, () -> stateOf(x));
        run(x, "appeal 0;testify 0 2-1;question 0 2!;decide 0;charge 4 4");
        x.undo();
        Check.due("62 a run", decided, () -> stateOf(x));
        x.undo();
        Check.due("62 a decision", before, () -> stateOf(x));
        Check.due("61 a court's six changes", 6, x::undoableCount);
    }

    private static String stateOf(CaseManager x) {
        StringBuilder text = new StringBuilder();
        for (int i = 0; i < x.caseCount(); i++) {
            text.append(lineOf(x, x.formatCase(i))).append('|').append(x.appealCount(i));
            for (int w = 0; w < x.witnessCount(); w++) {
                text.append('|').append(x.hasTestified(i, w) ? x.questionCount(i, w) : -1);
            }
        }
        for (int w = 0; w < x.witnessCount(); w++) {
            text.append('|').append(x.credibility(w)).append('|').append(x.groupSize(w));
        }
        for (int d = 0; d < 6; d++) {
            text.append('|').append(x.sentence(d));
        }
        text.append('|').append(x.decisionCount()).append('|').append(x.questionTotal());
        return text.toString();
    }

    private static void savingAndRestoring() {
        CaseManager x = new CaseManager();
        Check.due("64 no copy", STATE, x::restore);
        Check.due("63 an empty court", 0, x::save);
        x.charge(0, 0);
        Check.due("64 an empty court", 0, x::restore);
        Check.due("64 no case", 0, x::caseCount);
        Check.due("64 nothing to undo", 0, x::undoableCount);
        Check.due("64 nothing to undo", STATE, x::undo);
        CaseManager y = court();
        y.testify(0, 1, true, 5);
        y.decide(0);
        String saved = stateOf(y);
        Check.due("63 save", 2, y::save);
        Check.due("63 save is no change", 7, y::undoableCount);
        y.appeal(0);
        run(y, "testify 0 2-1;question 0 2!;decide 0;charge 4 4");
        Check.due("64 restore", 2, y::restore);
        Check.due("64 everything", saved, () -> stateOf(y));
        y.charge(5, 0);
        y.undo();
        y.charge(3, 3);
        Check.due("64 the copy stays available", 2, y::restore);
        Check.due("64 everything", saved, () -> stateOf(y));
        y.charge(3, 3);
        Check.due("63 the copy is replaced", 3, y::save);
        y.undo();
        Check.due("62 undo leaves the copy", 3, y::restore);
        failure(y, "decide 9", 0, false);
        run(y, "decide x");
        y.formatWitness(1);
        type(y, "wit");
        y.restore();
        Check.due("64 the input buffer stays", 4, () -> y.append('n'));
        Check.due("64 the failure stays", 0, y::failedCommand);
        Check.due("64 the error position stays", 7, y::errorPosition);
        Check.due("64 the line stays", "w1=9", () -> lineOf(y, 4));
        CaseManager z = court();
        z.testify(0, 2, false, 4);
        String whole = stateOf(z);
        z.save();
        for (int i = 0; i < 6; i++) {
            z.undo();
        }
        z.charge(5, 2);
        z.charge(4, 1);
        z.addWitness(0);
        z.testify(0, 0, true, 1);
        z.question(0, 0, false);
        z.addWitness(1);
        Check.due("64 after another court in between", 2, z::restore);
        Check.due("64 everything is as it was", whole, () -> stateOf(z));
    }
}
