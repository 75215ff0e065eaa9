import java.util.NoSuchElementException;

/** A case manager for a court: charges, witnesses, hearings, questions, verdicts and appeals. */
public final class CaseManager {
    private static final int DEFENDANTS = 6;
    private static final int OFFENCES = 5;
    private static final int CASE_LIMIT = 16;
    private static final int WITNESS_LIMIT = 8;
    private static final int TESTIMONY_LIMIT = 6;
    private static final int QUESTION_LIMIT = 2;
    private static final int APPEAL_LIMIT = 2;
    private static final int TOP_CREDIBILITY = 9;
    private static final int TOP_STRENGTH = 5;
    private static final int INPUT_LIMIT = 60;
    private static final int SHORTEST_COMMAND = 7;
    private static final int UNDO_LIMIT = 8;
    private static final int NOTHING = -1;

    private static final int OPEN = 0;
    private static final int DECIDED = 1;
    private static final int CLOSED = 2;

    private static final int CHARGE = 0;
    private static final int WITNESS = 1;
    private static final int TESTIFY = 2;
    private static final int QUESTION = 3;
    private static final int DECIDE = 4;
    private static final int APPEAL = 5;
    private static final int CLOSE = 6;
    private static final int KINDS = 7;

    private final Court court = new Court();
    private final Court beforeRun = new Court();
    private final Court saved = new Court();
    private final History history = new History();
    private final Docket docket = new Docket();
    private final Search search = new Search();
    private final Program program = new Program();
    private final StringBuilder line = new StringBuilder();
    private boolean hasSaved = false;
    private int storedError = NOTHING;
    private int storedFailure = NOTHING;
    private boolean isStoredFailureOfState = false;

    public CaseManager() {
    }

    public int charge(int defendant, int offence) throws IllegalArgumentException, IllegalStateException {
        return change(CHARGE, defendant, offence, false, 0);
    }

    public int addWitness(int credibility) throws IllegalArgumentException, IllegalStateException {
        return change(WITNESS, credibility, 0, false, 0);
    }

    public int testify(int caseNumber, int witness, boolean isForProsecution, int strength)
            throws IndexOutOfBoundsException, IllegalArgumentException, IllegalStateException {
        return change(TESTIFY, caseNumber, witness, isForProsecution, strength);
    }

    public int question(int caseNumber, int witness, boolean isFirm)
            throws IndexOutOfBoundsException, NoSuchElementException, IllegalStateException {
        return change(QUESTION, caseNumber, witness, isFirm, 0);
    }

    public boolean decide(int caseNumber) throws IndexOutOfBoundsException, IllegalStateException {
        return change(DECIDE, caseNumber, 0, false, 0) != 0;
    }

    public int appeal(int caseNumber) throws IndexOutOfBoundsException, IllegalStateException {
        return change(APPEAL, caseNumber, 0, false, 0);
    }

    public int close(int caseNumber) throws IndexOutOfBoundsException, IllegalStateException {
        return change(CLOSE, caseNumber, 0, false, 0);
    }

    public int caseCount() {
        return court.cases;
    }

    public int caseOf(int defendant, int offence) throws IllegalArgumentException, NoSuchElementException {
        if (!isDefendant(defendant) || !isOffence(offence)) {
            throw new IllegalArgumentException("no such defendant or offence");
        }
        int caseNumber = court.caseAgainst(defendant, offence);
        if (caseNumber == NOTHING) {
            throw new NoSuchElementException("no case for this defendant and this offence");
        }
        return caseNumber;
    }

    public int defendantOf(int caseNumber) throws IndexOutOfBoundsException {
        needCase(caseNumber);
        return court.defendants.get(caseNumber);
    }

    public int offenceOf(int caseNumber) throws IndexOutOfBoundsException {
        needCase(caseNumber);
        return court.offences.get(caseNumber);
    }

    public boolean isOpen(int caseNumber) throws IndexOutOfBoundsException {
        needCase(caseNumber);
        return court.isIn(OPEN, caseNumber);
    }

    public boolean isDecided(int caseNumber) throws IndexOutOfBoundsException {
        needCase(caseNumber);
        return court.isIn(DECIDED, caseNumber);
    }

    public boolean isClosed(int caseNumber) throws IndexOutOfBoundsException {
        needCase(caseNumber);
        return court.isIn(CLOSED, caseNumber);
    }

    public boolean isGuilty(int caseNumber) throws IndexOutOfBoundsException, IllegalStateException {
        needCase(caseNumber);
        if (court.isIn(OPEN, caseNumber)) {
            throw new IllegalStateException("an open case has no verdict");
        }
        return court.isFoundGuilty(caseNumber);
    }

    public int appealCount(int caseNumber) throws IndexOutOfBoundsException {
        needCase(caseNumber);
        return court.appeals.get(caseNumber);
    }

    public int testimonyCount(int caseNumber) throws IndexOutOfBoundsException {
        needCase(caseNumber);
        return court.testimonies.get(caseNumber);
    }

    public int witnessAt(int caseNumber, int position) throws IndexOutOfBoundsException, NoSuchElementException {
        needCase(caseNumber);
        if (position < 0 || position >= court.testimonies.get(caseNumber)) {
            throw new NoSuchElementException("no testimony at this position");
        }
        return court.witnessHeardAt(caseNumber, position);
    }

    public boolean hasTestified(int caseNumber, int witness) throws IndexOutOfBoundsException {
        needCase(caseNumber);
        needWitness(witness);
        return court.hasHeard(caseNumber, witness);
    }

    public boolean isForProsecution(int caseNumber, int witness)
            throws IndexOutOfBoundsException, NoSuchElementException {
        needTestimony(caseNumber, witness);
        return court.sideOf(caseNumber, witness) > 0;
    }

    public int strength(int caseNumber, int witness) throws IndexOutOfBoundsException, NoSuchElementException {
        needTestimony(caseNumber, witness);
        return court.strengthOf(caseNumber, witness);
    }

    public int questionCount(int caseNumber, int witness) throws IndexOutOfBoundsException, NoSuchElementException {
        needTestimony(caseNumber, witness);
        return court.questionsTo(caseNumber, witness);
    }

    public int witnessCount() {
        return court.witnesses;
    }

    public int credibility(int witness) throws IndexOutOfBoundsException {
        needWitness(witness);
        return court.credibilities.get(witness);
    }

    public int casesOfWitness(int witness) throws IndexOutOfBoundsException {
        needWitness(witness);
        return court.casesHearing(witness);
    }

    public int mostCredible(int rank) throws NoSuchElementException {
        int witness = court.witnessOfRank(rank);
        if (witness == NOTHING) {
            throw new NoSuchElementException("no witness has this rank");
        }
        return witness;
    }

    public int agreement(int one, int other) throws IndexOutOfBoundsException {
        needWitness(one);
        needWitness(other);
        return court.agreementOf(one, other);
    }

    public boolean areConnected(int one, int other) throws IndexOutOfBoundsException {
        needWitness(one);
        needWitness(other);
        return court.groups.areUnited(one, other);
    }

    public boolean areConnectedBySearch(int one, int other) throws IndexOutOfBoundsException {
        needWitness(one);
        needWitness(other);
        search.startAt(one, court);
        return search.hasReached(other);
    }

    public int groupSize(int witness) throws IndexOutOfBoundsException {
        needWitness(witness);
        return court.groups.sizeAround(witness, court.witnesses);
    }

    public int groupCount() {
        return court.groups.countAmong(court.witnesses);
    }

    public int heaviestWitness(int caseNumber) throws IndexOutOfBoundsException, NoSuchElementException {
        needCase(caseNumber);
        if (court.testimonies.get(caseNumber) == 0) {
            throw new NoSuchElementException("nobody has testified in the case");
        }
        return Weights.heaviestIn(court, caseNumber);
    }

    public int nextToDecide() throws NoSuchElementException {
        docket.fill(court);
        int caseNumber = docket.firstHeard(court);
        if (caseNumber == NOTHING) {
            throw new NoSuchElementException("no case could be decided now");
        }
        return caseNumber;
    }

    public int prosecutionWeight(int caseNumber) throws IndexOutOfBoundsException {
        needCase(caseNumber);
        return Weights.ofSide(court, caseNumber, 1);
    }

    public int defenceWeight(int caseNumber) throws IndexOutOfBoundsException {
        needCase(caseNumber);
        return Weights.ofSide(court, caseNumber, -1);
    }

    public int margin(int caseNumber) throws IndexOutOfBoundsException {
        needCase(caseNumber);
        return Weights.marginByTestimony(court, caseNumber);
    }

    public int marginByCredibility(int caseNumber) throws IndexOutOfBoundsException {
        needCase(caseNumber);
        return Weights.marginByLevel(court, caseNumber);
    }

    public int firmAnswersToGuilty(int caseNumber, int witness)
            throws IndexOutOfBoundsException, NoSuchElementException {
        needTestimony(caseNumber, witness);
        int answers = Weights.firmAnswersNeeded(court, caseNumber, witness);
        if (answers == NOTHING) {
            throw new NoSuchElementException("no number of firm answers is enough");
        }
        return answers;
    }

    public int sentence(int defendant) throws IllegalArgumentException {
        needDefendant(defendant);
        return court.sentences.get(defendant);
    }

    public int sentenceByCases(int defendant) throws IllegalArgumentException {
        needDefendant(defendant);
        return court.addedSentence(defendant);
    }

    public int mostSentenced() {
        int most = 0;
        for (int defendant = 1; defendant < DEFENDANTS; defendant++) {
            if (court.sentences.get(defendant) > court.sentences.get(most)) {
                most = defendant;
            }
        }
        return most;
    }

    public int docketLength() {
        return court.countIn(OPEN);
    }

    public int docketAt(int position) throws NoSuchElementException {
        docket.fill(court);
        if (position < 0 || position >= docket.length) {
            throw new NoSuchElementException("the docket has no such position");
        }
        return docket.order.get(position);
    }

    public int docketPosition(int caseNumber) throws IndexOutOfBoundsException, IllegalStateException {
        needCase(caseNumber);
        if (!court.isIn(OPEN, caseNumber)) {
            throw new IllegalStateException("the case is not open");
        }
        return court.openCasesBefore(caseNumber);
    }

    public int closedCount() {
        return court.countIn(CLOSED);
    }

    public int guiltyCount() {
        return court.countGuilty();
    }

    public int decisionCount() {
        return court.decisions;
    }

    public int questionTotal() {
        return court.questionsAsked;
    }

    public double meanCredibility() throws ArithmeticException {
        if (court.witnesses == 0) {
            throw new ArithmeticException("there are no witnesses");
        }
        return (double) court.credibilitySum() / court.witnesses;
    }

    public float guiltyShare() throws ArithmeticException {
        int verdicts = court.countIn(DECIDED) + court.countIn(CLOSED);
        if (verdicts == 0) {
            throw new ArithmeticException("no case is decided or closed");
        }
        return (float) court.countGuilty() / verdicts;
    }

    public boolean isConsistent() {
        return doMarginsAgree() && doSentencesAgree() && doConnectionsAgree() && doesDocketAgree();
    }

    public int formatCase(int caseNumber) throws IndexOutOfBoundsException {
        needCase(caseNumber);
        line.setLength(0);
        writeHead(caseNumber);
        for (int position = 0; position < court.testimonies.get(caseNumber); position++) {
            writeTestimony(caseNumber, court.witnessHeardAt(caseNumber, position));
        }
        return line.length();
    }

    public int formatWitness(int witness) throws IndexOutOfBoundsException {
        needWitness(witness);
        line.setLength(0);
        line.append('w');
        line.append(witness);
        line.append('=');
        line.append(court.credibilities.get(witness));
        return line.length();
    }

    public char lineChar(int index) throws IndexOutOfBoundsException {
        if (index < 0 || index >= line.length()) {
            throw new IndexOutOfBoundsException("the line has no such index");
        }
        return line.charAt(index);
    }

    public int append(char character) throws IllegalArgumentException, IllegalStateException {
        if (character < ' ' || character > '~') {
            throw new IllegalArgumentException("the character is out of range");
        }
        if (program.input.length() >= INPUT_LIMIT) {
            throw new IllegalStateException("the input buffer is full");
        }
        program.input.append(character);
        return program.input.length();
    }

    public int run() throws IllegalArgumentException, UnsupportedOperationException {
        boolean isWellFormed = program.parse();
        program.input.setLength(0);
        if (!isWellFormed) {
            storedError = program.position;
            throw new IllegalArgumentException("the program is malformed");
        }
        if (!executeProgram()) {
            throw new UnsupportedOperationException("a command of the program failed");
        }
        return program.size;
    }

    public int errorPosition() throws NoSuchElementException {
        if (storedError == NOTHING) {
            throw new NoSuchElementException("no program was malformed so far");
        }
        return storedError;
    }

    public int failedCommand() throws NoSuchElementException {
        needFailure();
        return storedFailure;
    }

    public boolean isFailureOfState() throws NoSuchElementException {
        needFailure();
        return isStoredFailureOfState;
    }

    public int undoableCount() {
        return history.size;
    }

    public int undo() throws IllegalStateException {
        if (history.size == 0) {
            throw new IllegalStateException("no change can be undone");
        }
        history.takeLatest(court);
        return history.size;
    }

    public int save() {
        saved.copyFrom(court);
        hasSaved = true;
        return court.cases;
    }

    public int restore() throws IllegalStateException {
        if (!hasSaved) {
            throw new IllegalStateException("there is no saved copy");
        }
        court.copyFrom(saved);
        history.forgetAll();
        return court.cases;
    }

    /** The way of all seven changes: refuse, or remember the court for undo and change it. */
    private int change(int kind, int first, int second, boolean flag, int strength) {
        refuse(court.faultOf(kind, first, second, strength));
        history.keep(court);
        return court.perform(kind, first, second, flag, strength);
    }

    private static void refuse(Fault fault) {
        if (fault == Fault.INDEX) {
            throw new IndexOutOfBoundsException("no such case or witness");
        }
        if (fault == Fault.ARGUMENT) {
            throw new IllegalArgumentException("an argument is out of range");
        }
        if (fault == Fault.ELEMENT) {
            throw new NoSuchElementException("the witness has not testified in the case");
        }
        if (fault == Fault.STATE) {
            throw new IllegalStateException("the court's state does not allow this");
        }
    }

    /** Executes all commands, or none: on a fault the court is put back and the fault stored. */
    private boolean executeProgram() {
        beforeRun.copyFrom(court);
        for (int index = 0; index < program.size; index++) {
            int kind = program.kinds.get(index);
            int first = program.firsts.get(index);
            int second = program.seconds.get(index);
            int strength = program.strengths.get(index);
            Fault fault = court.faultOf(kind, first, second, strength);
            if (fault != Fault.NONE) {
                court.copyFrom(beforeRun);
                storedFailure = index;
                isStoredFailureOfState = fault == Fault.STATE;
                return false;
            }
            court.perform(kind, first, second, program.flags.get(index) != 0, strength);
        }
        history.keep(beforeRun);
        return true;
    }

    private void needCase(int caseNumber) {
        if (!court.hasCase(caseNumber)) {
            throw new IndexOutOfBoundsException("no such case");
        }
    }

    private void needWitness(int witness) {
        if (!court.hasWitness(witness)) {
            throw new IndexOutOfBoundsException("no such witness");
        }
    }

    private void needTestimony(int caseNumber, int witness) {
        needCase(caseNumber);
        needWitness(witness);
        if (!court.hasHeard(caseNumber, witness)) {
            throw new NoSuchElementException("the witness has not testified in the case");
        }
    }

    private void needFailure() {
        if (storedFailure == NOTHING) {
            throw new NoSuchElementException("no command failed so far");
        }
    }

    private static void needDefendant(int defendant) {
        if (!isDefendant(defendant)) {
            throw new IllegalArgumentException("no such defendant");
        }
    }

    private static boolean isDefendant(int defendant) {
        return defendant >= 0 && defendant < DEFENDANTS;
    }

    private static boolean isOffence(int offence) {
        return offence >= 0 && offence < OFFENCES;
    }

    private void writeHead(int caseNumber) {
        line.append(caseNumber);
        line.append(':');
        line.append(court.defendants.get(caseNumber));
        line.append('/');
        line.append(court.offences.get(caseNumber));
        if (court.isIn(OPEN, caseNumber)) {
            line.append('o');
        } else {
            line.append(court.isFoundGuilty(caseNumber) ? 'g' : 'n');
        }
        if (court.isIn(CLOSED, caseNumber)) {
            line.append('.');
        }
    }

    private void writeTestimony(int caseNumber, int witness) {
        line.append(' ');
        line.append(court.sideOf(caseNumber, witness) > 0 ? '+' : '-');
        line.append(witness);
        line.append('*');
        line.append(court.strengthOf(caseNumber, witness));
    }

    private boolean doMarginsAgree() {
        for (int caseNumber = 0; caseNumber < court.cases; caseNumber++) {
            if (Weights.marginByTestimony(court, caseNumber) != Weights.marginByLevel(court, caseNumber)) {
                return false;
            }
        }
        return true;
    }

    private boolean doSentencesAgree() {
        for (int defendant = 0; defendant < DEFENDANTS; defendant++) {
            if (court.sentences.get(defendant) != court.addedSentence(defendant)) {
                return false;
            }
        }
        return true;
    }

    private boolean doConnectionsAgree() {
        for (int one = 0; one < court.witnesses; one++) {
            search.startAt(one, court);
            for (int other = 0; other < court.witnesses; other++) {
                if (court.groups.areUnited(one, other) != search.hasReached(other)) {
                    return false;
                }
            }
        }
        return true;
    }

    private boolean doesDocketAgree() {
        docket.fill(court);
        for (int caseNumber = 0; caseNumber < court.cases; caseNumber++) {
            if (court.isIn(OPEN, caseNumber) && !docket.holdsAt(court.openCasesBefore(caseNumber), caseNumber)) {
                return false;
            }
        }
        return true;
    }

    /** Why a change is refused; each stands for the exception that the document names. */
    private enum Fault {
        NONE, INDEX, ARGUMENT, ELEMENT, STATE
    }

    /** Numbers by index. It tests every index itself, so that no reader or writer of it can make the machine throw. */
    private static final class Row {
        private final int[] cells;

        Row(int size) {
            cells = new int[size < 0 ? 0 : size];
        }

        int get(int index) {
            return index >= 0 && index < cells.length ? cells[index] : 0;
        }

        void put(int index, int value) {
            if (index >= 0 && index < cells.length) {
                cells[index] = value;
            }
        }

        void add(int index, int amount) {
            put(index, get(index) + amount);
        }

        void clear() {
            for (int index = 0; index < cells.length; index++) {
                cells[index] = 0;
            }
        }

        void copyFrom(Row other) {
            System.arraycopy(other.cells, 0, cells, 0, Math.min(cells.length, other.cells.length));
        }
    }

    /** Everything that changes can change, so that one copy of it serves undo, save and a failed run. */
    private static final class Court {
        private int cases = 0;
        private int witnesses = 0;
        private int decisions = 0;
        private int questionsAsked = 0;
        private final Row defendants = new Row(CASE_LIMIT);
        private final Row offences = new Row(CASE_LIMIT);
        private final Row phases = new Row(CASE_LIMIT);
        private final Row guilts = new Row(CASE_LIMIT);
        private final Row appeals = new Row(CASE_LIMIT);
        private final Row testimonies = new Row(CASE_LIMIT);
        private final Row hearingOrder = new Row(CASE_LIMIT * TESTIMONY_LIMIT);
        private final Row sides = new Row(CASE_LIMIT * WITNESS_LIMIT);
        private final Row strengths = new Row(CASE_LIMIT * WITNESS_LIMIT);
        private final Row questions = new Row(CASE_LIMIT * WITNESS_LIMIT);
        private final Row credibilities = new Row(WITNESS_LIMIT);
        private final Row sentences = new Row(DEFENDANTS);
        private final Groups groups = new Groups();

        void copyFrom(Court other) {
            cases = other.cases;
            witnesses = other.witnesses;
            decisions = other.decisions;
            questionsAsked = other.questionsAsked;
            defendants.copyFrom(other.defendants);
            offences.copyFrom(other.offences);
            phases.copyFrom(other.phases);
            guilts.copyFrom(other.guilts);
            appeals.copyFrom(other.appeals);
            testimonies.copyFrom(other.testimonies);
            hearingOrder.copyFrom(other.hearingOrder);
            sides.copyFrom(other.sides);
            strengths.copyFrom(other.strengths);
            questions.copyFrom(other.questions);
            credibilities.copyFrom(other.credibilities);
            sentences.copyFrom(other.sentences);
            groups.parents.copyFrom(other.groups.parents);
        }

        Fault faultOf(int kind, int first, int second, int strength) {
            switch (kind) {
                case CHARGE:
                    return faultOfCharge(first, second);
                case WITNESS:
                    return faultOfWitness(first);
                case TESTIFY:
                    return faultOfTestimony(first, second, strength);
                case QUESTION:
                    return faultOfQuestion(first, second);
                case DECIDE:
                    return faultOfDecision(first);
                default:
                    return faultAfterVerdict(first);
            }
        }

        /** Carries out a change that faultOf found faultless, and gives the answer of its method. */
        int perform(int kind, int first, int second, boolean flag, int strength) {
            switch (kind) {
                case CHARGE:
                    return openCase(first, second);
                case WITNESS:
                    return register(first);
                case TESTIFY:
                    return hear(first, second, flag, strength);
                case QUESTION:
                    return ask(first, second, flag);
                case DECIDE:
                    return judge(first);
                case APPEAL:
                    return reopen(first);
                default:
                    return finish(first);
            }
        }

        private Fault faultOfCharge(int defendant, int offence) {
            if (!isDefendant(defendant) || !isOffence(offence)) {
                return Fault.ARGUMENT;
            }
            boolean isKnown = caseAgainst(defendant, offence) != NOTHING;
            return isKnown || cases >= CASE_LIMIT ? Fault.STATE : Fault.NONE;
        }

        private Fault faultOfWitness(int credibility) {
            if (credibility < 0 || credibility > TOP_CREDIBILITY) {
                return Fault.ARGUMENT;
            }
            return witnesses >= WITNESS_LIMIT ? Fault.STATE : Fault.NONE;
        }

        private Fault faultOfTestimony(int caseNumber, int witness, int strength) {
            if (!hasCase(caseNumber) || !hasWitness(witness)) {
                return Fault.INDEX;
            }
            if (strength < 1 || strength > TOP_STRENGTH) {
                return Fault.ARGUMENT;
            }
            boolean isFull = testimonies.get(caseNumber) >= TESTIMONY_LIMIT;
            boolean isRefused = !isIn(OPEN, caseNumber) || hasHeard(caseNumber, witness) || isFull;
            return isRefused ? Fault.STATE : Fault.NONE;
        }

        private Fault faultOfQuestion(int caseNumber, int witness) {
            if (!hasCase(caseNumber) || !hasWitness(witness)) {
                return Fault.INDEX;
            }
            if (!hasHeard(caseNumber, witness)) {
                return Fault.ELEMENT;
            }
            boolean isUsedUp = questionsTo(caseNumber, witness) >= QUESTION_LIMIT;
            return !isIn(OPEN, caseNumber) || isUsedUp ? Fault.STATE : Fault.NONE;
        }

        private Fault faultOfDecision(int caseNumber) {
            if (!hasCase(caseNumber)) {
                return Fault.INDEX;
            }
            boolean isReady = isIn(OPEN, caseNumber) && testimonies.get(caseNumber) > 0;
            return isReady ? Fault.NONE : Fault.STATE;
        }

        /** For appeal and close. A decided case has always an appeal left: the decision after the last closes it. */
        private Fault faultAfterVerdict(int caseNumber) {
            if (!hasCase(caseNumber)) {
                return Fault.INDEX;
            }
            return isIn(DECIDED, caseNumber) ? Fault.NONE : Fault.STATE;
        }

        private int openCase(int defendant, int offence) {
            int caseNumber = cases;
            defendants.put(caseNumber, defendant);
            offences.put(caseNumber, offence);
            phases.put(caseNumber, OPEN);
            cases = caseNumber + 1;
            return caseNumber;
        }

        private int register(int credibility) {
            int witness = witnesses;
            credibilities.put(witness, credibility);
            groups.found(witness);
            witnesses = witness + 1;
            return witness;
        }

        private int hear(int caseNumber, int witness, boolean isProsecution, int strength) {
            int position = testimonies.get(caseNumber);
            hearingOrder.put(caseNumber * TESTIMONY_LIMIT + position, witness);
            sides.put(cellOf(caseNumber, witness), isProsecution ? 1 : -1);
            strengths.put(cellOf(caseNumber, witness), strength);
            testimonies.put(caseNumber, position + 1);
            groups.unite(witnessHeardAt(caseNumber, 0), witness);
            return position + 1;
        }

        private int ask(int caseNumber, int witness, boolean isFirm) {
            int credibility = credibilities.get(witness);
            int moved = isFirm ? Math.min(credibility + 1, TOP_CREDIBILITY) : Math.max(credibility - 2, 0);
            credibilities.put(witness, moved);
            questions.add(cellOf(caseNumber, witness), 1);
            questionsAsked++;
            return moved;
        }

        private int judge(int caseNumber) {
            boolean isGuiltyNow = Weights.marginByTestimony(this, caseNumber) > 0;
            if (isGuiltyNow) {
                sentences.add(defendants.get(caseNumber), severityIn(caseNumber));
            }
            guilts.put(caseNumber, isGuiltyNow ? 1 : 0);
            phases.put(caseNumber, appeals.get(caseNumber) >= APPEAL_LIMIT ? CLOSED : DECIDED);
            decisions++;
            return isGuiltyNow ? 1 : 0;
        }

        private int reopen(int caseNumber) {
            if (isFoundGuilty(caseNumber)) {
                sentences.add(defendants.get(caseNumber), -severityIn(caseNumber));
            }
            guilts.put(caseNumber, 0);
            phases.put(caseNumber, OPEN);
            appeals.add(caseNumber, 1);
            return appeals.get(caseNumber);
        }

        private int finish(int caseNumber) {
            phases.put(caseNumber, CLOSED);
            return countIn(CLOSED);
        }

        boolean hasCase(int caseNumber) {
            return caseNumber >= 0 && caseNumber < cases;
        }

        boolean hasWitness(int witness) {
            return witness >= 0 && witness < witnesses;
        }

        boolean isIn(int phase, int caseNumber) {
            return phases.get(caseNumber) == phase;
        }

        boolean isFoundGuilty(int caseNumber) {
            return guilts.get(caseNumber) != 0;
        }

        int severityIn(int caseNumber) {
            return offences.get(caseNumber) + 1;
        }

        int caseAgainst(int defendant, int offence) {
            for (int caseNumber = 0; caseNumber < cases; caseNumber++) {
                if (defendants.get(caseNumber) == defendant && offences.get(caseNumber) == offence) {
                    return caseNumber;
                }
            }
            return NOTHING;
        }

        private static int cellOf(int caseNumber, int witness) {
            return caseNumber * WITNESS_LIMIT + witness;
        }

        boolean hasHeard(int caseNumber, int witness) {
            return strengths.get(cellOf(caseNumber, witness)) > 0;
        }

        int witnessHeardAt(int caseNumber, int position) {
            return hearingOrder.get(caseNumber * TESTIMONY_LIMIT + position);
        }

        /** 1 for the prosecution, -1 for the defence, 0 for a witness who was not heard. */
        int sideOf(int caseNumber, int witness) {
            return sides.get(cellOf(caseNumber, witness));
        }

        int strengthOf(int caseNumber, int witness) {
            return strengths.get(cellOf(caseNumber, witness));
        }

        int weightOf(int caseNumber, int witness) {
            return strengths.get(cellOf(caseNumber, witness)) * credibilities.get(witness);
        }

        int questionsTo(int caseNumber, int witness) {
            return questions.get(cellOf(caseNumber, witness));
        }

        int casesHearing(int witness) {
            int count = 0;
            for (int caseNumber = 0; caseNumber < cases; caseNumber++) {
                if (hasHeard(caseNumber, witness)) {
                    count++;
                }
            }
            return count;
        }

        int agreementOf(int one, int other) {
            int sum = 0;
            for (int caseNumber = 0; caseNumber < cases; caseNumber++) {
                // A side is 0 where a witness was not heard, so only cases of both count.
                sum += sideOf(caseNumber, one) * sideOf(caseNumber, other);
            }
            return sum;
        }

        int witnessOfRank(int rank) {
            for (int witness = 0; witness < witnesses; witness++) {
                if (rankOf(witness) == rank) {
                    return witness;
                }
            }
            return NOTHING;
        }

        private int rankOf(int witness) {
            int rank = 0;
            for (int other = 0; other < witnesses; other++) {
                if (isMoreCredible(other, witness)) {
                    rank++;
                }
            }
            return rank;
        }

        private boolean isMoreCredible(int one, int other) {
            if (credibilities.get(one) != credibilities.get(other)) {
                return credibilities.get(one) > credibilities.get(other);
            }
            int ofOne = casesHearing(one);
            int ofOther = casesHearing(other);
            return ofOne != ofOther ? ofOne > ofOther : one < other;
        }

        int credibilitySum() {
            int sum = 0;
            for (int witness = 0; witness < witnesses; witness++) {
                sum += credibilities.get(witness);
            }
            return sum;
        }

        int addedSentence(int defendant) {
            int sum = 0;
            for (int caseNumber = 0; caseNumber < cases; caseNumber++) {
                if (defendants.get(caseNumber) == defendant && isFoundGuilty(caseNumber)) {
                    sum += severityIn(caseNumber);
                }
            }
            return sum;
        }

        int countIn(int phase) {
            int count = 0;
            for (int caseNumber = 0; caseNumber < cases; caseNumber++) {
                if (isIn(phase, caseNumber)) {
                    count++;
                }
            }
            return count;
        }

        int countGuilty() {
            int count = 0;
            for (int caseNumber = 0; caseNumber < cases; caseNumber++) {
                if (isFoundGuilty(caseNumber)) {
                    count++;
                }
            }
            return count;
        }

        int openCasesBefore(int caseNumber) {
            int count = 0;
            for (int other = 0; other < cases; other++) {
                if (isIn(OPEN, other) && comesBefore(other, caseNumber)) {
                    count++;
                }
            }
            return count;
        }

        boolean comesBefore(int one, int other) {
            if (offences.get(one) != offences.get(other)) {
                return offences.get(one) > offences.get(other);
            }
            if (testimonies.get(one) != testimonies.get(other)) {
                return testimonies.get(one) > testimonies.get(other);
            }
            return one < other;
        }
    }

    /** The groups of witnesses as a union-find structure: a witness that is its own parent stands for its group. */
    private static final class Groups {
        private final Row parents = new Row(WITNESS_LIMIT);

        void found(int witness) {
            parents.put(witness, witness);
        }

        void unite(int one, int other) {
            parents.put(rootOf(other), rootOf(one));
        }

        boolean areUnited(int one, int other) {
            return rootOf(one) == rootOf(other);
        }

        int sizeAround(int witness, int witnesses) {
            int size = 0;
            for (int other = 0; other < witnesses; other++) {
                if (areUnited(witness, other)) {
                    size++;
                }
            }
            return size;
        }

        int countAmong(int witnesses) {
            int count = 0;
            for (int witness = 0; witness < witnesses; witness++) {
                if (parents.get(witness) == witness) {
                    count++;
                }
            }
            return count;
        }

        private int rootOf(int witness) {
            int root = witness;
            for (int step = 0; step < WITNESS_LIMIT && parents.get(root) != root; step++) {
                root = parents.get(root);
            }
            return root;
        }
    }

    /** Breadth-first search for the group of a witness, over the testimonies and not over the union-find structure. */
    private static final class Search {
        private final Row queue = new Row(WITNESS_LIMIT);
        private final Row reached = new Row(WITNESS_LIMIT);
        private int queued = 0;

        void startAt(int witness, Court court) {
            reached.clear();
            queued = 0;
            reach(witness);
            for (int head = 0; head < queued && head < WITNESS_LIMIT; head++) {
                spreadFrom(queue.get(head), court);
            }
        }

        boolean hasReached(int witness) {
            return reached.get(witness) != 0;
        }

        private void spreadFrom(int witness, Court court) {
            for (int caseNumber = 0; caseNumber < court.cases; caseNumber++) {
                if (court.hasHeard(caseNumber, witness)) {
                    reachAllOf(caseNumber, court);
                }
            }
        }

        private void reachAllOf(int caseNumber, Court court) {
            for (int position = 0; position < court.testimonies.get(caseNumber); position++) {
                reach(court.witnessHeardAt(caseNumber, position));
            }
        }

        private void reach(int witness) {
            if (reached.get(witness) == 0) {
                reached.put(witness, 1);
                queue.put(queued, witness);
                queued++;
            }
        }
    }

    /** The weights of the testimonies in a case, and what follows from them for its verdict. */
    private static final class Weights {
        static int ofSide(Court court, int caseNumber, int side) {
            int sum = 0;
            for (int position = 0; position < court.testimonies.get(caseNumber); position++) {
                int witness = court.witnessHeardAt(caseNumber, position);
                if (court.sideOf(caseNumber, witness) == side) {
                    sum += court.weightOf(caseNumber, witness);
                }
            }
            return sum;
        }

        static int marginByTestimony(Court court, int caseNumber) {
            int margin = -2 * court.severityIn(caseNumber);
            for (int position = 0; position < court.testimonies.get(caseNumber); position++) {
                int witness = court.witnessHeardAt(caseNumber, position);
                margin += court.sideOf(caseNumber, witness) * court.weightOf(caseNumber, witness);
            }
            return margin;
        }

        static int marginByLevel(Court court, int caseNumber) {
            int margin = -2 * court.severityIn(caseNumber);
            for (int level = 0; level <= TOP_CREDIBILITY; level++) {
                margin += level * signedStrengthsAt(level, court, caseNumber);
            }
            return margin;
        }

        private static int signedStrengthsAt(int level, Court court, int caseNumber) {
            int sum = 0;
            for (int position = 0; position < court.testimonies.get(caseNumber); position++) {
                int witness = court.witnessHeardAt(caseNumber, position);
                if (court.credibilities.get(witness) == level) {
                    sum += court.sideOf(caseNumber, witness) * court.strengthOf(caseNumber, witness);
                }
            }
            return sum;
        }

        static int heaviestIn(Court court, int caseNumber) {
            int heaviest = court.witnessHeardAt(caseNumber, 0);
            for (int position = 1; position < court.testimonies.get(caseNumber); position++) {
                int witness = court.witnessHeardAt(caseNumber, position);
                if (court.weightOf(caseNumber, witness) > court.weightOf(caseNumber, heaviest)) {
                    heaviest = witness;
                }
            }
            return heaviest;
        }

        /** NOTHING if no number of firm answers is enough: credibility stops at its top, and the defence only loses. */
        static int firmAnswersNeeded(Court court, int caseNumber, int witness) {
            int gain = court.sideOf(caseNumber, witness) * court.strengthOf(caseNumber, witness);
            int room = TOP_CREDIBILITY - court.credibilities.get(witness);
            int margin = marginByTestimony(court, caseNumber);
            for (int answers = 0; answers <= room; answers++) {
                if (margin + answers * gain > 0) {
                    return answers;
                }
            }
            return NOTHING;
        }
    }

    /** The open cases in their order, sorted anew by fill; docketPosition counts instead: each checks the other. */
    private static final class Docket {
        private final Row order = new Row(CASE_LIMIT);
        private int length = 0;

        void fill(Court court) {
            length = 0;
            for (int caseNumber = 0; caseNumber < court.cases; caseNumber++) {
                if (court.isIn(OPEN, caseNumber)) {
                    insert(caseNumber, court);
                }
            }
        }

        private void insert(int caseNumber, Court court) {
            int place = length;
            while (place > 0 && court.comesBefore(caseNumber, order.get(place - 1))) {
                order.put(place, order.get(place - 1));
                place--;
            }
            order.put(place, caseNumber);
            length++;
        }

        boolean holdsAt(int position, int caseNumber) {
            return position < length && order.get(position) == caseNumber;
        }

        int firstHeard(Court court) {
            for (int position = 0; position < length; position++) {
                if (court.testimonies.get(order.get(position)) > 0) {
                    return order.get(position);
                }
            }
            return NOTHING;
        }
    }

    /** The court as it was before each of the latest changes, in a ring whose oldest place is used again. */
    private static final class History {
        private final Court[] places = new Court[UNDO_LIMIT];
        private int next = 0;
        private int size = 0;

        History() {
            for (int index = 0; index < places.length; index++) {
                places[index] = new Court();
            }
        }

        void keep(Court court) {
            Court place = placeAt(next);
            if (place != null) {
                place.copyFrom(court);
                next = next + 1 < UNDO_LIMIT ? next + 1 : 0;
                size = Math.min(size + 1, UNDO_LIMIT);
            }
        }

        void takeLatest(Court court) {
            int latest = next > 0 ? next - 1 : UNDO_LIMIT - 1;
            Court place = placeAt(latest);
            if (place != null && size > 0) {
                court.copyFrom(place);
                next = latest;
                size--;
            }
        }

        void forgetAll() {
            size = 0;
        }

        private Court placeAt(int index) {
            return index >= 0 && index < places.length ? places[index] : null;
        }
    }

    /** The input buffer and the commands read from it; where reading failed, position is the error position. */
    private static final class Program {
        private final StringBuilder input = new StringBuilder();
        private int position = 0;
        private int size = 0;
        private final Row kinds = new Row(INPUT_LIMIT / SHORTEST_COMMAND);
        private final Row firsts = new Row(INPUT_LIMIT / SHORTEST_COMMAND);
        private final Row seconds = new Row(INPUT_LIMIT / SHORTEST_COMMAND);
        private final Row flags = new Row(INPUT_LIMIT / SHORTEST_COMMAND);
        private final Row strengths = new Row(INPUT_LIMIT / SHORTEST_COMMAND);

        boolean parse() {
            position = 0;
            size = 0;
            for (int round = 0; round <= INPUT_LIMIT; round++) {
                int kind = readKeyword();
                if (kind == NOTHING || !readArguments(kind)) {
                    return false;
                }
                kinds.put(size, kind);
                size++;
                if (position == input.length()) {
                    return true;
                }
                if (!readSign(';')) {
                    return false;
                }
            }
            return false;
        }

        /** Takes the keyword that the input follows furthest, so that a wrong letter is found where none goes on. */
        private int readKeyword() {
            int best = CHARGE;
            for (int kind = 0; kind < KINDS; kind++) {
                if (followed(keywordOf(kind)) > followed(keywordOf(best))) {
                    best = kind;
                }
            }
            int letters = followed(keywordOf(best));
            position += letters;
            return letters == keywordOf(best).length() ? best : NOTHING;
        }

        private int followed(String keyword) {
            int letters = 0;
            while (letters < keyword.length() && signAt(position + letters) == keyword.charAt(letters)) {
                letters++;
            }
            return letters;
        }

        private static String keywordOf(int kind) {
            switch (kind) {
                case CHARGE:
                    return "charge ";
                case WITNESS:
                    return "witness ";
                case TESTIFY:
                    return "testify ";
                case QUESTION:
                    return "question ";
                case DECIDE:
                    return "decide ";
                case APPEAL:
                    return "appeal ";
                default:
                    return "close ";
            }
        }

        private boolean readArguments(int kind) {
            switch (kind) {
                case CHARGE:
                    return readDigit(firsts) && readSign(' ') && readDigit(seconds);
                case WITNESS:
                    return readDigit(firsts);
                case TESTIFY:
                    return readCaseAndWitness() && readFlag('+', '-') && readDigit(strengths);
                case QUESTION:
                    return readCaseAndWitness() && readFlag('!', '?');
                default:
                    return readNumber(firsts);
            }
        }

        private boolean readCaseAndWitness() {
            return readNumber(firsts) && readSign(' ') && readDigit(seconds);
        }

        private boolean readNumber(Row target) {
            if (!readDigit(target)) {
                return false;
            }
            int tens = target.get(size);
            if (readDigit(target)) {
                target.add(size, 10 * tens);
            }
            return true;
        }

        private boolean readDigit(Row target) {
            char sign = signAt(position);
            if (sign < '0' || sign > '9') {
                return false;
            }
            target.put(size, sign - '0');
            position++;
            return true;
        }

        private boolean readFlag(char yes, char no) {
            boolean isYes = signAt(position) == yes;
            flags.put(size, isYes ? 1 : 0);
            return readSign(isYes ? yes : no);
        }

        private boolean readSign(char sign) {
            if (signAt(position) != sign) {
                return false;
            }
            position++;
            return true;
        }

        /** Behind the end stands a sign that the input buffer cannot hold, so that it never fits. */
        private char signAt(int index) {
            return index >= 0 && index < input.length() ? input.charAt(index) : (char) 0;
        }
    }
}
