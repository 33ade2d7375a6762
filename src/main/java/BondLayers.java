/**
 * Bonds among contractors: persons with cash, bonds for works with those bound in layers, calls by
 * proof that are paid by the principal first and then by the layers, one by one or shared by their
 * limits, recourse as debts, counter-guarantors in chains who make good a part, release by
 * milestones, limits that are trimmed from the last layer on, what a call would take and from whom,
 * bonds as texts with errors by place, and undo.
 */
public final class BondLayers {
    /** There is nothing to return. */
    public static final int NONE = -1;

    private static final int PERSONS = 8;
    private static final int MOST_BONDS = 10;
    private static final int MOST_LAYERS = 4;
    private static final int MOST_MILESTONES = 5;
    private static final int MOST_AMOUNT = 99999;
    private static final int MOST_THOUSANDTHS = 1000;
    private static final int MOST_SAVED = 6;
    private static final int MOST_CHARACTERS = 60;

    private static final int SETTINGS = 3;
    private static final int LEAST_PROOF = 0;
    private static final int KEPT_PERCENT = 1;
    private static final int TIMES_BOUND = 2;

    private static final int LAST_PERSON_PROPERTY = 10;
    private static final int LAST_BOND_PROPERTY = 11;
    private static final int LAST_LAYER_PROPERTY = 3;
    private static final int LAST_COUNT = 9;
    private static final int LAST_EFFECT = 10;
    private static final int DIGEST_AMOUNT = 1000;

    private final State state = new State();
    private final History history = new History();
    private final BondText text = new BondText();
    private final Payment payment = new Payment();

    /** Creates persons without cash, without bonds, with an empty buffer. */
    public BondLayers() {
    }

    // ---- persons

    /** Brings cash in, and returns the cash then. Undoable. */
    public int bring(int person, int amount) throws IndexOutOfBoundsException, IllegalArgumentException {
        requirePerson(person);
        requireAmount(amount);
        history.save(state);
        state.addCash(person, amount);
        state.addBrought(amount);
        return state.fact(person, State.CASH);
    }

    /** Takes cash out, and returns the cash then. Undoable. */
    public int takeOut(int person, int amount)
            throws IndexOutOfBoundsException, IllegalArgumentException, IllegalStateException {
        requirePerson(person);
        requireAmount(amount);
        if (amount > state.spareCash(person)) {
            throw new IllegalStateException("the cash is less, or less than what has to be kept would stay");
        }
        history.save(state);
        state.addCash(person, -amount);
        state.addBrought(-amount);
        return state.fact(person, State.CASH);
    }

    /** Gives a person a counter-guarantor or none, and returns the previous one. Undoable. */
    public int guarantee(int person, int guarantor, int percent)
            throws IndexOutOfBoundsException, IllegalArgumentException, IllegalStateException {
        requirePerson(person);
        if (guarantor != NONE) {
            requirePerson(guarantor);
            requireRange(percent, 1, 100);
            if (state.chainHolds(guarantor, person)) {
                throw new IllegalStateException("somebody would be in the own chain");
            }
        }
        history.save(state);
        int previous = state.fact(person, State.GUARANTOR);
        state.putFact(person, State.GUARANTOR, guarantor);
        state.putFact(person, State.PERCENT, guarantor == NONE ? 0 : percent);
        return previous;
    }

    /** Pays a debt back, and returns what is owed then. Undoable. */
    public int repay(int person, int other, int amount)
            throws IndexOutOfBoundsException, IllegalArgumentException, IllegalStateException {
        requirePerson(person);
        requirePerson(other);
        requireAmount(amount);
        if (state.owed(person, other) < amount || state.fact(person, State.CASH) < amount) {
            throw new IllegalStateException("less is owed, or the cash is less");
        }
        history.save(state);
        state.addCash(person, -amount);
        state.addCash(other, amount);
        state.addOwed(person, other, -amount);
        return state.owed(person, other);
    }

    /** Changes a setting, and returns the previous value. Undoable. */
    public int set(int setting, int value) throws IndexOutOfBoundsException, IllegalArgumentException {
        requireSetting(setting);
        requireRange(value, leastOfSetting(setting), mostOfSetting(setting));
        history.save(state);
        int previous = state.settingValue(setting);
        state.putSetting(setting, value);
        return previous;
    }

    // ---- bonds

    /** Calls a bond, and returns what is paid. Undoable. */
    public int call(int bond, int amount, int proof)
            throws IndexOutOfBoundsException, IllegalArgumentException, IllegalStateException {
        requireBond(bond);
        requireAmount(amount);
        requireRange(proof, 0, 9);
        requireRunning(bond);
        if (proof < state.settingValue(LEAST_PROOF)) {
            throw new IllegalStateException("the proof is less than the least one");
        }
        history.save(state);
        payment.draw(state, bond, amount);
        payment.carryOut(state);
        return payment.paid();
    }

    /** Reaches the next milestone of a bond, and returns what is released by it. Undoable. */
    public int reach(int bond) throws IndexOutOfBoundsException, IllegalStateException {
        requireBond(bond);
        requireRunning(bond);
        int reached = state.bondFact(bond, State.REACHED);
        if (reached >= state.bondFact(bond, State.MILESTONES)) {
            throw new IllegalStateException("all of its milestones were reached");
        }
        history.save(state);
        int share = state.bondFact(bond, State.SUM) * state.milestoneShare(bond, reached) / 1000;
        int released = Math.min(share, state.leftOfBond(bond));
        state.addBondFact(bond, State.REACHED, 1);
        state.release(bond, released);
        return released;
    }

    /** Ends a bond, and returns what is released by it. Undoable. */
    public int end(int bond) throws IndexOutOfBoundsException, IllegalStateException {
        requireBond(bond);
        requireRunning(bond);
        history.save(state);
        int released = state.leftOfBond(bond);
        state.release(bond, released);
        state.putBondFact(bond, State.RUNS, 0);
        return released;
    }

    // ---- texts

    /** Appends a character to the buffer, and returns the new length. */
    public int append(int code) throws IllegalArgumentException, IllegalStateException {
        requireRange(code, 33, 126);
        if (text.length() >= MOST_CHARACTERS) {
            throw new IllegalStateException("the buffer is full");
        }
        text.add(code);
        return text.length();
    }

    /** Clears the buffer, and returns the length that it had. */
    public int clearBuffer() {
        int length = text.length();
        text.clear();
        return length;
    }

    /** Returns the index of the first syntax error of the buffer, its length if there is none. */
    public int firstError() {
        return text.read();
    }

    /** Gives the bond of the buffer, clears the buffer, and returns the bond's number. Undoable. */
    public int give() throws IllegalArgumentException, IllegalStateException {
        text.read();
        if (!text.isBond() || !text.isSound()) {
            throw new IllegalArgumentException("the buffer is not a bond that can be given");
        }
        if (state.bondCount() >= MOST_BONDS || isTooMuchForSomebody()) {
            throw new IllegalStateException("there are too many bonds, or a surety would be bound for too much");
        }
        history.save(state);
        int bond = state.addBond(text);
        text.clear();
        return bond;
    }

    /** Restores the latest saved state, and returns how many are left. */
    public int undo() throws IllegalStateException {
        if (history.size() == 0) {
            throw new IllegalStateException("there is no saved state");
        }
        history.restoreLatest(state);
        return history.size();
    }

    // ---- looks; nothing is changed

    /** Returns a property of a person. */
    public int person(int person, int what) throws IndexOutOfBoundsException, IllegalArgumentException {
        requirePerson(person);
        requireRange(what, 0, LAST_PERSON_PROPERTY);
        switch (what) {
            case 0: return state.fact(person, State.CASH);
            case 1: return state.owedBy(person);
            case 2: return state.owedTo(person);
            case 3: return state.boundFor(person);
            case 4: return state.fact(person, State.GUARANTOR);
            case 5: return state.fact(person, State.PERCENT);
            case 6: return state.chainLength(person);
            case 7: return state.fact(person, State.AS_PRINCIPAL);
            case 8: return state.fact(person, State.AS_SURETY);
            case 9: return state.fact(person, State.AS_COUNTER);
            default: return state.runningBondsOf(person);
        }
    }

    /** Returns a property of a bond. */
    public int bond(int bond, int what) throws IndexOutOfBoundsException, IllegalArgumentException {
        requireBond(bond);
        requireRange(what, 0, LAST_BOND_PROPERTY);
        switch (what) {
            case 9: return state.leftOfBond(bond);
            case 10: return state.leftOfLimits(bond);
            case 11: return state.bondFact(bond, State.RUNS);
            default: return state.bondFact(bond, what);
        }
    }

    /** Returns a property of a layer. */
    public int layer(int bond, int layer, int what) throws IndexOutOfBoundsException, IllegalArgumentException {
        requireBond(bond);
        if (layer < 0 || layer >= state.bondFact(bond, State.LAYERS)) {
            throw new IndexOutOfBoundsException("there is no such layer");
        }
        requireRange(what, 0, LAST_LAYER_PROPERTY);
        return state.layerFact(bond, layer, what);
    }

    /** Returns what a person owes to another one. */
    public int debt(int person, int other) throws IndexOutOfBoundsException {
        requirePerson(person);
        requirePerson(other);
        return state.owed(person, other);
    }

    /** Returns a number. */
    public int count(int what) throws IllegalArgumentException {
        requireRange(what, 0, LAST_COUNT);
        switch (what) {
            case 0: return state.bondCount();
            case 1: return state.sumOverBonds(State.RUNS);
            case 2: return state.cashOfAll();
            case 3: return state.brought();
            case 4: return state.sumOverBonds(State.CALLED);
            case 5: return state.sumOverBonds(State.PAID);
            case 6: return state.sumOverBonds(State.CALLED) - state.sumOverBonds(State.PAID);
            case 7: return state.debtsOfAll();
            case 8: return state.sumOverBonds(State.RELEASED);
            default: return history.size();
        }
    }

    /** Returns a setting. */
    public int setting(int setting) throws IndexOutOfBoundsException {
        requireSetting(setting);
        return state.settingValue(setting);
    }

    // ---- what would be; nothing is changed

    /** Tells what a call would do (whatever its proof). */
    public int ifCalled(int bond, int amount, int what) throws IndexOutOfBoundsException, IllegalArgumentException {
        requireBond(bond);
        requireAmount(amount);
        requireRange(what, 0, LAST_EFFECT);
        payment.draw(state, bond, amount);
        return payment.effect(state, what);
    }

    /** Finds the layer whose cash is too little. */
    public int thin(int bond) throws IndexOutOfBoundsException {
        requireBond(bond);
        payment.draw(state, bond, state.leftOfBond(bond));
        return payment.thinLayer();
    }

    /** Finds the worst bond. */
    public int worst() {
        int worst = NONE;
        int greatest = 0;
        for (int bond = 0; bond < state.bondCount(); bond++) {
            payment.draw(state, bond, state.leftOfBond(bond));
            if (payment.loss() > greatest) {
                greatest = payment.loss();
                worst = bond;
            }
        }
        return worst;
    }

    /** Tells how much cash a person can take out. */
    public int spare(int person) throws IndexOutOfBoundsException {
        requirePerson(person);
        return state.spareCash(person);
    }

    /** Returns how much of what was called was paid. */
    public double paidShare() {
        int called = state.sumOverBonds(State.CALLED);
        if (called == 0) {
            return 1.0;
        }
        return (double) state.sumOverBonds(State.PAID) / called;
    }

    /** Computes a hash of the whole state. */
    public long digest() {
        long hash = 2503L;
        for (int what = 0; what <= LAST_COUNT; what++) {
            hash = mix(hash, count(what));
        }
        for (int setting = 0; setting < SETTINGS; setting++) {
            hash = mix(hash, setting(setting));
        }
        for (int person = 0; person < PERSONS; person++) {
            hash = mixPerson(hash, person);
        }
        for (int bond = 0; bond < state.bondCount(); bond++) {
            hash = mixBond(hash, bond);
        }
        hash = mix(hash, worst());
        hash = mix(hash, bitsOfShare(paidShare()));
        hash = mix(hash, text.length());
        for (int index = 0; index < text.length(); index++) {
            hash = mix(hash, text.codeAt(index));
        }
        return hash;
    }

    private static long mix(long hash, long value) {
        return 31L * hash + value;
    }

    private long mixPerson(long start, int person) {
        long hash = start;
        for (int what = 0; what <= LAST_PERSON_PROPERTY; what++) {
            hash = mix(hash, person(person, what));
        }
        hash = mix(hash, spare(person));
        for (int other = 0; other < PERSONS; other++) {
            hash = mix(hash, debt(person, other));
        }
        return hash;
    }

    private long mixBond(long start, int bond) {
        long hash = start;
        for (int what = 0; what <= LAST_BOND_PROPERTY; what++) {
            hash = mix(hash, bond(bond, what));
        }
        for (int layer = 0; layer < state.bondFact(bond, State.LAYERS); layer++) {
            for (int what = 0; what <= LAST_LAYER_PROPERTY; what++) {
                hash = mix(hash, layer(bond, layer, what));
            }
        }
        payment.draw(state, bond, DIGEST_AMOUNT);
        for (int what = 0; what <= LAST_EFFECT; what++) {
            hash = mix(hash, payment.effect(state, what));
        }
        return mix(hash, thin(bond));
    }

    /**
     * The bits of a double from 0 to 1, by arithmetic: the rules of the language leave out
     * Double.doubleToLongBits. Doubling is exact, and a share above 0 is far more than 2 to the -60.
     */
    private static long bitsOfShare(double share) {
        if (!(share > 0.0)) {
            return 0L;
        }
        double fraction = share;
        long exponent = 1023L;
        for (int step = 0; step < 60 && fraction < 1.0; step++) {
            fraction = fraction * 2.0;
            exponent--;
        }
        return (exponent << 52) + (long) ((fraction - 1.0) * 4503599627370496.0);
    }

    private boolean isTooMuchForSomebody() {
        for (int layer = 0; layer < text.layers(); layer++) {
            int surety = text.surety(layer);
            int most = state.fact(surety, State.CASH) * state.settingValue(TIMES_BOUND);
            if (state.boundFor(surety) + text.limit(layer) > most) {
                return true;
            }
        }
        return false;
    }

    private static int leastOfSetting(int setting) {
        return setting == TIMES_BOUND ? 1 : 0;
    }

    private static int mostOfSetting(int setting) {
        return setting == KEPT_PERCENT ? 100 : 9;
    }

    private static void requirePerson(int person) {
        if (person < 0 || person >= PERSONS) {
            throw new IndexOutOfBoundsException("there is no such person");
        }
    }

    private void requireBond(int bond) {
        if (bond < 0 || bond >= state.bondCount()) {
            throw new IndexOutOfBoundsException("there is no such bond");
        }
    }

    private static void requireSetting(int setting) {
        if (setting < 0 || setting >= SETTINGS) {
            throw new IndexOutOfBoundsException("there is no such setting");
        }
    }

    private static void requireAmount(int amount) {
        requireRange(amount, 1, MOST_AMOUNT);
    }

    private static void requireRange(int value, int least, int most) {
        if (value < least || value > most) {
            throw new IllegalArgumentException("a value is out of range");
        }
    }

    private void requireRunning(int bond) {
        if (state.bondFact(bond, State.RUNS) == 0) {
            throw new IllegalStateException("the bond does not run");
        }
    }

    /** All that undo restores, in one row of cells, so that a copy of the row is a copy of the state. */
    private static final class State {
        // the facts of a person
        static final int CASH = 0;
        static final int GUARANTOR = 1;
        static final int PERCENT = 2;
        static final int AS_PRINCIPAL = 3;
        static final int AS_SURETY = 4;
        static final int AS_COUNTER = 5;
        static final int PERSON_SIZE = 6;

        // the facts of a bond; the ones that are also properties have the numbers of those
        static final int PRINCIPAL = 0;
        static final int SUM = 1;
        static final int WAY = 2;
        static final int LAYERS = 3;
        static final int MILESTONES = 4;
        static final int REACHED = 5;
        static final int CALLED = 6;
        static final int PAID = 7;
        static final int RELEASED = 8;
        static final int RUNS = 9;
        static final int FIRST_SHARE = 10;
        static final int FIRST_LAYER = FIRST_SHARE + MOST_MILESTONES;

        // the facts of a layer, with the numbers of its properties
        static final int SURETY = 0;
        static final int LIMIT = 1;
        static final int LEFT = 2;
        static final int LAYER_PAID = 3;
        static final int LAYER_SIZE = 4;

        static final int BOND_SIZE = FIRST_LAYER + MOST_LAYERS * LAYER_SIZE;

        // where the parts of the row begin
        static final int DEBTS_AT = PERSONS * PERSON_SIZE;
        static final int SETTINGS_AT = DEBTS_AT + PERSONS * PERSONS;
        static final int BROUGHT_AT = SETTINGS_AT + SETTINGS;
        static final int COUNT_AT = BROUGHT_AT + 1;
        static final int BONDS_AT = COUNT_AT + 1;
        static final int SIZE = BONDS_AT + MOST_BONDS * BOND_SIZE;

        private final int[] cells = new int[SIZE];

        State() {
            cells[SETTINGS_AT + LEAST_PROOF] = 5;
            cells[SETTINGS_AT + KEPT_PERCENT] = 20;
            cells[SETTINGS_AT + TIMES_BOUND] = 5;
            for (int person = 0; person < PERSONS; person++) {
                cells[person * PERSON_SIZE + GUARANTOR] = NONE;
            }
        }

        void copyTo(int[] row) {
            System.arraycopy(cells, 0, row, 0, SIZE);
        }

        void copyFrom(int[] row) {
            System.arraycopy(row, 0, cells, 0, SIZE);
        }

        int fact(int person, int fact) {
            return cells[person * PERSON_SIZE + fact];
        }

        void putFact(int person, int fact, int value) {
            cells[person * PERSON_SIZE + fact] = value;
        }

        void addFact(int person, int fact, int amount) {
            cells[person * PERSON_SIZE + fact] += amount;
        }

        void addCash(int person, int amount) {
            addFact(person, CASH, amount);
        }

        int owed(int person, int other) {
            return cells[DEBTS_AT + person * PERSONS + other];
        }

        void addOwed(int person, int other, int amount) {
            cells[DEBTS_AT + person * PERSONS + other] += amount;
        }

        int settingValue(int setting) {
            return cells[SETTINGS_AT + setting];
        }

        void putSetting(int setting, int value) {
            cells[SETTINGS_AT + setting] = value;
        }

        int brought() {
            return cells[BROUGHT_AT];
        }

        void addBrought(int amount) {
            cells[BROUGHT_AT] += amount;
        }

        int bondCount() {
            return cells[COUNT_AT];
        }

        int bondFact(int bond, int fact) {
            return cells[BONDS_AT + bond * BOND_SIZE + fact];
        }

        void putBondFact(int bond, int fact, int value) {
            cells[BONDS_AT + bond * BOND_SIZE + fact] = value;
        }

        void addBondFact(int bond, int fact, int amount) {
            cells[BONDS_AT + bond * BOND_SIZE + fact] += amount;
        }

        int milestoneShare(int bond, int milestone) {
            return bondFact(bond, FIRST_SHARE + milestone);
        }

        int layerFact(int bond, int layer, int fact) {
            return cells[BONDS_AT + bond * BOND_SIZE + FIRST_LAYER + layer * LAYER_SIZE + fact];
        }

        void putLayerFact(int bond, int layer, int fact, int value) {
            cells[BONDS_AT + bond * BOND_SIZE + FIRST_LAYER + layer * LAYER_SIZE + fact] = value;
        }

        void addLayerFact(int bond, int layer, int fact, int amount) {
            cells[BONDS_AT + bond * BOND_SIZE + FIRST_LAYER + layer * LAYER_SIZE + fact] += amount;
        }

        int cashOfAll() {
            int sum = 0;
            for (int person = 0; person < PERSONS; person++) {
                sum += fact(person, CASH);
            }
            return sum;
        }

        int owedBy(int person) {
            int sum = 0;
            for (int other = 0; other < PERSONS; other++) {
                sum += owed(person, other);
            }
            return sum;
        }

        int owedTo(int person) {
            int sum = 0;
            for (int other = 0; other < PERSONS; other++) {
                sum += owed(other, person);
            }
            return sum;
        }

        int debtsOfAll() {
            int sum = 0;
            for (int person = 0; person < PERSONS; person++) {
                sum += owedBy(person);
            }
            return sum;
        }

        /** The limits of an ended bond were trimmed to 0, so all bonds can be looked at alike. */
        int boundFor(int person) {
            int sum = 0;
            for (int bond = 0; bond < bondCount(); bond++) {
                for (int layer = 0; layer < bondFact(bond, LAYERS); layer++) {
                    if (layerFact(bond, layer, SURETY) == person) {
                        sum += layerFact(bond, layer, LEFT);
                    }
                }
            }
            return sum;
        }

        int spareCash(int person) {
            int kept = boundFor(person) * settingValue(KEPT_PERCENT) / 100;
            return Math.max(0, fact(person, CASH) - kept);
        }

        int chainLength(int person) {
            int length = 0;
            int next = fact(person, GUARANTOR);
            while (isPerson(next) && length < PERSONS) {
                length++;
                next = fact(next, GUARANTOR);
            }
            return length;
        }

        /** Whether the chain that begins with one person, that one included, holds the sought one. */
        boolean chainHolds(int first, int sought) {
            int next = first;
            for (int step = 0; step < PERSONS && isPerson(next); step++) {
                if (next == sought) {
                    return true;
                }
                next = fact(next, GUARANTOR);
            }
            return false;
        }

        static boolean isPerson(int number) {
            return number >= 0 && number < PERSONS;
        }

        int runningBondsOf(int principal) {
            int running = 0;
            for (int bond = 0; bond < bondCount(); bond++) {
                if (bondFact(bond, PRINCIPAL) == principal) {
                    running += bondFact(bond, RUNS);
                }
            }
            return running;
        }

        int sumOverBonds(int fact) {
            int sum = 0;
            for (int bond = 0; bond < bondCount(); bond++) {
                sum += bondFact(bond, fact);
            }
            return sum;
        }

        int leftOfBond(int bond) {
            return bondFact(bond, SUM) - bondFact(bond, CALLED) - bondFact(bond, RELEASED);
        }

        int leftOfLimits(int bond) {
            int sum = 0;
            for (int layer = 0; layer < bondFact(bond, LAYERS); layer++) {
                sum += layerFact(bond, layer, LEFT);
            }
            return sum;
        }

        void release(int bond, int amount) {
            addBondFact(bond, RELEASED, amount);
            trim(bond);
        }

        void trim(int bond) {
            int excess = leftOfLimits(bond) - leftOfBond(bond);
            for (int layer = bondFact(bond, LAYERS) - 1; layer >= 0 && excess > 0; layer--) {
                int cut = Math.min(excess, layerFact(bond, layer, LEFT));
                addLayerFact(bond, layer, LEFT, -cut);
                excess -= cut;
            }
        }

        /**
         * Adds the bond that was read; the caller has seen that there is room. The cells behind the
         * last bond are all 0, as undo brings back the whole row.
         */
        int addBond(BondText text) {
            int bond = bondCount();
            putBondFact(bond, PRINCIPAL, text.principal());
            putBondFact(bond, SUM, text.sum());
            putBondFact(bond, WAY, text.way());
            putBondFact(bond, LAYERS, text.layers());
            putBondFact(bond, MILESTONES, text.milestones());
            putBondFact(bond, RUNS, 1);
            for (int milestone = 0; milestone < text.milestones(); milestone++) {
                putBondFact(bond, FIRST_SHARE + milestone, text.share(milestone));
            }
            for (int layer = 0; layer < text.layers(); layer++) {
                putLayerFact(bond, layer, SURETY, text.surety(layer));
                putLayerFact(bond, layer, LIMIT, text.limit(layer));
                putLayerFact(bond, layer, LEFT, text.limit(layer));
            }
            cells[COUNT_AT] = bond + 1;
            return bond;
        }
    }

    /** The saved states, in a ring of rows that is made once. */
    private static final class History {
        private final int[][] rows = new int[MOST_SAVED][State.SIZE];
        private int next;
        private int size;

        History() {
        }

        int size() {
            return size;
        }

        void save(State state) {
            state.copyTo(rows[next]);
            next = (next + 1) % MOST_SAVED;
            size = Math.min(MOST_SAVED, size + 1);
        }

        /** The caller has seen that there is one. */
        void restoreLatest(State state) {
            next = (next + MOST_SAVED - 1) % MOST_SAVED;
            size--;
            state.copyFrom(rows[next]);
        }
    }

    /** What a call does, worked out aside from the state, so that it can be looked at or carried out. */
    private static final class Payment {
        private static final int SHARED = 1;

        private final int[] cash = new int[PERSONS];
        private final int[] owed = new int[PERSONS];
        private final int[] madeGood = new int[PERSONS];
        private final int[] due = new int[MOST_LAYERS];
        private final int[] byLayer = new int[MOST_LAYERS];
        private final long[] remainders = new long[MOST_LAYERS];
        private int bond;
        private int principal;
        private int amount;
        private int byPrincipal;
        private int paid;
        private int thinLayer;

        Payment() {
        }

        int paid() {
            return paid;
        }

        int loss() {
            return amount - paid;
        }

        int thinLayer() {
            return thinLayer;
        }

        /** For a bond that does not run nothing is left, so that nothing is paid or lost. */
        void draw(State state, int calledBond, int calledAmount) {
            begin(state, calledBond, calledAmount);
            byPrincipal = Math.min(amount, cash[principal]);
            cash[principal] -= byPrincipal;
            paid = byPrincipal;
            boolean shared = state.bondFact(bond, State.WAY) == SHARED;
            if (shared) {
                shareOut(state);
            }
            for (int layer = 0; layer < state.bondFact(bond, State.LAYERS); layer++) {
                if (!shared) {
                    due[layer] = Math.min(amount - paid, state.layerFact(bond, layer, State.LEFT));
                }
                payByLayer(state, layer);
            }
        }

        private void begin(State state, int calledBond, int calledAmount) {
            for (int person = 0; person < PERSONS; person++) {
                cash[person] = state.fact(person, State.CASH);
                owed[person] = 0;
                madeGood[person] = 0;
            }
            bond = calledBond;
            principal = state.bondFact(bond, State.PRINCIPAL);
            amount = Math.min(calledAmount, state.leftOfBond(bond));
            thinLayer = NONE;
        }

        private void shareOut(State state) {
            int layers = state.bondFact(bond, State.LAYERS);
            long limits = state.leftOfLimits(bond);
            long rest = Math.min(amount - paid, limits);
            long open = rest;
            for (int layer = 0; layer < layers; layer++) {
                long product = rest * state.layerFact(bond, layer, State.LEFT);
                due[layer] = limits > 0L ? (int) (product / limits) : 0;
                remainders[layer] = limits > 0L ? product % limits : 0L;
                open -= due[layer];
            }
            for (int round = 0; round < layers && open > 0L; round++) {
                int greatest = greatestRemainder(layers);
                due[greatest]++;
                remainders[greatest] = -1L;
                open--;
            }
        }

        private int greatestRemainder(int layers) {
            int greatest = 0;
            for (int layer = 1; layer < layers; layer++) {
                if (remainders[layer] > remainders[greatest]) {
                    greatest = layer;
                }
            }
            return greatest;
        }

        private void payByLayer(State state, int layer) {
            int surety = state.layerFact(bond, layer, State.SURETY);
            int pays = Math.min(due[layer], cash[surety]);
            if (pays < due[layer] && thinLayer == NONE) {
                thinLayer = layer;
            }
            byLayer[layer] = pays;
            paid += pays;
            cash[surety] -= pays;
            owed[surety] += pays;
            makeGood(state, surety, pays);
        }

        private void makeGood(State state, int surety, int money) {
            int ahead = principal;
            int open = money;
            for (int step = 0; step < PERSONS && open > 0; step++) {
                int payer = state.fact(ahead, State.GUARANTOR);
                if (!State.isPerson(payer)) {
                    return;
                }
                int should = open * state.fact(ahead, State.PERCENT) / 100;
                int pays = payer == surety ? 0 : Math.min(should, cash[payer]);
                cash[payer] -= pays;
                cash[surety] += pays;
                owed[surety] -= pays;
                owed[payer] += pays;
                madeGood[payer] += pays;
                open = should - pays;
                ahead = payer;
            }
        }

        /** Puts into the state what was drawn from it. */
        void carryOut(State state) {
            for (int person = 0; person < PERSONS; person++) {
                state.putFact(person, State.CASH, cash[person]);
                state.addFact(person, State.AS_COUNTER, madeGood[person]);
                state.addOwed(principal, person, owed[person]);
            }
            state.addFact(principal, State.AS_PRINCIPAL, byPrincipal);
            for (int layer = 0; layer < state.bondFact(bond, State.LAYERS); layer++) {
                int surety = state.layerFact(bond, layer, State.SURETY);
                state.addFact(surety, State.AS_SURETY, byLayer[layer]);
                state.addLayerFact(bond, layer, State.LEFT, -byLayer[layer]);
                state.addLayerFact(bond, layer, State.LAYER_PAID, byLayer[layer]);
            }
            state.addBondFact(bond, State.CALLED, amount);
            state.addBondFact(bond, State.PAID, paid);
            state.trim(bond);
        }

        /** What ifCalled() tells, of what was drawn from this state. */
        int effect(State state, int what) {
            switch (what) {
                case 0: return paid;
                case 1: return loss();
                case LAST_EFFECT: return leftOfLimitsThen(state);
                default: return cash[what - 2] - state.fact(what - 2, State.CASH);
            }
        }

        /** Trimmed limits come to what is left of the bond, if they came to more before. */
        private int leftOfLimitsThen(State state) {
            int limits = state.leftOfLimits(bond) - (paid - byPrincipal);
            return Math.min(limits, state.leftOfBond(bond) - amount);
        }
    }

    /** The buffer, and the bond that is read from it. */
    private static final class BondText {
        // what the next character can be
        private static final int PRINCIPAL_SIGN = 0;
        private static final int PRINCIPAL = 1;
        private static final int SUM_SIGN = 2;
        private static final int SUM = 3;
        private static final int SURETY = 4;
        private static final int LIMIT_SIGN = 5;
        private static final int LIMIT = 6;
        private static final int SHARE = 7;
        private static final int NOTHING = 8;

        private final int[] codes = new int[MOST_CHARACTERS];
        private final int[] sureties = new int[MOST_LAYERS];
        private final int[] limits = new int[MOST_LAYERS];
        private final int[] shares = new int[MOST_MILESTONES];
        private int length;
        private int place;
        private int number;
        private int principal;
        private int sum;
        private int way;
        private int layers;
        private int milestones;

        BondText() {
        }

        int length() {
            return length;
        }

        int codeAt(int index) {
            return codes[index];
        }

        int principal() {
            return principal;
        }

        int sum() {
            return sum;
        }

        int way() {
            return way;
        }

        int layers() {
            return layers;
        }

        int surety(int layer) {
            return sureties[layer];
        }

        int limit(int layer) {
            return limits[layer];
        }

        int milestones() {
            return milestones;
        }

        int share(int milestone) {
            return shares[milestone];
        }

        /** The caller has seen that there is room. */
        void add(int code) {
            codes[length] = code;
            length++;
        }

        void clear() {
            length = 0;
        }

        /** Reads the buffer; returns the index of the first syntax error, the length without one. */
        int read() {
            place = PRINCIPAL_SIGN;
            number = 0;
            layers = 0;
            milestones = 0;
            for (int index = 0; index < length; index++) {
                if (!accepts(codes[index])) {
                    place = PRINCIPAL_SIGN;
                    return index;
                }
            }
            return length;
        }

        /** Whether what was read last is a complete bond. */
        boolean isBond() {
            return place == NOTHING;
        }

        /** Whether the persons differ, and limits and shares come to no more than they may. */
        boolean isSound() {
            int ofLimits = 0;
            for (int layer = 0; layer < layers; layer++) {
                if (sureties[layer] == principal || standsAhead(layer)) {
                    return false;
                }
                ofLimits += limits[layer];
            }
            int ofShares = 0;
            for (int milestone = 0; milestone < milestones; milestone++) {
                ofShares += shares[milestone];
            }
            return ofLimits <= sum && ofShares <= MOST_THOUSANDTHS;
        }

        private boolean standsAhead(int layer) {
            for (int ahead = 0; ahead < layer; ahead++) {
                if (sureties[ahead] == sureties[layer]) {
                    return true;
                }
            }
            return false;
        }

        private boolean accepts(int code) {
            switch (place) {
                case PRINCIPAL_SIGN: return acceptsSign(code, 'p', PRINCIPAL);
                case PRINCIPAL: return acceptsPrincipal(code);
                case SUM_SIGN: return acceptsSign(code, 's', SUM);
                case SUM: return extendsNumber(code, MOST_AMOUNT) || endsSum(code);
                case SURETY: return acceptsSurety(code);
                case LIMIT_SIGN: return acceptsSign(code, '*', LIMIT);
                case LIMIT: return extendsNumber(code, MOST_AMOUNT) || endsLimit(code);
                case SHARE: return extendsNumber(code, MOST_THOUSANDTHS) || endsShare(code);
                default: return false;
            }
        }

        private boolean acceptsSign(int code, int sign, int nextPlace) {
            if (code != sign) {
                return false;
            }
            place = nextPlace;
            return true;
        }

        private boolean acceptsPrincipal(int code) {
            if (!State.isPerson(code - '0')) {
                return false;
            }
            principal = code - '0';
            place = SUM_SIGN;
            return true;
        }

        private boolean acceptsSurety(int code) {
            if (!State.isPerson(code - '0') || layers >= MOST_LAYERS) {
                return false;
            }
            sureties[layers] = code - '0';
            place = LIMIT_SIGN;
            return true;
        }

        /** A number without digits is 0 yet, so that a zero that would lead it is refused as too little. */
        private boolean extendsNumber(int code, int most) {
            if (code < '0' || code > '9') {
                return false;
            }
            int longer = number * 10 + (code - '0');
            if (longer < 1 || longer > most) {
                return false;
            }
            number = longer;
            return true;
        }

        private boolean endsSum(int code) {
            if (number == 0 || code != ':') {
                return false;
            }
            sum = takeNumber();
            place = SURETY;
            return true;
        }

        private boolean endsLimit(int code) {
            boolean goesOn = code == '+' && layers + 1 < MOST_LAYERS;
            if (number == 0 || layers >= MOST_LAYERS || !goesOn && code != '@') {
                return false;
            }
            limits[layers] = takeNumber();
            layers++;
            place = goesOn ? SURETY : SHARE;
            return true;
        }

        private boolean endsShare(int code) {
            boolean goesOn = code == '+' && milestones + 1 < MOST_MILESTONES;
            boolean ends = code == 'l' || code == 'e';
            if (number == 0 || milestones >= MOST_MILESTONES || !goesOn && !ends) {
                return false;
            }
            shares[milestones] = takeNumber();
            milestones++;
            if (ends) {
                way = code == 'e' ? 1 : 0;
                place = NOTHING;
            }
            return true;
        }

        private int takeNumber() {
            int taken = number;
            number = 0;
            return taken;
        }
    }
}
