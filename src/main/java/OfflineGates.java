/** Gates that let cards through while their line to the office is down, and settle with it later. */
public final class OfflineGates {
    public static final int NONE = -1;

    private static final int TEXT_MOST = 120;
    private static final int MONEY_MOST = 99;
    private static final int FARE_MOST = 9;
    private static final int RUN_MOST = 60;
    private static final int RIDES_MOST = 100;
    private static final int TURNS_MOST = 80;
    private static final int COMMANDS_MOST = 3;

    private final State state = new State();
    private final State scratch = new State();
    private final DayText text = new DayText();
    private final History history = new History();
    private final Slots slots = new Slots();

    public OfflineGates() {
    }

    // ---- text

    public int append(int c) throws IllegalArgumentException, IllegalStateException {
        needRange(c, 0, 255);
        needState(text.length() < TEXT_MOST);
        return text.add(c);
    }

    public int clearText() {
        return text.empty();
    }

    public int errorPosition() {
        return text.firstError();
    }

    public int load() throws IllegalStateException {
        needState(text.firstError() == NONE);
        state.clear();
        history.clear();
        slots.clear();
        int leftOut = 0;
        for (int at = 1; at < text.length(); at += 1 + DayText.digitsOf(text.sign(at))) {
            if (!Commands.perform(state, text, at)) {
                leftOut++;
            }
        }
        return leftOut;
    }

    // ---- what there is

    public int about(int what) throws IllegalArgumentException {
        needRange(what, 0, 10);
        return state.total(what);
    }

    public int card(int c, int what) throws IndexOutOfBoundsException, IllegalArgumentException {
        needThere(state.cards.has(c));
        needRange(what, 0, 3);
        return state.cards.number(c, what);
    }

    public int account(int a, int what) throws IndexOutOfBoundsException, IllegalArgumentException {
        needThere(state.office.has(a));
        needRange(what, 0, 7);
        return state.accountNumber(a, what);
    }

    public int gate(int g, int what) throws IndexOutOfBoundsException, IllegalArgumentException {
        needThere(state.gates.has(g));
        needRange(what, 0, 4);
        return what == 4 ? state.listAt(g) : state.gates.number(g, what);
    }

    public int logged(int g, int k, int what) throws IndexOutOfBoundsException, IllegalArgumentException {
        needThere(state.gates.has(g) && state.gates.hasLogged(g, k));
        needRange(what, 0, 2);
        return state.gates.loggedNumber(g, k, what);
    }

    public int setting(int what) throws IllegalArgumentException {
        needRange(what, 0, 3);
        return state.settings.get(what);
    }

    // ---- actions

    public int issue(int money) throws IllegalArgumentException, IllegalStateException {
        needRange(money, 0, MONEY_MOST);
        needState(state.hasRoomForAccount());
        remember();
        return state.makeAccount(money);
    }

    public int copy(int c) throws IndexOutOfBoundsException, IllegalStateException {
        needThere(state.cards.has(c));
        needState(!state.cards.isFull());
        remember();
        return state.cards.makeTwin(c);
    }

    public int ride(int c, int g) throws IndexOutOfBoundsException {
        needThere(state.cards.has(c) && state.gates.has(g));
        remember();
        return state.showCard(c, g);
    }

    public int pay(int a, int money) throws IndexOutOfBoundsException, IllegalArgumentException {
        needThere(state.office.has(a));
        needRange(money, 1, MONEY_MOST);
        remember();
        return state.office.payIn(a, money);
    }

    public int pardon(int a) throws IndexOutOfBoundsException, IllegalStateException {
        needThere(state.office.has(a));
        needState(state.office.isMarked(a));
        remember();
        return state.office.unmark(a);
    }

    public int down(int g) throws IndexOutOfBoundsException, IllegalStateException {
        needThere(state.gates.has(g));
        needState(state.gates.isUp(g));
        remember();
        return state.takeDown(g);
    }

    public int up(int g) throws IndexOutOfBoundsException, IllegalStateException {
        needThere(state.gates.has(g));
        needState(!state.gates.isUp(g));
        remember();
        return state.bringUp(g);
    }

    public int open(int g) throws IndexOutOfBoundsException {
        needThere(state.gates.has(g));
        remember();
        return state.gates.turnOpen(g);
    }

    public int fare(int g, int v) throws IndexOutOfBoundsException, IllegalArgumentException {
        needThere(state.gates.has(g));
        needRange(v, 1, FARE_MOST);
        remember();
        return state.gates.fares.replace(g, v);
    }

    public int run(int n) throws IllegalArgumentException {
        needRange(n, 1, RUN_MOST);
        remember();
        state.minute += n;
        return state.minute;
    }

    public int set(int what, int v) throws IllegalArgumentException {
        needRange(what, 0, 3);
        needRange(v, 0, State.mostOfSetting(what));
        remember();
        return state.settings.replace(what, v);
    }

    public int undo() throws IllegalStateException {
        needState(!history.isEmpty());
        return history.pop(state);
    }

    // ---- what would be

    public int would(int c, int g) throws IndexOutOfBoundsException {
        needThere(state.cards.has(c) && state.gates.has(g));
        scratch.copyFrom(state);
        return scratch.showCard(c, g);
    }

    public int rides(int c, int g) throws IndexOutOfBoundsException {
        needThere(state.cards.has(c) && state.gates.has(g));
        scratch.copyFrom(state);
        int count = 0;
        while (count < RIDES_MOST) {
            scratch.minute += scratch.settings.get(State.PAUSE);
            if (!State.letsThrough(scratch.showCard(c, g))) {
                return count;
            }
            count++;
        }
        return count;
    }

    public int ifUp(int g, int what) throws IndexOutOfBoundsException, IllegalArgumentException {
        needThere(state.gates.has(g));
        needRange(what, 0, 3);
        return numberIfUp(g, what);
    }

    public int bestUp() {
        int best = NONE;
        int most = NONE;
        for (int g = 0; g < Gates.COUNT; g++) {
            if (!state.gates.isUp(g)) {
                int fares = numberIfUp(g, 3);
                if (fares > most) {
                    best = g;
                    most = fares;
                }
            }
        }
        return best;
    }

    public int worst() {
        int worst = NONE;
        int least = 0;
        for (int a = 0; a < state.office.count; a++) {
            int stand = state.office.balance.get(a) - state.gates.faresInLogs(a);
            if (worst == NONE || stand < least) {
                worst = a;
                least = stand;
            }
        }
        return worst;
    }

    public int owes(int a) throws IndexOutOfBoundsException {
        needThere(state.office.has(a));
        scratch.copyFrom(state);
        for (int g = 0; g < Gates.COUNT; g++) {
            scratch.tryUp(g);
        }
        return Math.max(0, -scratch.office.balance.get(a));
    }

    // ---- scripts, simulations

    public int runScript(int n, long script) throws IllegalArgumentException {
        needRange(n, 1, COMMANDS_MOST);
        needArgument(Script.fits(n, script));
        scratch.copyFrom(state);
        for (int i = 0; i < n; i++) {
            if (!Script.succeeds(scratch, Script.group(n, script, i))) {
                return i;
            }
        }
        return NONE;
    }

    public int simulate(long seed, int m) throws IllegalArgumentException {
        needRange(m, 1, TURNS_MOST);
        scratch.copyFrom(state);
        long x = seed;
        for (int turn = 0; turn < m; turn++) {
            x = x * 6364136223846793005L + 1442695040888963407L;
            Simulation.turn(scratch, (int) (x >>> 33));
        }
        return 1000 * (scratch.settled - state.settled) + (scratch.doubles - state.doubles);
    }

    // ---- save slots

    public int save(int slot) throws IndexOutOfBoundsException {
        needThere(slots.has(slot));
        slots.store(slot, state);
        return state.minute;
    }

    public int restore(int slot) throws IndexOutOfBoundsException, IllegalStateException {
        needThere(slots.has(slot));
        needState(slots.isFilled(slot));
        slots.fetch(slot, state);
        history.clear();
        return state.minute;
    }

    // ---- what the methods of the face share

    private void remember() {
        history.push(state);
    }

    private int numberIfUp(int g, int what) {
        scratch.copyFrom(state);
        scratch.tryUp(g);
        switch (what) {
            case 0: return scratch.settled - state.settled;
            case 1: return scratch.doubles - state.doubles;
            case 2: return scratch.office.blockedSet();
            default: return scratch.settledFares - state.settledFares;
        }
    }

    private static void needRange(int v, int least, int most) {
        needArgument(v >= least && v <= most);
    }

    private static void needArgument(boolean inRange) {
        if (!inRange) {
            throw new IllegalArgumentException("out of range");
        }
    }

    private static void needThere(boolean there) {
        if (!there) {
            throw new IndexOutOfBoundsException("does not exist");
        }
    }

    private static void needState(boolean fit) {
        if (!fit) {
            throw new IllegalStateException("not now");
        }
    }

    /** A row of numbers that looks at every index before it uses it. */
    private static final class Row {
        private final int[] cells;

        Row(int size) {
            cells = new int[Math.max(size, 0)];
        }

        int get(int i) {
            return i >= 0 && i < cells.length ? cells[i] : 0;
        }

        void put(int i, int v) {
            if (i >= 0 && i < cells.length) {
                cells[i] = v;
            }
        }

        void increase(int i, int by) {
            if (i >= 0 && i < cells.length) {
                cells[i] += by;
            }
        }

        int replace(int i, int v) {
            int previous = get(i);
            put(i, v);
            return previous;
        }

        void fill(int v) {
            for (int i = 0; i < cells.length; i++) {
                cells[i] = v;
            }
        }

        void copyFrom(Row other) {
            System.arraycopy(other.cells, 0, cells, 0, Math.min(cells.length, other.cells.length));
        }
    }

    /** The cards. */
    private static final class Cards {
        static final int MOST = 10;

        int count;
        final Row accounts = new Row(MOST);
        final Row money = new Row(MOST);
        final Row rideCounts = new Row(MOST);
        final Row latest = new Row(MOST);

        void clear() {
            count = 0;
        }

        void copyFrom(Cards other) {
            count = other.count;
            accounts.copyFrom(other.accounts);
            money.copyFrom(other.money);
            rideCounts.copyFrom(other.rideCounts);
            latest.copyFrom(other.latest);
        }

        boolean has(int c) {
            return c >= 0 && c < count;
        }

        boolean isFull() {
            return count >= MOST;
        }

        int make(int account, int amount, int rideCount, int latestRide) {
            int c = count;
            accounts.put(c, account);
            money.put(c, amount);
            rideCounts.put(c, rideCount);
            latest.put(c, latestRide);
            count++;
            return c;
        }

        int makeTwin(int c) {
            return make(accounts.get(c), money.get(c), rideCounts.get(c), latest.get(c));
        }

        int number(int c, int what) {
            switch (what) {
                case 0: return accounts.get(c);
                case 1: return money.get(c);
                case 2: return rideCounts.get(c);
                default: return latest.get(c);
            }
        }

        int countOf(int account) {
            int found = 0;
            for (int c = 0; c < count; c++) {
                if (accounts.get(c) == account) {
                    found++;
                }
            }
            return found;
        }
    }

    /** The accounts, as the office knows them. */
    private static final class Office {
        static final int MOST = 8;
        // 32 words of 32 bits: no card can reach the count 1024 in 512 calls and the longest look ahead
        private static final int WORDS = 32;
        private static final int BITS = 32;

        int count;
        final Row balance = new Row(MOST);
        final Row waiting = new Row(MOST);
        final Row marks = new Row(MOST);
        final Row settledCounts = new Row(MOST);
        private final Row settledBits = new Row(MOST * WORDS);

        void clear() {
            count = 0;
            balance.fill(0);
            waiting.fill(0);
            marks.fill(0);
            settledCounts.fill(0);
            settledBits.fill(0);
        }

        void copyFrom(Office other) {
            count = other.count;
            balance.copyFrom(other.balance);
            waiting.copyFrom(other.waiting);
            marks.copyFrom(other.marks);
            settledCounts.copyFrom(other.settledCounts);
            settledBits.copyFrom(other.settledBits);
        }

        boolean has(int a) {
            return a >= 0 && a < count;
        }

        boolean isFull() {
            return count >= MOST;
        }

        int make(int money) {
            int a = count;
            balance.put(a, money);
            count++;
            return a;
        }

        boolean isMarked(int a) {
            return marks.get(a) != 0;
        }

        boolean isBlocked(int a) {
            return balance.get(a) < 0 || marks.get(a) != 0;
        }

        int blockedSet() {
            int set = 0;
            for (int a = 0; a < count; a++) {
                if (isBlocked(a)) {
                    set |= 1 << a;
                }
            }
            return set;
        }

        int payIn(int a, int money) {
            balance.increase(a, money);
            waiting.increase(a, money);
            return balance.get(a);
        }

        int takeWaiting(int a) {
            return waiting.replace(a, 0);
        }

        int unmark(int a) {
            marks.put(a, 0);
            return balance.get(a);
        }

        /** Settles a ride, and tells whether it was none of the doubles. */
        boolean settleRide(int a, int rideCount, int fare, int fine) {
            int word = wordOf(a, rideCount);
            int bit = 1 << (rideCount & (BITS - 1));
            int bits = settledBits.get(word);
            if ((bits & bit) != 0) {
                balance.increase(a, -fine);
                marks.put(a, 1);
                return false;
            }
            settledBits.put(word, bits | bit);
            settledCounts.increase(a, 1);
            balance.increase(a, -fare);
            return true;
        }

        private static int wordOf(int a, int rideCount) {
            if (rideCount < 0 || rideCount >= WORDS * BITS) {
                return NONE;
            }
            return a * WORDS + rideCount / BITS;
        }
    }

    /** The gates with their logs. */
    private static final class Gates {
        static final int COUNT = 4;
        static final int ANY_ACCOUNT = -1;
        private static final int LOG_MOST = 12;
        private static final int FIRST_FARE = 2;

        final Row fares = new Row(COUNT);
        final Row keptLists = new Row(COUNT);
        private final Row linesUp = new Row(COUNT);
        private final Row standOpen = new Row(COUNT);
        private final Row logSizes = new Row(COUNT);
        private final Row logAccounts = new Row(COUNT * LOG_MOST);
        private final Row logCounts = new Row(COUNT * LOG_MOST);
        private final Row logFares = new Row(COUNT * LOG_MOST);

        void clear() {
            fares.fill(FIRST_FARE);
            linesUp.fill(1);
            keptLists.fill(0);
            standOpen.fill(0);
            logSizes.fill(0);
        }

        void copyFrom(Gates other) {
            fares.copyFrom(other.fares);
            linesUp.copyFrom(other.linesUp);
            keptLists.copyFrom(other.keptLists);
            standOpen.copyFrom(other.standOpen);
            logSizes.copyFrom(other.logSizes);
            logAccounts.copyFrom(other.logAccounts);
            logCounts.copyFrom(other.logCounts);
            logFares.copyFrom(other.logFares);
        }

        boolean has(int g) {
            return g >= 0 && g < COUNT;
        }

        boolean isUp(int g) {
            return linesUp.get(g) != 0;
        }

        boolean isOpen(int g) {
            return standOpen.get(g) != 0;
        }

        void setLine(int g, boolean lineUp) {
            linesUp.put(g, lineUp ? 1 : 0);
        }

        int turnOpen(int g) {
            standOpen.put(g, isOpen(g) ? 0 : 1);
            return standOpen.get(g);
        }

        int number(int g, int what) {
            switch (what) {
                case 0: return fares.get(g);
                case 1: return linesUp.get(g);
                case 2: return standOpen.get(g);
                default: return logSizes.get(g);
            }
        }

        int logSize(int g) {
            return logSizes.get(g);
        }

        boolean isLogFull(int g) {
            return logSizes.get(g) >= LOG_MOST;
        }

        boolean hasLogged(int g, int k) {
            return k >= 0 && k < logSizes.get(g);
        }

        int loggedNumber(int g, int k, int what) {
            int place = g * LOG_MOST + k;
            switch (what) {
                case 0: return logAccounts.get(place);
                case 1: return logCounts.get(place);
                default: return logFares.get(place);
            }
        }

        void writeLog(int g, int account, int rideCount, int fare) {
            int place = g * LOG_MOST + logSizes.get(g);
            logAccounts.put(place, account);
            logCounts.put(place, rideCount);
            logFares.put(place, fare);
            logSizes.increase(g, 1);
        }

        void emptyLog(int g) {
            logSizes.put(g, 0);
        }

        int ridesInLogs(int account) {
            int found = 0;
            for (int g = 0; g < COUNT; g++) {
                int size = logSizes.get(g);
                for (int k = 0; k < size; k++) {
                    if (isOf(g, k, account)) {
                        found++;
                    }
                }
            }
            return found;
        }

        int faresInLogs(int account) {
            int sum = 0;
            for (int g = 0; g < COUNT; g++) {
                int size = logSizes.get(g);
                for (int k = 0; k < size; k++) {
                    if (isOf(g, k, account)) {
                        sum += logFares.get(g * LOG_MOST + k);
                    }
                }
            }
            return sum;
        }

        private boolean isOf(int g, int k, int account) {
            return account == ANY_ACCOUNT || logAccounts.get(g * LOG_MOST + k) == account;
        }
    }

    /** All that actions change. */
    private static final class State {
        static final int PAUSE = 1;
        private static final int CREDIT = 0;
        private static final int FULL_LOG = 2;
        private static final int FINE = 3;
        private static final int SETTINGS = 4;

        private static final int SETTLED = 0;
        private static final int LOGGED = 1;
        private static final int STANDS_OPEN = 2;
        private static final int ON_LIST = 3;
        private static final int TOO_SOON = 4;
        private static final int NO_MONEY = 5;
        private static final int NO_ROOM = 6;
        private static final int UNWRITTEN = 7;

        final Cards cards = new Cards();
        final Office office = new Office();
        final Gates gates = new Gates();
        final Row settings = new Row(SETTINGS);
        int minute;
        int settled;
        int settledFares;
        int doubles;
        private int refused;
        private int unwritten;

        State() {
            clear();
        }

        void clear() {
            cards.clear();
            office.clear();
            gates.clear();
            settings.put(CREDIT, 10);
            settings.put(PAUSE, 5);
            settings.put(FULL_LOG, 0);
            settings.put(FINE, 20);
            minute = 0;
            settled = 0;
            settledFares = 0;
            doubles = 0;
            refused = 0;
            unwritten = 0;
        }

        void copyFrom(State other) {
            cards.copyFrom(other.cards);
            office.copyFrom(other.office);
            gates.copyFrom(other.gates);
            settings.copyFrom(other.settings);
            minute = other.minute;
            settled = other.settled;
            settledFares = other.settledFares;
            doubles = other.doubles;
            refused = other.refused;
            unwritten = other.unwritten;
        }

        static int mostOfSetting(int what) {
            switch (what) {
                case CREDIT: return 50;
                case PAUSE: return 30;
                case FULL_LOG: return 1;
                default: return 99;
            }
        }

        static boolean letsThrough(int outcome) {
            return outcome >= SETTLED && outcome <= STANDS_OPEN || outcome == UNWRITTEN;
        }

        int total(int what) {
            switch (what) {
                case 0: return cards.count;
                case 1: return office.count;
                case 2: return minute;
                case 3: return settled;
                case 4: return settledFares;
                case 5: return doubles;
                case 6: return gates.ridesInLogs(Gates.ANY_ACCOUNT);
                case 7: return gates.faresInLogs(Gates.ANY_ACCOUNT);
                case 8: return refused;
                case 9: return unwritten;
                default: return office.blockedSet();
            }
        }

        int accountNumber(int a, int what) {
            switch (what) {
                case 0: return office.balance.get(a);
                case 1: return office.waiting.get(a);
                case 2: return office.settledCounts.get(a);
                case 3: return office.marks.get(a);
                case 4: return office.isBlocked(a) ? 1 : 0;
                case 5: return cards.countOf(a);
                case 6: return gates.ridesInLogs(a);
                default: return gates.faresInLogs(a);
            }
        }

        int listAt(int g) {
            return gates.isUp(g) ? office.blockedSet() : gates.keptLists.get(g);
        }

        boolean hasRoomForAccount() {
            return !office.isFull() && !cards.isFull();
        }

        int makeAccount(int money) {
            return cards.make(office.make(money), money, 0, NONE);
        }

        int takeDown(int g) {
            gates.keptLists.put(g, office.blockedSet());
            gates.setLine(g, false);
            return gates.keptLists.get(g);
        }

        int bringUp(int g) {
            int before = doubles;
            int size = gates.logSize(g);
            for (int k = 0; k < size; k++) {
                settle(gates.loggedNumber(g, k, 0), gates.loggedNumber(g, k, 1), gates.loggedNumber(g, k, 2));
            }
            gates.emptyLog(g);
            gates.setLine(g, true);
            return doubles - before;
        }

        private void settle(int account, int rideCount, int fare) {
            if (office.settleRide(account, rideCount, fare, settings.get(FINE))) {
                settled++;
                settledFares += fare;
            } else {
                doubles++;
            }
        }

        /** Shows a card to a gate; answers NONE where one of them does not exist. */
        int showCard(int c, int g) {
            if (!cards.has(c) || !gates.has(g)) {
                return NONE;
            }
            if (gates.isOpen(g)) {
                unwritten++;
                return STANDS_OPEN;
            }
            if (gates.isUp(g)) {
                cards.money.increase(c, office.takeWaiting(cards.accounts.get(c)));
            }
            int outcome = judge(c, g);
            if (!letsThrough(outcome)) {
                refused++;
            } else if (outcome == UNWRITTEN) {
                unwritten++;
            } else {
                takeRide(c, g);
            }
            return outcome;
        }

        private int judge(int c, int g) {
            boolean lineUp = gates.isUp(g);
            if (isOnList(cards.accounts.get(c), g)) {
                return ON_LIST;
            }
            int latest = cards.latest.get(c);
            if (latest != NONE && minute - latest < settings.get(PAUSE)) {
                return TOO_SOON;
            }
            int credit = lineUp ? 0 : settings.get(CREDIT);
            if (cards.money.get(c) - gates.fares.get(g) < -credit) {
                return NO_MONEY;
            }
            if (!lineUp && gates.isLogFull(g)) {
                return settings.get(FULL_LOG) == 0 ? NO_ROOM : UNWRITTEN;
            }
            return lineUp ? SETTLED : LOGGED;
        }

        private boolean isOnList(int account, int g) {
            if (gates.isUp(g)) {
                return office.isBlocked(account);
            }
            return (gates.keptLists.get(g) >> account & 1) != 0;
        }

        private void takeRide(int c, int g) {
            int fare = gates.fares.get(g);
            cards.money.increase(c, -fare);
            cards.rideCounts.increase(c, 1);
            cards.latest.put(c, minute);
            int account = cards.accounts.get(c);
            if (gates.isUp(g)) {
                settle(account, cards.rideCounts.get(c), fare);
            } else {
                gates.writeLog(g, account, cards.rideCounts.get(c), fare);
            }
        }

        // ---- the actions as commands: each tells whether it was done, and else leaves all as it was

        boolean tryIssue(int money) {
            if (money < 0 || money > MONEY_MOST || !hasRoomForAccount()) {
                return false;
            }
            makeAccount(money);
            return true;
        }

        boolean tryCopy(int c) {
            if (!cards.has(c) || cards.isFull()) {
                return false;
            }
            cards.makeTwin(c);
            return true;
        }

        boolean tryPay(int a, int money) {
            if (!office.has(a) || money < 1 || money > MONEY_MOST) {
                return false;
            }
            office.payIn(a, money);
            return true;
        }

        boolean tryPardon(int a) {
            if (!office.has(a) || !office.isMarked(a)) {
                return false;
            }
            office.unmark(a);
            return true;
        }

        boolean tryDown(int g) {
            if (!gates.has(g) || !gates.isUp(g)) {
                return false;
            }
            takeDown(g);
            return true;
        }

        boolean tryUp(int g) {
            if (!gates.has(g) || gates.isUp(g)) {
                return false;
            }
            bringUp(g);
            return true;
        }

        boolean tryOpen(int g) {
            if (!gates.has(g)) {
                return false;
            }
            gates.turnOpen(g);
            return true;
        }

        boolean tryRun(int n) {
            if (n < 1 || n > RUN_MOST) {
                return false;
            }
            minute += n;
            return true;
        }
    }

    /** The text buffer, and what makes a text a day. */
    private static final class DayText {
        private final Row signs = new Row(TEXT_MOST);
        private int length;

        int length() {
            return length;
        }

        int sign(int i) {
            return signs.get(i);
        }

        int digit(int i) {
            return signs.get(i) - '0';
        }

        int twoDigits(int i) {
            return 10 * digit(i) + digit(i + 1);
        }

        int add(int c) {
            signs.put(length, c);
            length++;
            return length;
        }

        int empty() {
            int previous = length;
            length = 0;
            return previous;
        }

        int firstError() {
            if (length == 0 || sign(0) != 'O') {
                return 0;
            }
            int at = 1;
            while (at < length) {
                int digits = digitsOf(sign(at));
                if (digits == 0) {
                    return at;
                }
                for (int k = 1; k <= digits; k++) {
                    if (at + k >= length || !isAllowed(at, k)) {
                        return at + k;
                    }
                }
                at += 1 + digits;
            }
            return NONE;
        }

        /** How many digits follow the letter of a command; 0 if it is none. */
        static int digitsOf(int letter) {
            switch (letter) {
                case 'c':
                case 'd':
                case 'u':
                case 'o':
                    return 1;
                case 'i':
                case 'r':
                case 'm':
                    return 2;
                case 't':
                    return 3;
                default:
                    return 0;
            }
        }

        /** Whether the k-th sign behind a letter is a digit with which the command can go on. */
        private boolean isAllowed(int letterAt, int k) {
            int digit = digit(letterAt + k);
            if (digit < 0 || digit > 9) {
                return false;
            }
            int before = digit(letterAt + k - 1);
            switch (sign(letterAt)) {
                case 'r':
                    return k == 1 || digit < Gates.COUNT;
                case 'd':
                case 'u':
                case 'o':
                    return digit < Gates.COUNT;
                case 't':
                    return k == 1 ? digit < Office.MOST : k == 2 || before > 0 || digit > 0;
                case 'm':
                    return k == 1 ? digit <= 6 : before == 0 ? digit > 0 : before < 6 || digit == 0;
                default:
                    return true;
            }
        }
    }

    /** The commands of a day. */
    private static final class Commands {
        /** Does the command whose letter stands at that place, and tells whether it was done. */
        static boolean perform(State state, DayText text, int at) {
            int first = text.digit(at + 1);
            switch (text.sign(at)) {
                case 'i': return state.tryIssue(text.twoDigits(at + 1));
                case 'c': return state.tryCopy(first);
                case 'r': return state.showCard(first, text.digit(at + 2)) != NONE;
                case 't': return state.tryPay(first, text.twoDigits(at + 2));
                case 'd': return state.tryDown(first);
                case 'u': return state.tryUp(first);
                case 'o': return state.tryOpen(first);
                default: return state.tryRun(text.twoDigits(at + 1));
            }
        }
    }

    /** The commands of a script. */
    private static final class Script {
        private static final long GROUP = 10000;

        static boolean fits(int n, long script) {
            long limit = 1;
            for (int i = 0; i < n; i++) {
                limit *= GROUP;
            }
            return script >= 0 && script < limit;
        }

        static int group(int n, long script, int index) {
            long rest = script;
            for (int i = n - 1; i > index; i--) {
                rest /= GROUP;
            }
            return (int) (rest % GROUP);
        }

        static boolean succeeds(State state, int group) {
            int first = group / 100 % 10;
            int second = group / 10 % 10;
            int last = group % 10;
            int number = group % 100;
            switch (group / 1000) {
                case 1: return last == 0 && State.letsThrough(state.showCard(first, second));
                case 2: return state.tryPay(first, number);
                case 3: return second == 0 && (last == 1 ? state.tryUp(first) : last == 0 && state.tryDown(first));
                case 4: return first == 0 && state.tryRun(number);
                case 5: return number == 0 && state.tryCopy(first);
                case 6: return second == 0 && state.office.has(first)
                    && last == (state.office.isBlocked(first) ? 1 : 0);
                case 7: return state.gates.has(first) && state.gates.logSize(first) <= number;
                case 8: return state.cards.has(first) && state.cards.money.get(first) >= number;
                case 9: return first == 0 && state.doubles <= number;
                default: return false;
            }
        }
    }

    /** The turns of a simulation. */
    private static final class Simulation {
        /** Does what the number r tells; what would throw is left out. */
        static void turn(State state, int r) {
            int rest = r / 16;
            switch (r % 16) {
                case 0: state.tryIssue(rest % 40); break;
                case 1: state.tryCopy(rest % 10); break;
                case 2: state.tryDown(rest % 4); break;
                case 3: state.tryUp(rest % 4); break;
                case 4: state.tryPay(rest % 8, 1 + r / 128 % 30); break;
                case 5: state.tryOpen(rest % 4); break;
                case 6: state.tryPardon(rest % 8); break;
                case 7:
                case 8: state.tryRun(1 + rest % 20); break;
                default: state.showCard(rest % 10, r / 256 % 4); break;
            }
        }
    }

    /** The states that undo can go back to; when there are too many, the oldest is forgotten. */
    private static final class History {
        private static final int MOST = 14;

        private final State[] states = new State[MOST];
        private int oldest;
        private int size;

        History() {
            for (int i = 0; i < states.length; i++) {
                states[i] = new State();
            }
        }

        boolean isEmpty() {
            return size == 0;
        }

        void clear() {
            oldest = 0;
            size = 0;
        }

        void push(State state) {
            int place = (oldest + size) % MOST;
            if (size < MOST) {
                size++;
            } else {
                oldest = (oldest + 1) % MOST;
            }
            if (place >= 0 && place < states.length && states[place] != null) {
                states[place].copyFrom(state);
            }
        }

        /** Puts the latest state into the one that is given, and tells how many are left. */
        int pop(State into) {
            if (size > 0) {
                size--;
                int place = (oldest + size) % MOST;
                if (place >= 0 && place < states.length && states[place] != null) {
                    into.copyFrom(states[place]);
                }
            }
            return size;
        }
    }

    /** The save slots. */
    private static final class Slots {
        private final State first = new State();
        private final State second = new State();
        private boolean firstFilled;
        private boolean secondFilled;

        boolean has(int slot) {
            return slot == 0 || slot == 1;
        }

        boolean isFilled(int slot) {
            return slot == 0 ? firstFilled : secondFilled;
        }

        void clear() {
            firstFilled = false;
            secondFilled = false;
        }

        void store(int slot, State state) {
            if (slot == 0) {
                first.copyFrom(state);
                firstFilled = true;
            } else {
                second.copyFrom(state);
                secondFilled = true;
            }
        }

        void fetch(int slot, State into) {
            into.copyFrom(slot == 0 ? first : second);
        }
    }
}
