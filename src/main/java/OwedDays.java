public final class OwedDays {
    public static final int BAD = -1, NOT = -2, FULL = -3, STATE = -5, VOID = -2000000000;

    private static final int NOTHING_THERE = -11, OTHER_KIND = -12, NO_PLACE = -13, SIZE_BELOW_0 = -14;
    private static final int MOST_PEOPLE = 8, MOST_DEBTS = 20, MOST_ASKS = 30, MOST_BODIES = 50;
    private static final int MOST_CHANGES = 40, MOST_BYTES = 120, MOST_ELEMENTS = 60, MOST_TRACED = 24;
    private static final int DAYS = 48, MONTHS = 12, NOTICE = 3, ANY_KIND = 12, MOST_WORTH = 99;
    private static final int SHELVES = 6, KINDS = 8, ACTS = 4, MOST_IN_RING = 5, MOST_FROM_ROW = 15;
    private static final int BYTES = 0, SHORTS = 1, INTS = 2, BOOLEANS = 4;
    private static final int LIGHT = 0, SKILL = 1, RULE = 2, ILL = 3;
    private static final int WET = -1;

    private final Settings settings = new Settings();
    private final Changes changes = new Changes();
    private final Law text = new Law();
    private final Ledger ledger = new Ledger();
    private final Diary diary = new Diary();
    private final Ledger keptLedger = new Ledger();
    private final Diary keptDiary = new Diary();
    private final Wiper wiper = new Wiper();
    private final Bodies bodies = new Bodies();
    private final Shelf[] shelves = new Shelf[SHELVES];
    private final int[] daysOfWorth = new int[MOST_WORTH + 1];
    private boolean imageIsKept;

    public OwedDays() {
        for (int shelf = 0; shelf < SHELVES; shelf++) {
            shelves[shelf] = new Shelf();
        }
    }

    // ---- people, debts (pq: 10 times the one and the other)

    public int person(int skill) {
        if (!within(skill, 1, 9)) {
            return BAD;
        }
        if (settings.people >= MOST_PEOPLE) {
            return FULL;
        }
        return settings.addPerson(skill);
    }

    public int debt(int pq, int dk) {
        if (!settings.isPair(pq) || dk < 0 || !isDebtSo(dk / 100, dk % 100)) {
            return BAD;
        }
        if (ledger.count >= MOST_DEBTS) {
            return FULL;
        }
        return ledger.add(pq / 10, pq % 10, dk / 100, dk % 100);
    }

    public int debts(int shelf, int i, int n) {
        if (!isShelf(shelf) || !within(n, 1, MOST_FROM_ROW)) {
            return BAD;
        }
        Shelf from = shelves[shelf];
        if (from.holdsNothing()) {
            return 0;
        }
        if (from.sort != BYTES) {
            return OTHER_KIND;
        }
        int came = 0;
        for (int k = 0; k < n && debtComes(from, i + 4L * k); k++) {
            came++;
        }
        return came;
    }

    public int mend(int number, int what, int v) {
        if (!settings.isNumber(number, what) || !settings.allows(what, v)) {
            return BAD;
        }
        int before = settings.told(number, what);
        if (before != v) {
            changes.note(number, what, before, v);
            settings.tell(number, what, v);
        }
        return before;
    }

    public int of(int number, int what) {
        if (within(what, 0, 4)) {
            return ledger.isDebt(number) ? ofDebt(number, what) : VOID;
        }
        if (within(what, 10, 13)) {
            return settings.isPerson(number) ? ofPerson(number, what) : VOID;
        }
        if (what == 30) {
            return settings.isPair(number) ? ledger.owed(number / 10, number % 10) : VOID;
        }
        if (within(what, 40, 42)) {
            return diary.isAsk(number) ? ofAsk(number, what) : VOID;
        }
        if (what == 20) {
            return settings.isNumber(number, LIGHT) ? settings.told(number, LIGHT) : VOID;
        }
        if (what == 50 || what == 51) {
            int setting = what == 50 ? RULE : ILL;
            return settings.isNumber(number, setting) ? settings.told(number, setting) : VOID;
        }
        return VOID;
    }

    public int feed(int letter) {
        if (!within(letter, 0, 255)) {
            return BAD;
        }
        if (text.taped >= MOST_BYTES) {
            return FULL;
        }
        return text.tapeOn(letter);
    }

    public int law() {
        return text.adoptTape();
    }

    public int worth(int pq, int day) {
        if (!settings.isPair(pq) || !isDay(day)) {
            return BAD;
        }
        return worthOf(pq / 10, pq % 10, day);
    }

    // ---- asking, days

    public int ask(int debt, int day) {
        if (!ledger.isDebt(debt) || !within(day, diary.now + NOTICE, DAYS - 1) || isHoly(day)) {
            return BAD;
        }
        if (!ledger.isOpen(debt)) {
            return STATE;
        }
        if (diary.asks >= MOST_ASKS) {
            return FULL;
        }
        return diary.addAsk(debt, day);
    }

    public int has(int person, int day) {
        if (!settings.isPerson(person) || !within(day, diary.now, DAYS - 1)) {
            return BAD;
        }
        int debt = debtToWork(person, day);
        return debt < 0 ? NOT : ledger.whom[debt];
    }

    public int go(int seed, int n) {
        if (!within(n, 1, DAYS)) {
            return BAD;
        }
        if (n > DAYS - diary.now) {
            return STATE;
        }
        int z = seed;
        int worked = 0;
        for (int gone = 0; gone < n; gone++) {
            for (int person = 0; person < settings.people; person++) {
                z = z * 1103515245 + 12345;
                boolean ill = !isHoly(diary.now) && (z >>> 8) % 12 < settings.ill;
                if (!ill && worksToday(person)) {
                    worked++;
                }
            }
            diary.endDay();
        }
        return worked;
    }

    public int led(int dp, int what) {
        if (dp < 0 || dp / 10 >= diary.now || !settings.isPerson(dp % 10) || !within(what, 0, 1)) {
            return BAD;
        }
        int at = Diary.place(dp / 10, dp % 10);
        return what == 0 ? diary.ledWhom[at] : diary.ledDebt[at];
    }

    public int waits() {
        return diary.waiting();
    }

    // ---- in thought

    public int bestDay(int debt, int what) {
        if (!ledger.isDebt(debt) || !within(what, 0, 1)) {
            return BAD;
        }
        if (!ledger.isOpen(debt)) {
            return STATE;
        }
        int best = NOT;
        int most = NOT;
        for (int day = diary.now + NOTICE; day < DAYS; day++) {
            if (!isHoly(day)) {
                int worth = worthOf(ledger.owes[debt], ledger.whom[debt], day);
                if (worth > most) {
                    best = day;
                    most = worth;
                }
            }
        }
        return what == 0 ? best : most;
    }

    public int plan(int person, int t) {
        if (!settings.isPerson(person) || !isDay(t)) {
            return BAD;
        }
        int sum = 0;
        for (int worker = 0; worker < settings.people; worker++) {
            int owed = ledger.owed(worker, person);
            if (owed > 0) {
                sum += worthOfBestDays(worker, person, owed, t);
            }
        }
        return sum;
    }

    public int free(int person, int t) {
        if (!settings.isPerson(person) || !isDay(t)) {
            return VOID;
        }
        int workable = 0;
        for (int day = diary.now + NOTICE; day <= t; day++) {
            if (!isHoly(day)) {
                workable++;
            }
        }
        return workable - ledger.owedBy(person);
    }

    public int ring() {
        int bits = Rings.least(ledger);
        return bits == 0 ? NOT : bits;
    }

    public int wiped() {
        return wiper.fewest(ledger, settings.people);
    }

    public int balance(int person) {
        if (!settings.isPerson(person)) {
            return VOID;
        }
        return ledger.owedTo(person) - ledger.owedBy(person);
    }

    // ---- in deed

    public int hand(int ab) {
        if (ab < 0 || !ledger.isDebt(ab / 100) || !ledger.isDebt(ab % 100)) {
            return BAD;
        }
        return ledger.handOn(ab / 100, ab % 100) ? 1 : NOT;
    }

    public int strike() {
        int bits = Rings.least(ledger);
        return bits == 0 ? NOT : ledger.strikeOut(bits);
    }

    public int runaway(int person) {
        if (!settings.isPerson(person)) {
            return BAD;
        }
        return ledger.dropAllBy(person);
    }

    public int heir(int pq) {
        if (!settings.isPair(pq)) {
            return BAD;
        }
        return ledger.inherit(pq / 10, pq % 10);
    }

    // ---- books

    public int judge(int shelf) {
        if (!isShelf(shelf)) {
            return BAD;
        }
        Shelf book = shelves[shelf];
        if (book.holdsNothing()) {
            return NOTHING_THERE;
        }
        if (book.sort != SHORTS) {
            return OTHER_KIND;
        }
        for (int three = 0; three * 3 < book.length; three++) {
            if (!isThreeSo(book, three * 3)) {
                return three;
            }
        }
        return NOT;
    }

    public int wet(int shelf, int pq) {
        if (!isShelf(shelf) || !settings.isPair(pq) || shelves[shelf].sort != SHORTS) {
            return VOID;
        }
        Shelf book = shelves[shelf];
        int left = ledger.owed(pq / 10, pq % 10);
        for (int at = 0; at + 2 < book.length; at += 3) {
            int days = book.number(at + 2);
            if (book.number(at) == pq / 10 && book.number(at + 1) == pq % 10 && days != WET) {
                left -= days;
            }
        }
        return left;
    }

    public int image() {
        keptLedger.copyFrom(ledger);
        keptDiary.copyFrom(diary);
        imageIsKept = true;
        return diary.now;
    }

    public int back() {
        if (!imageIsKept) {
            return STATE;
        }
        ledger.copyFrom(keptLedger);
        diary.copyFrom(keptDiary);
        return diary.now;
    }

    public int undo() {
        return changes.done == 0 ? STATE : changes.takeBack(settings);
    }

    public int redo() {
        return changes.undone == 0 ? STATE : changes.doAgain(settings);
    }

    // ---- acts, shelves

    public int body(int kind) {
        if (!within(kind, 0, KINDS - 1)) {
            return BAD;
        }
        if (bodies.count >= MOST_BODIES) {
            return FULL;
        }
        return bodies.add(kind);
    }

    public int act(int body, int act, int x) {
        bodies.ran = 0;
        if (!bodies.isBody(body) || !within(act, 0, ACTS - 1)) {
            return 0;
        }
        return bodies.perform(body, act, x);
    }

    public int trace(int i) {
        if (!within(i, 0, Math.min(bodies.ran, MOST_TRACED) - 1)) {
            return BAD;
        }
        return bodies.traced[i];
    }

    public int keep(int shelf, int body) {
        if (!isShelf(shelf) || body != -1 && !bodies.isBody(body)) {
            return BAD;
        }
        shelves[shelf].holdDay(body);
        return 1;
    }

    public int row(int shelf, int sort, int n) {
        if (!isShelf(shelf) || !within(sort, BYTES, BOOLEANS) || n > MOST_ELEMENTS) {
            return BAD;
        }
        if (n < 0) {
            return SIZE_BELOW_0;
        }
        shelves[shelf].holdRow(sort, n);
        return 1;
    }

    public int put(int shelf, int i, long v) {
        int refusal = refusalOfElement(shelf, i);
        if (refusal != 0) {
            return refusal;
        }
        shelves[shelf].setElement(i, v);
        return 1;
    }

    public long element(int shelf, int i) {
        return refusalOfElement(shelf, i) != 0 ? Long.MIN_VALUE : shelves[shelf].elements[i];
    }

    public int shift(int shelf, int i, int other, int j, int n) {
        if (!isShelf(shelf) || !isShelf(other)) {
            return BAD;
        }
        Shelf from = shelves[shelf];
        Shelf to = shelves[other];
        if (from.holdsNothing() || to.holdsNothing()) {
            return NOTHING_THERE;
        }
        if (!from.holdsRow() || from.sort != to.sort) {
            return OTHER_KIND;
        }
        if (!from.hasPlaces(i, n) || !to.hasPlaces(j, n)) {
            return NO_PLACE;
        }
        System.arraycopy(from.elements, i, to.elements, j, n);
        return n;
    }

    public int taken(int shelf, int k) {
        if (!isShelf(shelf) || !within(k, 0, KINDS - 1)) {
            return BAD;
        }
        if (shelves[shelf].holdsNothing()) {
            return NOTHING_THERE;
        }
        int body = shelves[shelf].body;
        if (!bodies.isBody(body) || !Bodies.isUnder(bodies.kinds[body], k)) {
            return OTHER_KIND;
        }
        return bodies.kinds[body];
    }

    public int count(int what) {
        switch (what) {
            case 0: return settings.people;
            case 1: return ledger.count;
            case 2: return ledger.open();
            case 3: return diary.asks;
            case 4: return diary.now;
            case 5: return text.taped;
            case 6: return changes.done;
            case 7: return bodies.count;
            case 8: return bodies.ran;
            default: return BAD;
        }
    }

    private static boolean within(int v, int least, int most) {
        return v >= least && v <= most;
    }

    private static boolean isDay(int day) {
        return within(day, 0, DAYS - 1);
    }

    private static boolean isHoly(int day) {
        return day % 4 == 3;
    }

    private static boolean isShelf(int shelf) {
        return within(shelf, 0, SHELVES - 1);
    }

    private static boolean isDebtSo(int days, int kind) {
        return within(days, 1, 9) && within(kind, 0, ANY_KIND);
    }

    // The place is a long, as the caller's place and the fours behind it may be more than an int holds.
    private boolean debtComes(Shelf from, long place) {
        if (place < 0 || place + 3 >= from.length || ledger.count >= MOST_DEBTS) {
            return false;
        }
        int at = (int) place;
        int p = from.number(at);
        int q = from.number(at + 1);
        int days = from.number(at + 2);
        int kind = from.number(at + 3);
        if (!settings.areUnlike(p, q) || !isDebtSo(days, kind)) {
            return false;
        }
        ledger.add(p, q, days, kind);
        return true;
    }

    private int ofDebt(int debt, int what) {
        switch (what) {
            case 0: return ledger.owes[debt];
            case 1: return ledger.whom[debt];
            case 2: return ledger.days[debt];
            case 3: return ledger.kind[debt];
            default: return ledger.nick[debt];
        }
    }

    private int ofPerson(int person, int what) {
        switch (what) {
            case 10: return settings.skill[person];
            case 11: return ledger.owedBy(person);
            case 12: return ledger.owedTo(person);
            default: return diary.got[person];
        }
    }

    private int ofAsk(int ask, int what) {
        switch (what) {
            case 40: return diary.askDebt[ask];
            case 41: return diary.askDay[ask];
            default: return diary.askDone[ask] ? 1 : 0;
        }
    }

    private int worthOf(int p, int q, int day) {
        int light = settings.light[day / 4];
        int skill = settings.skill[p];
        int worth = text.isGiven() ? text.value(day, light, skill, p, q) : light * skill;
        return Math.max(0, Math.min(MOST_WORTH, worth));
    }

    // An ask by a debt that is worked off, struck or run away from meanwhile has nobody: another ask may.
    private int debtToWork(int person, int day) {
        int chosen = NOT;
        int most = 0;
        for (int ask = 0; ask < diary.asks; ask++) {
            int debt = diary.askDebt[ask];
            if (diary.askDay[ask] == day && !diary.askDone[ask] && ledger.isOpen(debt) && ledger.owes[debt] == person) {
                int merit = meritOf(debt, day);
                if (chosen < 0 || merit > most) {
                    chosen = debt;
                    most = merit;
                }
            }
        }
        return chosen;
    }

    private int meritOf(int debt, int day) {
        switch (settings.rule) {
            case 1: return ledger.owed(ledger.owes[debt], ledger.whom[debt]);
            case 2: return worthOf(ledger.owes[debt], ledger.whom[debt], day);
            default: return 0;
        }
    }

    private boolean worksToday(int person) {
        int day = diary.now;
        int debt = debtToWork(person, day);
        if (debt < 0) {
            return false;
        }
        int whom = ledger.whom[debt];
        int kind = ledger.kind[debt];
        boolean whole = kind == ANY_KIND || settings.light[kind] <= settings.light[day / 4];
        diary.lead(person, whom, debt, worthOf(person, whom, day));
        ledger.workOff(debt, whole);
        return true;
    }

    private int worthOfBestDays(int worker, int person, int days, int t) {
        for (int worth = 0; worth <= MOST_WORTH; worth++) {
            daysOfWorth[worth] = 0;
        }
        for (int day = diary.now + NOTICE; day <= t; day++) {
            if (!isHoly(day)) {
                daysOfWorth[worthOf(worker, person, day)]++;
            }
        }
        int sum = 0;
        int left = days;
        for (int worth = MOST_WORTH; worth > 0; worth--) {
            int taken = Math.min(left, daysOfWorth[worth]);
            sum += taken * worth;
            left -= taken;
        }
        return sum;
    }

    // Who owes and to whom must be right on a wet page too: only its DAYS can't be read.
    private boolean isThreeSo(Shelf book, int at) {
        if (at + 2 >= book.length) {
            return false;
        }
        int p = book.number(at);
        int q = book.number(at + 1);
        int days = book.number(at + 2);
        return settings.areUnlike(p, q) && (days == WET || days == ledger.owed(p, q));
    }

    private int refusalOfElement(int shelf, int i) {
        if (!isShelf(shelf)) {
            return BAD;
        }
        Shelf there = shelves[shelf];
        if (there.holdsNothing()) {
            return NOTHING_THERE;
        }
        if (!there.holdsRow()) {
            return OTHER_KIND;
        }
        return there.hasPlaces(i, 1) ? 0 : NO_PLACE;
    }

    /** What can be told and mended: the people and their SKILL, LIGHT, RULE and ILL. */
    private static final class Settings {
        final int[] light = new int[MONTHS];
        final int[] skill = new int[MOST_PEOPLE];
        int people;
        int rule;
        int ill = 1;

        Settings() {
            for (int month = 0; month < MONTHS; month++) {
                light[month] = 5;
            }
        }

        int addPerson(int itsSkill) {
            skill[people] = itsSkill;
            people++;
            return people - 1;
        }

        boolean isPerson(int p) {
            return within(p, 0, people - 1);
        }

        boolean areUnlike(int p, int q) {
            return isPerson(p) && isPerson(q) && p != q;
        }

        boolean isPair(int pq) {
            return pq >= 0 && areUnlike(pq / 10, pq % 10);
        }

        boolean isNumber(int number, int what) {
            switch (what) {
                case LIGHT: return within(number, 0, MONTHS - 1);
                case SKILL: return isPerson(number);
                case RULE: return number == 0;
                case ILL: return number == 0;
                default: return false;
            }
        }

        boolean allows(int what, int v) {
            switch (what) {
                case RULE: return within(v, 0, 2);
                case ILL: return within(v, 0, 12);
                default: return within(v, 1, 9);
            }
        }

        int told(int number, int what) {
            switch (what) {
                case LIGHT: return light[number];
                case SKILL: return skill[number];
                case RULE: return rule;
                default: return ill;
            }
        }

        void tell(int number, int what, int v) {
            switch (what) {
                case LIGHT: light[number] = v; break;
                case SKILL: skill[number] = v; break;
                case RULE: rule = v; break;
                default: ill = v; break;
            }
        }
    }

    /** The changes of settings: first those that may be undone, behind them those that may be done again. */
    private static final class Changes {
        private final int[] number = new int[MOST_CHANGES];
        private final int[] what = new int[MOST_CHANGES];
        private final int[] before = new int[MOST_CHANGES];
        private final int[] after = new int[MOST_CHANGES];
        int done;
        int undone;

        void note(int itsNumber, int itsWhat, int was, int is) {
            if (done >= MOST_CHANGES) {
                forgetOldest();
            }
            number[done] = itsNumber;
            what[done] = itsWhat;
            before[done] = was;
            after[done] = is;
            done++;
            undone = 0;
        }

        private void forgetOldest() {
            System.arraycopy(number, 1, number, 0, MOST_CHANGES - 1);
            System.arraycopy(what, 1, what, 0, MOST_CHANGES - 1);
            System.arraycopy(before, 1, before, 0, MOST_CHANGES - 1);
            System.arraycopy(after, 1, after, 0, MOST_CHANGES - 1);
            done = MOST_CHANGES - 1;
        }

        int takeBack(Settings settings) {
            done--;
            undone++;
            settings.tell(number[done], what[done], before[done]);
            return done;
        }

        int doAgain(Settings settings) {
            settings.tell(number[done], what[done], after[done]);
            done++;
            undone--;
            return undone;
        }
    }

    /**
     * THE TAPE and THE LAW. A TEXT is turned into code once, operands ahead of operators, as
     * planning asks for the worth of many days and a walk over the bytes each time would be dear.
     */
    private static final class Law {
        private static final int NAME = 10000, OPERATOR = 20000;
        private static final int LINE_ENDS = OPERATOR + ';', ONLY_IF = OPERATOR + '?';
        private static final int LESS_THAN_NOTHING = '~';
        private static final int MOST_OPEN = 6;
        private static final int RANK_OF_SIGN = 6, RANK_OF_COMPARING = 3;

        private final int[] tape = new int[MOST_BYTES];
        private final int[] code = new int[MOST_BYTES + 1];
        private final int[] draft = new int[MOST_BYTES + 1];
        private final int[] operators = new int[MOST_BYTES];
        private final int[] values = new int[MOST_BYTES + 1];
        private final int[] names = new int[6];
        int taped;
        private int coded;
        private int drafted;
        private int pending;
        private int open;
        private int brackets;
        private int digitsToCome;
        private boolean operandIsDue;
        private boolean conditionIsBehind;

        int tapeOn(int letter) {
            tape[taped] = letter;
            taped++;
            return taped;
        }

        boolean isGiven() {
            return coded > 0;
        }

        int adoptTape() {
            int fault = faultOfTape();
            taped = 0;
            if (fault >= 0) {
                return -100 - fault;
            }
            System.arraycopy(draft, 0, code, 0, drafted);
            coded = drafted;
            return 1;
        }

        // Byte by byte, as whatever is taken can still be gone on with: the first byte refused is the FAULT.
        private int faultOfTape() {
            drafted = 0;
            pending = 0;
            open = 0;
            brackets = 0;
            operandIsDue = true;
            conditionIsBehind = false;
            for (int at = 0; at < taped; at++) {
                boolean goesOn = operandIsDue ? takeForOperand(tape[at]) : takeBehindOperand(tape[at]);
                if (!goesOn) {
                    return at;
                }
            }
            if (operandIsDue || brackets > 0) {
                return taped;
            }
            settle(1);
            emit(LINE_ENDS);
            return -1;
        }

        private boolean takeForOperand(int letter) {
            if (isDigit(letter)) {
                endOperand(letter - '0', 3);
                return true;
            }
            int name = nameOf(letter);
            if (name >= 0) {
                endOperand(NAME + name, 0);
                return true;
            }
            if (letter != '(' && letter != '!' && letter != '-' || open >= MOST_OPEN) {
                return false;
            }
            open++;
            if (letter == '(') {
                brackets++;
            }
            push(letter == '-' ? LESS_THAN_NOTHING : letter);
            return true;
        }

        private void endOperand(int itsCode, int digits) {
            emit(itsCode);
            digitsToCome = digits;
            operandIsDue = false;
        }

        private boolean takeBehindOperand(int letter) {
            if (isDigit(letter)) {
                return takeNextDigit(letter - '0');
            }
            if (letter == ')') {
                return takeBracketsEnd();
            }
            if (letter == ';' || letter == '?') {
                return takeExpressionsEnd(letter);
            }
            int rank = rankOf(letter);
            if (rank == 0 || rank == RANK_OF_SIGN) {
                return false;
            }
            boolean compares = rank == RANK_OF_COMPARING;
            settle(compares ? rank + 1 : rank);
            if (compares && pending > 0 && rankOf(operators[pending - 1]) == rank) {
                return false;
            }
            push(letter);
            operandIsDue = true;
            return true;
        }

        private boolean takeNextDigit(int digit) {
            if (digitsToCome <= 0 || drafted <= 0) {
                return false;
            }
            digitsToCome--;
            draft[drafted - 1] = draft[drafted - 1] * 10 + digit;
            return true;
        }

        private boolean takeBracketsEnd() {
            if (brackets == 0) {
                return false;
            }
            settle(1);
            pending--;
            open--;
            brackets--;
            digitsToCome = 0;
            return true;
        }

        private boolean takeExpressionsEnd(int letter) {
            if (brackets > 0 || letter == '?' && conditionIsBehind) {
                return false;
            }
            settle(1);
            emit(OPERATOR + letter);
            conditionIsBehind = letter == '?';
            operandIsDue = true;
            return true;
        }

        // Operators that wait go into the code, down to the first that binds less; a bracket has rank 0.
        private void settle(int leastRank) {
            while (pending > 0 && rankOf(operators[pending - 1]) >= leastRank) {
                pending--;
                if (rankOf(operators[pending]) == RANK_OF_SIGN) {
                    open--;
                }
                emit(OPERATOR + operators[pending]);
            }
        }

        // Each byte is pushed and emitted at most once, so there is room for all; it is looked at all the same.
        private void push(int operator) {
            if (pending < operators.length) {
                operators[pending] = operator;
                pending++;
            }
        }

        private void emit(int itsCode) {
            if (drafted < draft.length) {
                draft[drafted] = itsCode;
                drafted++;
            }
        }

        private static boolean isDigit(int letter) {
            return within(letter, '0', '9');
        }

        private static int nameOf(int letter) {
            switch (letter) {
                case 'd': return 0;
                case 'm': return 1;
                case 'l': return 2;
                case 's': return 3;
                case 'p': return 4;
                case 'q': return 5;
                default: return -1;
            }
        }

        private static int rankOf(int operator) {
            switch (operator) {
                case '!': case LESS_THAN_NOTHING: return RANK_OF_SIGN;
                case '*': case '/': case '%': return 5;
                case '+': case '-': return 4;
                case '<': case '=': case '>': return RANK_OF_COMPARING;
                case '&': return 2;
                case '|': return 1;
                default: return 0;
            }
        }

        // The code is that of a TEXT without FAULT, so what a step takes is there; it is looked at all the same.
        int value(int day, int light, int skill, int p, int q) {
            names[0] = day;
            names[1] = day / 4;
            names[2] = light;
            names[3] = skill;
            names[4] = p;
            names[5] = q;
            int top = 0;
            boolean lineIsPassed = false;
            for (int at = 0; at < coded; at++) {
                int step = code[at];
                if (lineIsPassed) {
                    lineIsPassed = step != LINE_ENDS;
                } else if (step < OPERATOR) {
                    values[top] = step < NAME ? step : names[step - NAME];
                    top++;
                } else if (top < operandsOf(rankOf(step - OPERATOR))) {
                    return 0;
                } else if (step == LINE_ENDS) {
                    return values[top - 1];
                } else if (step == ONLY_IF) {
                    top--;
                    lineIsPassed = values[top] == 0;
                } else if (rankOf(step - OPERATOR) == RANK_OF_SIGN) {
                    values[top - 1] = ofOne(step - OPERATOR, values[top - 1]);
                } else {
                    top--;
                    values[top - 1] = ofTwo(step - OPERATOR, values[top - 1], values[top]);
                }
            }
            return 0;
        }

        // A line's end and a condition's end have rank 0: each takes one, as a sign does.
        private static int operandsOf(int rank) {
            return rank == 0 || rank == RANK_OF_SIGN ? 1 : 2;
        }

        private static int ofOne(int operator, int a) {
            if (operator == '!') {
                return a == 0 ? 1 : 0;
            }
            return -a;
        }

        private static int ofTwo(int operator, int a, int b) {
            switch (operator) {
                case '*': return a * b;
                case '/': return b == 0 ? 0 : a / b;
                case '%': return b == 0 ? 0 : a % b;
                case '+': return a + b;
                case '-': return a - b;
                case '<': return a < b ? 1 : 0;
                case '=': return a == b ? 1 : 0;
                case '>': return a > b ? 1 : 0;
                case '&': return a != 0 && b != 0 ? 1 : 0;
                default: return a != 0 || b != 0 ? 1 : 0;
            }
        }
    }

    /** The DEBTS. A debt that is not OPEN has 0 days left, so that sums need not look for that. */
    private static final class Ledger {
        final int[] owes = new int[MOST_DEBTS];
        final int[] whom = new int[MOST_DEBTS];
        final int[] days = new int[MOST_DEBTS];
        final int[] kind = new int[MOST_DEBTS];
        final int[] nick = new int[MOST_DEBTS];
        int count;

        void copyFrom(Ledger other) {
            System.arraycopy(other.owes, 0, owes, 0, MOST_DEBTS);
            System.arraycopy(other.whom, 0, whom, 0, MOST_DEBTS);
            System.arraycopy(other.days, 0, days, 0, MOST_DEBTS);
            System.arraycopy(other.kind, 0, kind, 0, MOST_DEBTS);
            System.arraycopy(other.nick, 0, nick, 0, MOST_DEBTS);
            count = other.count;
        }

        boolean isDebt(int debt) {
            return within(debt, 0, count - 1);
        }

        boolean isOpen(int debt) {
            return isDebt(debt) && days[debt] > 0;
        }

        int add(int p, int q, int itsDays, int itsKind) {
            owes[count] = p;
            whom[count] = q;
            days[count] = itsDays;
            kind[count] = itsKind;
            nick[count] = 0;
            count++;
            return count - 1;
        }

        int open() {
            int sum = 0;
            for (int debt = 0; debt < count; debt++) {
                if (days[debt] > 0) {
                    sum++;
                }
            }
            return sum;
        }

        int owed(int p, int q) {
            int sum = 0;
            for (int debt = 0; debt < count; debt++) {
                if (owes[debt] == p && whom[debt] == q) {
                    sum += days[debt];
                }
            }
            return sum;
        }

        int owedBy(int p) {
            int sum = 0;
            for (int debt = 0; debt < count; debt++) {
                if (owes[debt] == p) {
                    sum += days[debt];
                }
            }
            return sum;
        }

        int owedTo(int q) {
            int sum = 0;
            for (int debt = 0; debt < count; debt++) {
                if (whom[debt] == q) {
                    sum += days[debt];
                }
            }
            return sum;
        }

        private void lessen(int debt, int by) {
            days[debt] -= by;
            if (days[debt] == 0) {
                nick[debt] = 0;
            }
        }

        void workOff(int debt, boolean whole) {
            if (whole) {
                lessen(debt, 1);
            } else if (nick[debt] == 0) {
                nick[debt] = 1;
            } else {
                nick[debt] = 0;
                lessen(debt, 1);
            }
        }

        boolean handOn(int a, int b) {
            boolean joined = isOpen(a) && isOpen(b) && whom[a] == owes[b] && owes[a] != whom[b];
            if (!joined || kind[a] != kind[b] || days[a] != days[b] || nick[a] != nick[b]) {
                return false;
            }
            whom[a] = whom[b];
            lessen(b, days[b]);
            return true;
        }

        int strikeOut(int bits) {
            int least = 0;
            for (int debt = 0; debt < count; debt++) {
                if ((bits >> debt & 1) != 0 && (least == 0 || days[debt] < least)) {
                    least = days[debt];
                }
            }
            for (int debt = 0; debt < count; debt++) {
                if ((bits >> debt & 1) != 0) {
                    lessen(debt, least);
                }
            }
            return least;
        }

        int dropAllBy(int p) {
            int sum = owedBy(p);
            for (int debt = 0; debt < count; debt++) {
                if (owes[debt] == p) {
                    lessen(debt, days[debt]);
                }
            }
            return sum;
        }

        int inherit(int p, int q) {
            int passed = 0;
            for (int debt = 0; debt < count; debt++) {
                boolean from = owes[debt] == p;
                boolean to = whom[debt] == p;
                if (isOpen(debt) && (from || to)) {
                    if ((from ? whom[debt] : owes[debt]) == q) {
                        lessen(debt, days[debt]);
                    } else {
                        owes[debt] = from ? q : owes[debt];
                        whom[debt] = to ? q : whom[debt];
                        passed++;
                    }
                }
            }
            return passed;
        }
    }

    /** NOW, the ASKS, and what LED tells of the days that were: what an image keeps beside the DEBTS. */
    private static final class Diary {
        final int[] askDebt = new int[MOST_ASKS];
        final int[] askDay = new int[MOST_ASKS];
        final boolean[] askDone = new boolean[MOST_ASKS];
        final int[] ledWhom = new int[DAYS * MOST_PEOPLE];
        final int[] ledDebt = new int[DAYS * MOST_PEOPLE];
        final int[] got = new int[MOST_PEOPLE];
        int asks;
        int now;

        Diary() {
            for (int at = 0; at < DAYS * MOST_PEOPLE; at++) {
                ledWhom[at] = NOT;
                ledDebt[at] = NOT;
            }
        }

        static int place(int day, int person) {
            return day * MOST_PEOPLE + person;
        }

        void copyFrom(Diary other) {
            System.arraycopy(other.askDebt, 0, askDebt, 0, MOST_ASKS);
            System.arraycopy(other.askDay, 0, askDay, 0, MOST_ASKS);
            System.arraycopy(other.askDone, 0, askDone, 0, MOST_ASKS);
            System.arraycopy(other.ledWhom, 0, ledWhom, 0, DAYS * MOST_PEOPLE);
            System.arraycopy(other.ledDebt, 0, ledDebt, 0, DAYS * MOST_PEOPLE);
            System.arraycopy(other.got, 0, got, 0, MOST_PEOPLE);
            asks = other.asks;
            now = other.now;
        }

        boolean isAsk(int ask) {
            return within(ask, 0, asks - 1);
        }

        int addAsk(int debt, int day) {
            askDebt[asks] = debt;
            askDay[asks] = day;
            askDone[asks] = false;
            asks++;
            return asks - 1;
        }

        int waiting() {
            int sum = 0;
            for (int ask = 0; ask < asks; ask++) {
                if (!askDone[ask]) {
                    sum++;
                }
            }
            return sum;
        }

        void lead(int person, int whom, int debt, int worth) {
            int at = place(now, person);
            ledWhom[at] = whom;
            ledDebt[at] = debt;
            got[whom] += worth;
        }

        void endDay() {
            for (int ask = 0; ask < asks; ask++) {
                if (askDay[ask] == now) {
                    askDone[ask] = true;
                }
            }
            now++;
        }
    }

    /** The search for the RING: a set of DEBTS is told as bits, and none as 0. */
    private static final class Rings {
        static int least(Ledger ledger) {
            int least = 0;
            for (int size = 2; size <= MOST_IN_RING && least == 0; size++) {
                for (int first = 0; first < ledger.count; first++) {
                    if (ledger.isOpen(first)) {
                        least = lesser(least, follow(ledger, first, first, 1 << first, 1 << ledger.owes[first], size - 1));
                    }
                }
            }
            return least;
        }

        // A ring is met once, from its lowest debt on; toCome, at most 4, keeps the depth low.
        private static int follow(Ledger ledger, int first, int last, int bits, int owing, int toCome) {
            int person = ledger.whom[last];
            if (toCome <= 0) {
                return person == ledger.owes[first] ? bits : 0;
            }
            if ((owing >> person & 1) != 0) {
                return 0;
            }
            int least = 0;
            for (int next = first + 1; next < ledger.count; next++) {
                if (ledger.owes[next] == person && ledger.kind[next] == ledger.kind[first] && ledger.isOpen(next)) {
                    least = lesser(least, follow(ledger, first, next, bits | 1 << next, owing | 1 << person, toCome - 1));
                }
            }
            return least;
        }

        private static int lesser(int a, int b) {
            return a == 0 || b == 0 ? a | b : Math.min(a, b);
        }
    }

    /**
     * The search for WIPED: a set of people who are even among themselves needs one debt less than
     * it has people, so the fewest debts come of the most such sets that can stand side by side.
     */
    private static final class Wiper {
        private final int[] net = new int[MOST_PEOPLE];
        private final int[] sum = new int[1 << MOST_PEOPLE];
        private final int[] evenSets = new int[1 << MOST_PEOPLE];

        int fewest(Ledger ledger, int people) {
            takeNet(ledger);
            for (int set = 1; set < 1 << people; set++) {
                int most = 0;
                for (int person = 0; person < people; person++) {
                    if ((set >> person & 1) != 0) {
                        int rest = set ^ 1 << person;
                        sum[set] = sum[rest] + net[person];
                        most = Math.max(most, evenSets[rest]);
                    }
                }
                evenSets[set] = sum[set] == 0 ? most + 1 : most;
            }
            return people - evenSets[(1 << people) - 1];
        }

        private void takeNet(Ledger ledger) {
            for (int person = 0; person < MOST_PEOPLE; person++) {
                net[person] = 0;
            }
            for (int debt = 0; debt < ledger.count; debt++) {
                if (ledger.kind[debt] == ANY_KIND) {
                    net[ledger.owes[debt]] -= ledger.days[debt];
                    net[ledger.whom[debt]] += ledger.days[debt];
                }
            }
        }
    }

    /** DAYS' ways: the BODIES kept, and their acts. */
    private static final class Bodies {
        private static final int OWES = 0, WORKS = 1, ASKS = 2, TELLS = 3;
        private static final int DEEPEST = 40;
        private static final int[] ABOVE = {-1, 0, 0, 2, 1, 3, 0, 4};
        // by KIND, then ACT: the number of the body that the KIND itself has (0: none)
        private static final int[] OWN = {
            1, 10, 11, 2,
            20, 0, 0, 0,
            0, 30, 0, 0,
            0, 41, 40, 0,
            0, 0, 50, 0,
            0, 0, 0, 60,
            70, 0, 0, 0,
            0, 80, 0, 81
        };

        final int[] kinds = new int[MOST_BODIES];
        final int[] traced = new int[MOST_TRACED];
        int count;
        int ran;
        private int actor;

        int add(int kind) {
            kinds[count] = kind;
            count++;
            return count - 1;
        }

        boolean isBody(int body) {
            return within(body, 0, count - 1);
        }

        static boolean isUnder(int kind, int above) {
            int at = kind;
            for (int step = 0; step < KINDS && at > 0 && at != above; step++) {
                at = ABOVE[at];
            }
            return at == above;
        }

        int perform(int body, int act, int x) {
            actor = body;
            return own(act, x, 0);
        }

        private int own(int act, int x, int depth) {
            return from(kinds[actor], act, x, depth);
        }

        private int from(int kind, int act, int x, int depth) {
            int at = kind;
            for (int step = 0; step < KINDS && at > 0 && OWN[at * ACTS + act] == 0; step++) {
                at = ABOVE[at];
            }
            if (at < 0 || depth > DEEPEST) {
                return 0;
            }
            int number = OWN[at * ACTS + act];
            note(number);
            return at == 0 ? runOfDay(number, x, depth + 1) : runUnderDay(number, ABOVE[at], x, depth + 1);
        }

        private void note(int number) {
            if (ran < MOST_TRACED) {
                traced[ran] = number;
            }
            ran++;
        }

        private int runOfDay(int number, int x, int depth) {
            switch (number) {
                case 1: return x + actor;
                case 2: return own(WORKS, x, depth) - own(ASKS, 1, depth);
                case 10: return own(OWES, x, depth) * 2;
                default: return x ^ actor;
            }
        }

        private int runUnderDay(int number, int above, int x, int depth) {
            switch (number) {
                case 20: return from(above, OWES, x, depth) + 3;
                case 30: return -from(above, WORKS, x, depth);
                case 40: return from(above, ASKS, x, depth) * 3;
                case 41: return from(above, WORKS, x + 1, depth);
                case 50: return from(above, ASKS, x, depth) - own(OWES, 2, depth);
                case 60: return from(above, TELLS, x, depth) ^ 5;
                case 70: return from(above, OWES, x, depth) * 2;
                case 80: return from(above, WORKS, x, depth) + own(ASKS, 2, depth);
                default: return from(above, TELLS, x, depth) - 1;
            }
        }
    }

    /** A SHELF: its ROW's elements are made once, and a new ROW is laid over them. */
    private static final class Shelf {
        final long[] elements = new long[MOST_ELEMENTS];
        int body = -1;
        int sort = -1;
        int length;

        boolean holdsNothing() {
            return body < 0 && sort < 0;
        }

        boolean holdsRow() {
            return sort >= 0;
        }

        void holdDay(int itsBody) {
            body = itsBody;
            sort = -1;
            length = 0;
        }

        void holdRow(int itsSort, int n) {
            body = -1;
            sort = itsSort;
            length = n;
            for (int i = 0; i < n; i++) {
                elements[i] = 0;
            }
        }

        boolean hasPlaces(int i, int n) {
            return n >= 0 && n <= length && i >= 0 && i <= length - n;
        }

        int number(int i) {
            return (int) elements[i];
        }

        void setElement(int i, long v) {
            switch (sort) {
                case BYTES: elements[i] = (byte) v; break;
                case SHORTS: elements[i] = (short) v; break;
                case INTS: elements[i] = (int) v; break;
                case BOOLEANS: elements[i] = v != 0 ? 1 : 0; break;
                default: elements[i] = v; break;
            }
        }
    }
}
