/** Exact answers about the ranks of readings that lie scattered over eight loggers, asked for by letters. */
public final class RankHouse {
    public static final int NONE = -1;

    private static final int LOGGERS = 8;
    private static final int READINGS_AT_MOST = 500;
    private static final int QUESTIONS_AT_MOST = 8;
    private static final int LETTERS_AT_MOST = 96;
    private static final int NUMBERS_AT_MOST = 64;
    private static final int RUN_AT_MOST = 1000;
    private static final int NUMBERS_FROM = 7;
    private static final int NUMBERS_TO = NUMBERS_FROM + NUMBERS_AT_MOST - 1;
    private static final int FILL_FACTOR = 40503;

    private static final int ASKING = 0;
    private static final int ANSWERED = 1;
    private static final int REFUSED = 2;
    private static final int LOST = 3;

    private static final int READING_AT_RANK = 0;
    private static final int COUNT_WITHIN = 1;
    private static final int TRIMMED_SUM = 2;
    private static final int SHARE_UP_TO = 3;
    private static final int SPREAD = 4;
    private static final int TRIM_AT_MOST = 499;
    private static final int SPREAD_AT_MOST = 1000;

    // The answer to each of these has the kind that follows it.
    private static final int FREEZE = 1;
    private static final int SPLIT = 3;
    private static final int CUT = 5;
    private static final int GIVE = 7;
    private static final int GIVEN = 8;
    private static final int HOLD = 9;
    private static final int ADD = 11;

    private final Logger[] loggers;
    private final Question[] questions;
    private final Post post;
    private int lastNumber;

    public RankHouse() {
        loggers = new Logger[LOGGERS];
        for (int i = 0; i < LOGGERS; i++) {
            loggers[i] = new Logger();
        }
        questions = new Question[QUESTIONS_AT_MOST];
        post = new Post();
    }

    public int record(int logger, int value) throws IndexOutOfBoundsException, IllegalStateException {
        Logger one = loggerOf(logger);
        needRoomFor(one, 1);
        one.readings.insert(value);
        return one.readings.size;
    }

    public int fill(int logger, int many, int from, int step, int mask)
            throws IndexOutOfBoundsException, IllegalArgumentException, IllegalStateException {
        Logger one = loggerOf(logger);
        if (many < 0 || many > READINGS_AT_MOST) {
            throw new IllegalArgumentException("many is not 0 .. 500");
        }
        needRoomFor(one, many);
        for (int k = 0; k < many; k++) {
            one.readings.insert((from + k * step) ^ (k * FILL_FACTOR & mask));
        }
        return one.readings.size;
    }

    public int size(int logger) throws IndexOutOfBoundsException {
        return loggerOf(logger).readings.size;
    }

    public int ask(int driver, int kind, int a, int b)
            throws IndexOutOfBoundsException, IllegalArgumentException, IllegalStateException {
        Logger one = loggerOf(driver);
        if (!isAskable(kind, a)) {
            throw new IllegalArgumentException("kind is not 0 .. 4, or a does not fit it");
        }
        needUp(one);
        Question question = freePlace();
        lastNumber++;
        question.begin(lastNumber, kind, a, b);
        question.beginTurn(driver);
        askAll(question);
        return lastNumber;
    }

    public int letters() {
        return post.count;
    }

    public int letter(int i, int what) throws IndexOutOfBoundsException, IllegalArgumentException {
        needLetter(i);
        if (what < 0 || what > NUMBERS_TO) {
            throw new IllegalArgumentException("what is not 0 .. 70");
        }
        return post.at(i).tell(what);
    }

    public int deliver(int i) throws IndexOutOfBoundsException {
        needLetter(i);
        arrive(post.takeOut(i));
        return post.count;
    }

    public int lose(int i) throws IndexOutOfBoundsException {
        needLetter(i);
        post.takeOut(i);
        return post.count;
    }

    public boolean twin(int i) throws IndexOutOfBoundsException {
        needLetter(i);
        Letter other = post.send();
        if (other == null) {
            return false;
        }
        other.copy(post.at(i));
        return true;
    }

    public int run(int many) throws IllegalArgumentException {
        if (many < 0 || many > RUN_AT_MOST) {
            throw new IllegalArgumentException("many is not 0 .. 1000");
        }
        int often = 0;
        while (often < many && post.count > 0) {
            arrive(post.takeOut(0));
            often++;
        }
        return often;
    }

    public int resend(int question) throws IndexOutOfBoundsException, IllegalStateException {
        Question one = questionOf(question);
        if (one.state != ASKING) {
            throw new IllegalStateException("the question is not ASKING");
        }
        return askThoseLeft(one);
    }

    public int takeOver(int question, int driver) throws IndexOutOfBoundsException, IllegalStateException {
        Question one = questionOf(question);
        needUp(loggerOf(driver));
        if (one.state != ASKING && one.state != LOST) {
            throw new IllegalStateException("the question is neither ASKING nor LOST");
        }
        one.beginTurn(driver);
        askAll(one);
        return one.turn;
    }

    public int crash(int logger) throws IndexOutOfBoundsException {
        loggerOf(logger).up = false;
        int lost = 0;
        for (int i = 0; i < QUESTIONS_AT_MOST; i++) {
            Question one = questions[i];
            if (one != null && one.isThere() && one.driver == logger && one.state == ASKING) {
                one.state = LOST;
                lost++;
            }
        }
        return lost;
    }

    public void restart(int logger) throws IndexOutOfBoundsException {
        loggerOf(logger).up = true;
    }

    public int state(int question) throws IndexOutOfBoundsException {
        return questionOf(question).state;
    }

    public long answer(int question) throws IndexOutOfBoundsException, IllegalStateException {
        Question one = questionOf(question);
        needAnswered(one);
        return one.result;
    }

    public int found(int question, boolean last) throws IndexOutOfBoundsException, IllegalStateException {
        Question one = questionOf(question);
        needAnswered(one);
        if (!one.hasTwoRanks()) {
            throw new IllegalStateException("the question is not of kind 2 or 4");
        }
        return last ? one.lastReading : one.firstReading;
    }

    public int about(int question, int what) throws IndexOutOfBoundsException, IllegalArgumentException {
        Question one = questionOf(question);
        switch (what) {
            case 0:
                return one.driver;
            case 1:
                return one.turn;
            case 2:
                return one.step;
            case 3:
                return one.rounds;
            case 4:
                return one.total;
            case 5:
                return one.search.open;
            case 6:
                return one.state == ASKING ? one.askedKind : 0;
            case 7:
                return one.state == ASKING ? one.replies.heard : 0;
            default:
                throw new IllegalArgumentException("what is not 0 .. 7");
        }
    }

    public int mark(int logger, int question) throws IndexOutOfBoundsException {
        needLogger(logger);
        return questionOf(question).marks[logger];
    }

    public int forget(int question) throws IndexOutOfBoundsException {
        questionOf(question).number = 0;
        post.loseAllOf(question);
        int there = 0;
        for (int i = 0; i < QUESTIONS_AT_MOST; i++) {
            if (questions[i] != null && questions[i].isThere()) {
                there++;
            }
        }
        return there;
    }

    private static void needLogger(int logger) {
        if (logger < 0 || logger >= LOGGERS) {
            throw new IndexOutOfBoundsException("there is no such logger");
        }
    }

    private Logger loggerOf(int logger) {
        needLogger(logger);
        return loggers[logger];
    }

    private static void needUp(Logger one) {
        if (!one.up) {
            throw new IllegalStateException("the logger is not UP");
        }
    }

    private static void needRoomFor(Logger one, int many) {
        needUp(one);
        if (one.readings.size + many > READINGS_AT_MOST) {
            throw new IllegalStateException("a logger has 500 readings at most");
        }
    }

    private void needLetter(int i) {
        if (i < 0 || i >= post.count) {
            throw new IndexOutOfBoundsException("there is no such letter");
        }
    }

    private static void needAnswered(Question one) {
        if (one.state != ANSWERED) {
            throw new IllegalStateException("the question is not ANSWERED");
        }
    }

    private static boolean isAskable(int kind, int a) {
        switch (kind) {
            case READING_AT_RANK:
                return a >= 1;
            case TRIMMED_SUM:
                return a >= 0 && a <= TRIM_AT_MOST;
            case SPREAD:
                return a >= 0 && a <= SPREAD_AT_MOST;
            default:
                return kind == COUNT_WITHIN || kind == SHARE_UP_TO;
        }
    }

    private Question seek(int number) {
        for (int i = 0; i < QUESTIONS_AT_MOST; i++) {
            Question one = questions[i];
            if (one != null && one.isThere() && one.number == number) {
                return one;
            }
        }
        return null;
    }

    private Question questionOf(int number) {
        Question one = seek(number);
        if (one == null) {
            throw new IndexOutOfBoundsException("there is no such question");
        }
        return one;
    }

    // A place is made when it is first needed and used again after a forget: its rows are the largest part of an object.
    private Question freePlace() {
        for (int i = 0; i < QUESTIONS_AT_MOST; i++) {
            if (questions[i] == null) {
                questions[i] = new Question();
            }
            if (!questions[i].isThere()) {
                return questions[i];
            }
        }
        throw new IllegalStateException("eight questions are there");
    }

    private void askUnlessDone(Question question) {
        if (question.state == ASKING) {
            askAll(question);
        }
    }

    private void askAll(Question question) {
        question.beginStep();
        askThoseLeft(question);
    }

    private int askThoseLeft(Question question) {
        int asked = 0;
        for (int to = 0; to < LOGGERS; to++) {
            if (!question.replies.came[to]) {
                question.writeAsking(post.send(), to);
                asked++;
            }
        }
        return asked;
    }

    private void arrive(Letter letter) {
        Question question = seek(letter.question);
        if (question == null || !loggers[letter.to].up) {
            return;
        }
        if (letter.isAsking()) {
            reply(letter, question);
        } else if (question.awaits(letter)) {
            question.replies.hear(letter);
            if (question.replies.heard == LOGGERS) {
                question.goOn();
                askUnlessDone(question);
            }
        }
    }

    private void reply(Letter asking, Question question) {
        int logger = asking.to;
        if (asking.kind == FREEZE) {
            question.freeze(logger, loggers[logger].readings);
        }
        if (question.marks[logger] == NONE) {
            return;
        }
        Letter answering = post.send();
        if (answering != null) {
            answering.replyTo(asking);
            answering.fillIn(asking, question.frozen[logger]);
        }
    }

    private static final class Logger {
        final SortedRow readings = new SortedRow(READINGS_AT_MOST);
        boolean up = true;
    }

    /** Readings in rising order. All that is asked of readings depends on their order of size and never on when they came. */
    private static final class SortedRow {
        // The jumps of a look-up are halved from here, so that a row may have 511 values.
        private static final int FIRST_JUMP = 256;

        final int[] values;
        int size;

        SortedRow(int room) {
            values = new int[room];
        }

        void insert(int value) {
            if (size >= values.length) {
                return;
            }
            int at = below(value);
            System.arraycopy(values, at, values, at + 1, size - at);
            values[at] = value;
            size++;
        }

        void copy(SortedRow other) {
            size = Math.min(other.size, values.length);
            System.arraycopy(other.values, 0, values, 0, size);
        }

        int at(int i) {
            return i >= 0 && i < size ? values[i] : 0;
        }

        // The bound is a long so that one above the greatest int can be asked for.
        int below(long bound) {
            int count = 0;
            for (int jump = FIRST_JUMP; jump > 0; jump /= 2) {
                int next = count + jump;
                if (next <= size && values[next - 1] < bound) {
                    count = next;
                }
            }
            return count;
        }

        int within(long low, long high) {
            return Math.max(0, below(high + 1) - below(low));
        }

        long sum(int from, int to) {
            long sum = 0;
            for (int i = from; i < to; i++) {
                sum += at(i);
            }
            return sum;
        }
    }

    private static final class Letter {
        final int[] numbers = new int[NUMBERS_AT_MOST];
        int amount;
        long sum;
        int kind;
        int question;
        int turn;
        int step;
        int from;
        int to;

        boolean isAsking() {
            return kind % 2 == 1;
        }

        void address(int newKind, int newQuestion, int newTurn, int newStep, int sender, int receiver) {
            kind = newKind;
            question = newQuestion;
            turn = newTurn;
            step = newStep;
            from = sender;
            to = receiver;
            amount = 0;
            sum = 0;
        }

        void copy(Letter other) {
            address(other.kind, other.question, other.turn, other.step, other.from, other.to);
            amount = other.amount;
            System.arraycopy(other.numbers, 0, numbers, 0, amount);
            sum = other.sum;
        }

        void replyTo(Letter asking) {
            address(asking.kind + 1, asking.question, asking.turn, asking.step, asking.to, asking.from);
        }

        void put(int number) {
            if (amount < NUMBERS_AT_MOST) {
                numbers[amount] = number;
                amount++;
            }
        }

        int number(int k) {
            return k >= 0 && k < amount ? numbers[k] : 0;
        }

        int tell(int what) {
            switch (what) {
                case 0:
                    return kind;
                case 1:
                    return question;
                case 2:
                    return step;
                case 3:
                    return from;
                case 4:
                    return to;
                case 5:
                    return turn;
                case 6:
                    return amount;
                default:
                    return number(what - NUMBERS_FROM);
            }
        }

        void fillIn(Letter asking, SortedRow frozen) {
            int x = asking.number(0);
            int y = asking.number(1);
            switch (asking.kind) {
                case FREEZE:
                    put(frozen.size);
                    break;
                case SPLIT:
                    putPart(frozen, x, y);
                    break;
                case CUT:
                    putSides(frozen, x, asking.number(2));
                    break;
                case GIVE:
                    putGiven(frozen, x, y);
                    break;
                case HOLD:
                    put(frozen.within(x, y));
                    break;
                default:
                    putAdded(frozen, x, y);
                    break;
            }
        }

        private void putPart(SortedRow frozen, int low, int high) {
            int count = frozen.within(low, high);
            put(count);
            put(count == 0 ? 0 : frozen.at(frozen.below(low) + (count + 1) / 2 - 1));
        }

        private void putSides(SortedRow frozen, int low, int pivot) {
            put(frozen.within(low, pivot - 1L));
            put(frozen.within(pivot, pivot));
        }

        private void putGiven(SortedRow frozen, int low, int high) {
            int count = frozen.within(low, high);
            int first = frozen.below(low);
            for (int k = 0; k < count; k++) {
                put(frozen.at(first + k));
            }
        }

        private void putAdded(SortedRow frozen, int x, int y) {
            int start = frozen.below(x + 1L);
            int end = frozen.below(y);
            sum = frozen.sum(start, end);
            put(frozen.below(x));
            put(frozen.within(x, x));
            put(Math.max(0, end - start));
            put((int) sum);
        }
    }

    private static final class Post {
        // One letter more than can be on the way: the one taken out last is still read while others are sent.
        final Letter[] sheets = new Letter[LETTERS_AT_MOST + 1];
        // The sheets on the way in the order in which they were sent, behind them the free ones.
        final int[] order = new int[LETTERS_AT_MOST + 1];
        int count;

        Post() {
            for (int i = 0; i <= LETTERS_AT_MOST; i++) {
                sheets[i] = new Letter();
                order[i] = i;
            }
        }

        Letter at(int i) {
            return sheets[order[i]];
        }

        Letter send() {
            if (count >= LETTERS_AT_MOST) {
                return null;
            }
            count++;
            return at(count - 1);
        }

        Letter takeOut(int i) {
            int sheet = order[i];
            System.arraycopy(order, i + 1, order, i, LETTERS_AT_MOST - i);
            order[LETTERS_AT_MOST] = sheet;
            count--;
            return sheets[sheet];
        }

        void loseAllOf(int question) {
            for (int i = count - 1; i >= 0; i--) {
                if (at(i).question == question) {
                    takeOut(i);
                }
            }
        }
    }

    /** What the driver has heard in the STEP of a question. */
    private static final class Replies {
        private static final int KEPT = 3;

        final boolean[] came = new boolean[LOGGERS];
        final int[][] told = new int[LOGGERS][KEPT];
        final SortedRow given = new SortedRow(NUMBERS_AT_MOST);
        long sum;
        int heard;

        void clear() {
            for (int i = 0; i < LOGGERS; i++) {
                came[i] = false;
            }
            given.size = 0;
            sum = 0;
            heard = 0;
        }

        void hear(Letter letter) {
            came[letter.from] = true;
            heard++;
            sum += letter.sum;
            for (int k = 0; k < KEPT; k++) {
                told[letter.from][k] = letter.number(k);
            }
            if (letter.kind == GIVEN) {
                for (int k = 0; k < letter.amount; k++) {
                    given.insert(letter.number(k));
                }
            }
        }

        int total(int k) {
            int total = 0;
            for (int i = 0; i < LOGGERS; i++) {
                total += told[i][k];
            }
            return total;
        }

        // A logger that holds none tells 0 with a count of 0: that is never the least to reach half, as open is not 0.
        int pivot(int open) {
            int pivot = Integer.MAX_VALUE;
            for (int i = 0; i < LOGGERS; i++) {
                if (told[i][1] < pivot && 2 * countUpTo(told[i][1]) >= open) {
                    pivot = told[i][1];
                }
            }
            return pivot;
        }

        private int countUpTo(int reading) {
            int count = 0;
            for (int i = 0; i < LOGGERS; i++) {
                if (told[i][1] <= reading) {
                    count += told[i][0];
                }
            }
            return count;
        }
    }

    /** Where the driver stands in its search for the reading at a rank. */
    private static final class Search {
        boolean forLast;
        int rank;
        int before;
        int low;
        int high;
        int pivot;
        int open;

        void begin(int newRank, boolean isLast, int all) {
            rank = newRank;
            forLast = isLast;
            before = 0;
            low = Integer.MIN_VALUE;
            high = Integer.MAX_VALUE;
            open = all;
        }

        int rankWithin() {
            return rank - before;
        }

        void keepBelowPivot(int below) {
            high = pivot - 1;
            open = below;
        }

        void keepAbovePivot(int upTo) {
            low = pivot + 1;
            before += upTo;
            open -= upTo;
        }
    }

    private static final class Question {
        final int[] marks = new int[LOGGERS];
        final SortedRow[] frozen = new SortedRow[LOGGERS];
        final Replies replies = new Replies();
        final Search search = new Search();
        final int[] askedNumbers = new int[3];
        int askedKind;
        int number;
        int kind;
        int a;
        int b;
        int driver;
        int turn;
        int step;
        int rounds;
        int state;
        int total;
        int firstReading;
        int lastReading;
        long result;

        Question() {
            for (int i = 0; i < LOGGERS; i++) {
                frozen[i] = new SortedRow(READINGS_AT_MOST);
            }
        }

        boolean isThere() {
            return number > 0;
        }

        boolean hasTwoRanks() {
            return kind == TRIMMED_SUM || kind == SPREAD;
        }

        void begin(int newNumber, int newKind, int newA, int newB) {
            number = newNumber;
            kind = newKind;
            a = newA;
            b = newB;
            turn = 0;
            for (int i = 0; i < LOGGERS; i++) {
                marks[i] = NONE;
            }
        }

        void beginTurn(int newDriver) {
            driver = newDriver;
            turn++;
            step = 0;
            rounds = 0;
            total = 0;
            search.open = 0;
            state = ASKING;
            askedKind = FREEZE;
        }

        void beginStep() {
            step++;
            replies.clear();
        }

        // The readings of now stay the first ones of their logger, so a sorted copy of them is what the mark says for good.
        void freeze(int logger, SortedRow readings) {
            if (marks[logger] == NONE) {
                marks[logger] = readings.size;
                frozen[logger].copy(readings);
            }
        }

        boolean awaits(Letter letter) {
            return state == ASKING && letter.to == driver && letter.turn == turn && letter.step == step
                    && !replies.came[letter.from];
        }

        void writeAsking(Letter letter, int to) {
            if (letter == null) {
                return;
            }
            letter.address(askedKind, number, turn, step, driver, to);
            for (int k = 0; k < numbersAsked(); k++) {
                letter.put(askedNumbers[k]);
            }
        }

        private int numbersAsked() {
            switch (askedKind) {
                case FREEZE:
                    return 0;
                case CUT:
                    return 3;
                default:
                    return 2;
            }
        }

        void goOn() {
            switch (askedKind) {
                case FREEZE:
                    afterFreeze();
                    break;
                case SPLIT:
                    afterSplit();
                    break;
                case CUT:
                    afterCut();
                    break;
                case GIVE:
                    settle(replies.given.at(search.rankWithin() - 1));
                    break;
                case HOLD:
                    afterHold();
                    break;
                default:
                    afterAdd();
                    break;
            }
        }

        private void afterFreeze() {
            total = replies.total(0);
            if (total == 0 || kind == READING_AT_RANK && a > total) {
                state = REFUSED;
            } else if (kind == COUNT_WITHIN) {
                next(HOLD, a, b);
            } else if (kind == SHARE_UP_TO) {
                next(HOLD, Integer.MIN_VALUE, a);
            } else {
                seekRank(firstRank(), false);
            }
        }

        private void afterSplit() {
            search.open = replies.total(0);
            if (search.open <= NUMBERS_AT_MOST) {
                next(GIVE, search.low, search.high);
            } else {
                search.pivot = replies.pivot(search.open);
                next(CUT, search.low, search.high);
                askedNumbers[2] = search.pivot;
            }
        }

        private void afterCut() {
            rounds++;
            int below = replies.total(0);
            int upTo = below + replies.total(1);
            if (search.rankWithin() > below && search.rankWithin() <= upTo) {
                settle(search.pivot);
                return;
            }
            if (search.rankWithin() <= below) {
                search.keepBelowPivot(below);
            } else {
                search.keepAbovePivot(upTo);
            }
            next(SPLIT, search.low, search.high);
        }

        private void afterHold() {
            long held = replies.total(0);
            if (kind == COUNT_WITHIN) {
                conclude(held);
            } else {
                conclude(total == 0 ? 0 : 1000000 * held / total);
            }
        }

        private void afterAdd() {
            int upToFirst = replies.total(0) + replies.total(1);
            int belowLast = upToFirst + replies.total(2);
            long ofFirst = upToFirst - firstRank() + 1;
            long ofLast = lastRank() - belowLast;
            conclude(ofFirst * firstReading + replies.sum + ofLast * lastReading);
        }

        private void settle(int reading) {
            if (!hasTwoRanks()) {
                conclude(reading);
            } else if (!search.forLast) {
                firstReading = reading;
                seekRank(lastRank(), true);
            } else {
                lastReading = reading;
                afterBothRanks();
            }
        }

        private void afterBothRanks() {
            if (kind == SPREAD) {
                conclude((long) lastReading - firstReading);
            } else if (firstReading == lastReading) {
                conclude((long) firstReading * (lastRank() - firstRank() + 1));
            } else {
                next(ADD, firstReading, lastReading);
            }
        }

        private int firstRank() {
            switch (kind) {
                case TRIMMED_SUM:
                    return total * a / 1000 + 1;
                case SPREAD:
                    return Math.max(1, (total + 1) / 2 - total * a / 2000);
                default:
                    return a;
            }
        }

        private int lastRank() {
            switch (kind) {
                case TRIMMED_SUM:
                    return total - total * a / 1000;
                case SPREAD:
                    return Math.min(total, (total + 1) / 2 + total * a / 2000);
                default:
                    return a;
            }
        }

        private void seekRank(int rank, boolean isLast) {
            search.begin(rank, isLast, total);
            next(SPLIT, search.low, search.high);
        }

        private void next(int letterKind, int x, int y) {
            askedKind = letterKind;
            askedNumbers[0] = x;
            askedNumbers[1] = y;
        }

        private void conclude(long answered) {
            state = ANSWERED;
            result = answered;
        }
    }
}
