/**
 * "A call that throws changes nothing; of several exceptions the one named first is thrown":
 * each call of the face with the first numbers that it refuses on either side, with the least and the greatest int,
 * in each state that it refuses, and beside them the last numbers that it takes.
 */
final class RefusalsTest {
    private static final int LEAST = Integer.MIN_VALUE;
    private static final int GREATEST = Integer.MAX_VALUE;
    private static final int[] NO_LOGGERS = {LEAST, -1, 8, GREATEST};
    private static final int[] NO_LETTERS = {LEAST, -1, 8, GREATEST};
    private static final int[] NO_QUESTIONS = {LEAST, -1, 0, 4, 7, GREATEST};

    private static final Pair NEW = new Pair("a new object", house -> { });
    private static final Pair BUSY = new Pair("a busy object", RefusalsTest::busy);
    private static final Pair FULL = new Pair("eight questions, 96 letters", RefusalsTest::full);

    private RefusalsTest() {
    }

    public static void main(String[] args) {
        theStoriesAreAsTold();
        record();
        fill();
        sizeCrashRestart();
        askNumbers();
        askStates();
        letter();
        deliverLoseTwin();
        run();
        resend();
        takeOver();
        stateAnswerFound();
        about();
        mark();
        forget();
        Check.end();
    }

    /** Questions: 1 ANSWERED (kind 2), 2 REFUSED, 3 ANSWERED (kind 1), 4 forgotten, 5 LOST, 6 ASKING; logger 5 stopped. */
    private static void busy(RankHouse house) {
        house.fill(0, 70, -30, 3, 15);
        house.fill(6, 500, 9, 1, 255);
        house.fill(7, 499, -9, 2, 7);
        house.ask(1, 2, 100, 0);
        house.run(1000);
        house.ask(1, 0, 2000, 0);
        house.run(1000);
        house.ask(1, 1, 0, 50);
        house.run(1000);
        house.ask(3, 0, 5, 0);
        house.forget(4);
        house.ask(4, 0, 9, 0);
        house.crash(4);
        house.restart(4);
        Scene.loseAll(house);
        house.ask(2, 4, 500, 0);
        house.run(20);
        house.crash(5);
    }

    private static void full(RankHouse house) {
        house.fill(2, 90, 5, -1, 3);
        for (int i = 0; i < 8; i++) {
            house.ask(i, i % 5, 10, 20);
        }
        house.run(30);
        house.crash(7);
        Scene.letters(house, 96, 10);
    }

    private static void theStoriesAreAsTold() {
        int[] states = {1, 2, 1, -1, 3, 0};
        for (int question = 1; question <= 6; question++) {
            int one = question;
            if (question != 4) {
                BUSY.takes("16: state(" + question + ")", states[question - 1], house -> house.state(one));
            }
        }
        BUSY.takes("6: letters()", 8, RankHouse::letters);
        FULL.takes("6: letters()", 96, RankHouse::letters);
        FULL.takes("14: a question of logger 6", 1, house -> house.crash(6));
        NEW.takes("6: letters()", 0, RankHouse::letters);
    }

    private static void record() {
        for (int logger : NO_LOGGERS) {
            NEW.refuses("2: record(" + logger + ", 1)", Check.OUTSIDE, house -> house.record(logger, 1));
            BUSY.refuses("2: record(" + logger + ", 1)", Check.OUTSIDE, house -> house.record(logger, 1));
        }
        BUSY.refuses("2: record of one that is not UP", Check.STATE, house -> house.record(5, 1));
        BUSY.refuses("2: record of one that has 500", Check.STATE, house -> house.record(6, 1));
        BUSY.takes("2: record of one that has 499", 500, house -> house.record(7, 1));
        NEW.takes("2: the first logger, the least int", 1, house -> house.record(0, LEAST));
        NEW.takes("2: the last logger, the greatest int", 1, house -> house.record(7, GREATEST));
    }

    private static void fill() {
        int[] noMany = {LEAST, -1, 501, GREATEST};
        for (int logger : NO_LOGGERS) {
            BUSY.refuses("3: fill(" + logger + ", 1, ..)", Check.OUTSIDE, house -> house.fill(logger, 1, 0, 0, 0));
            BUSY.refuses("3: fill(" + logger + ", 0, ..)", Check.OUTSIDE, house -> house.fill(logger, 0, 0, 0, 0));
            BUSY.refuses("3: fill(" + logger + ", 501, ..)", Check.OUTSIDE, house -> house.fill(logger, 501, 0, 0, 0));
        }
        for (int many : noMany) {
            NEW.refuses("3: many = " + many, Check.ARGUMENT, house -> house.fill(1, many, 0, 0, 0));
            BUSY.refuses("3: many = " + many + " of one that is not UP", Check.ARGUMENT, house -> house.fill(5, many, 0, 0, 0));
            BUSY.refuses("3: many = " + many + " of one that has 500", Check.ARGUMENT, house -> house.fill(6, many, 0, 0, 0));
        }
        for (int many : new int[] {0, 1, 500}) {
            BUSY.refuses("3: " + many + " more of one that is not UP", Check.STATE, house -> house.fill(5, many, 1, 1, 1));
        }
        BUSY.refuses("3: 500 and one more", Check.STATE, house -> house.fill(6, 1, 1, 1, 1));
        BUSY.refuses("3: 499 and two more", Check.STATE, house -> house.fill(7, 2, 1, 1, 1));
        BUSY.refuses("3: 70 and 431 more", Check.STATE, house -> house.fill(0, 431, 1, 1, 1));
        BUSY.refuses("3: 500 and 500 more", Check.STATE, house -> house.fill(6, 500, 1, 1, 1));
        BUSY.takes("3: 500 and none more", 500, house -> house.fill(6, 0, 1, 1, 1));
        BUSY.takes("3: 499 and one more", 500, house -> house.fill(7, 1, 1, 1, 1));
        BUSY.takes("3: 70 and 430 more", 500, house -> house.fill(0, 430, 1, 1, 1));
        NEW.takes("3: none of the first logger", 0, house -> house.fill(0, 0, LEAST, LEAST, LEAST));
        NEW.takes("3: 500 of the last logger", 500, house -> house.fill(7, 500, GREATEST, GREATEST, GREATEST));
    }

    private static void sizeCrashRestart() {
        for (int logger : NO_LOGGERS) {
            BUSY.refuses("4: size(" + logger + ")", Check.OUTSIDE, house -> house.size(logger));
            BUSY.refuses("14: crash(" + logger + ")", Check.OUTSIDE, house -> house.crash(logger));
            BUSY.refuses("15: restart(" + logger + ")", Check.OUTSIDE, house -> restarted(house, logger));
        }
        BUSY.takes("4: size of one that has none", 0, house -> house.size(1));
        BUSY.takes("4: size of one that has 500", 500, house -> house.size(6));
        BUSY.takes("4: size of one that is not UP", 0, house -> house.size(5));
        BUSY.takes("14: crash of the first logger", 0, house -> house.crash(0));
        BUSY.takes("14: crash of the last logger", 0, house -> house.crash(7));
        BUSY.takes("15: restart of the first logger", 0, house -> restarted(house, 0));
        BUSY.takes("15: restart of the last logger", 0, house -> restarted(house, 7));
    }

    private static long restarted(RankHouse house, int logger) {
        house.restart(logger);
        return 0;
    }

    private static void askNumbers() {
        int[][] noNumbers = {{LEAST, 1}, {-1, 1}, {5, 1}, {GREATEST, 1}, {0, LEAST}, {0, -1}, {0, 0}, {2, LEAST}, {2, -1},
            {2, 500}, {2, GREATEST}, {4, LEAST}, {4, -1}, {4, 1001}, {4, GREATEST}};
        for (int[] no : noNumbers) {
            String text = "5: kind " + no[0] + ", a = " + no[1];
            NEW.refuses(text, Check.ARGUMENT, house -> house.ask(0, no[0], no[1], 9));
            BUSY.refuses(text + ", a driver that is not UP", Check.ARGUMENT, house -> house.ask(5, no[0], no[1], 9));
            FULL.refuses(text + ", a ninth question", Check.ARGUMENT, house -> house.ask(0, no[0], no[1], 9));
            NEW.refuses(text + ", driver 8", Check.OUTSIDE, house -> house.ask(8, no[0], no[1], 9));
        }
        int[][] numbers = {{0, 1}, {0, GREATEST}, {1, LEAST}, {1, GREATEST}, {2, 0}, {2, 499}, {3, LEAST}, {3, GREATEST},
            {4, 0}, {4, 1000}};
        for (int[] yes : numbers) {
            for (int b : new int[] {LEAST, 0, GREATEST}) {
                String text = "5: kind " + yes[0] + ", a = " + yes[1] + ", b = " + b;
                BUSY.takes(text, 7, house -> house.ask(0, yes[0], yes[1], b));
            }
        }
    }

    private static void askStates() {
        for (int driver : NO_LOGGERS) {
            NEW.refuses("5: driver " + driver, Check.OUTSIDE, house -> house.ask(driver, 0, 1, 0));
            FULL.refuses("5: driver " + driver + ", a ninth question", Check.OUTSIDE, house -> house.ask(driver, 0, 1, 0));
        }
        BUSY.refuses("5: a driver that is not UP", Check.STATE, house -> house.ask(5, 0, 1, 0));
        FULL.refuses("5: a ninth question", Check.STATE, house -> house.ask(0, 0, 1, 0));
        FULL.refuses("5: a ninth question, a driver that is not UP", Check.STATE, house -> house.ask(7, 0, 1, 0));
        NEW.takes("5: the first driver", 1, house -> house.ask(0, 0, 1, 0));
        NEW.takes("5: the last driver", 1, house -> house.ask(7, 0, 1, 0));
    }

    private static void letter() {
        for (int i : NO_LETTERS) {
            for (int what : new int[] {LEAST, -1, 0, 70, 71, GREATEST}) {
                BUSY.refuses("7: letter(" + i + ", " + what + ")", Check.OUTSIDE, house -> house.letter(i, what));
            }
        }
        for (int what : new int[] {LEAST, -1, 71, GREATEST}) {
            BUSY.refuses("7: letter(0, " + what + ")", Check.ARGUMENT, house -> house.letter(0, what));
            BUSY.refuses("7: letter(7, " + what + ")", Check.ARGUMENT, house -> house.letter(7, what));
        }
        NEW.refuses("7: letter(0, 0) of none", Check.OUTSIDE, house -> house.letter(0, 0));
        FULL.refuses("7: letter(96, 0) of 96", Check.OUTSIDE, house -> house.letter(96, 0));
        BUSY.takes("7: letter(0, 0), a SPLIT", 3, house -> house.letter(0, 0));
        BUSY.takes("7: letter(7, 0), a PART", 4, house -> house.letter(7, 0));
        BUSY.takes("7: letter(7, 70)", 0, house -> house.letter(7, 70));
        FULL.takes("7: letter(95, 0) of 96, a FREEZE", 1, house -> house.letter(95, 0));
    }

    private static void deliverLoseTwin() {
        for (int i : NO_LETTERS) {
            BUSY.refuses("8: deliver(" + i + ")", Check.OUTSIDE, house -> house.deliver(i));
            BUSY.refuses("9: lose(" + i + ")", Check.OUTSIDE, house -> house.lose(i));
            BUSY.refuses("10: twin(" + i + ")", Check.OUTSIDE, house -> house.twin(i) ? 1 : 0);
        }
        NEW.refuses("8: deliver(0) of none", Check.OUTSIDE, house -> house.deliver(0));
        NEW.refuses("9: lose(0) of none", Check.OUTSIDE, house -> house.lose(0));
        NEW.refuses("10: twin(0) of none", Check.OUTSIDE, house -> house.twin(0) ? 1 : 0);
        FULL.refuses("8: deliver(96) of 96", Check.OUTSIDE, house -> house.deliver(96));
        FULL.refuses("9: lose(96) of 96", Check.OUTSIDE, house -> house.lose(96));
        FULL.refuses("10: twin(96) of 96, no room either", Check.OUTSIDE, house -> house.twin(96) ? 1 : 0);
        BUSY.takes("8: deliver of the last, a PART", 7, house -> house.deliver(7));
        BUSY.takes("8: deliver of the first, a SPLIT", 8, house -> house.deliver(0));
        BUSY.takes("9: lose of the last", 7, house -> house.lose(7));
        BUSY.takes("9: lose of the first", 7, house -> house.lose(0));
        BUSY.takes("10: twin of the last", 1, house -> house.twin(7) ? 1 : 0);
        FULL.takes("8: deliver of the 96th", 96, house -> house.deliver(95));
        FULL.takes("9: lose of the 96th", 95, house -> house.lose(95));
        FULL.takes("10: twin of the 96th", 0, house -> house.twin(95) ? 1 : 0);
    }

    private static void run() {
        for (int many : new int[] {LEAST, -1, 1001, GREATEST}) {
            NEW.refuses("11: run(" + many + ") of none", Check.ARGUMENT, house -> house.run(many));
            BUSY.refuses("11: run(" + many + ")", Check.ARGUMENT, house -> house.run(many));
            FULL.refuses("11: run(" + many + ")", Check.ARGUMENT, house -> house.run(many));
        }
        NEW.takes("11: run(0) of none", 0, house -> house.run(0));
        NEW.takes("11: run(1000) of none", 0, house -> house.run(1000));
        FULL.takes("11: run(0)", 0, house -> house.run(0));
        FULL.takes("11: run(1)", 1, house -> house.run(1));
    }

    private static void resend() {
        for (int question : NO_QUESTIONS) {
            BUSY.refuses("12: resend(" + question + ")", Check.OUTSIDE, house -> house.resend(question));
        }
        NEW.refuses("12: resend(1) of none", Check.OUTSIDE, house -> house.resend(1));
        BUSY.refuses("12: resend of one that is ANSWERED", Check.STATE, house -> house.resend(1));
        BUSY.refuses("12: resend of one that is REFUSED", Check.STATE, house -> house.resend(2));
        BUSY.refuses("12: resend of one that is LOST, its driver UP", Check.STATE, house -> house.resend(5));
        FULL.refuses("12: resend of one that is LOST, its driver not UP", Check.STATE, house -> house.resend(8));
        BUSY.takes("12: resend of one that is ASKING", 8, house -> house.resend(6));
    }

    private static void takeOver() {
        for (int question : NO_QUESTIONS) {
            for (int driver : new int[] {LEAST, -1, 0, 5, 8, GREATEST}) {
                String text = "13: takeOver(" + question + ", " + driver + ")";
                BUSY.refuses(text, Check.OUTSIDE, house -> house.takeOver(question, driver));
            }
        }
        for (int driver : NO_LOGGERS) {
            for (int question : new int[] {1, 2, 5, 6}) {
                String text = "13: takeOver(" + question + ", " + driver + ")";
                BUSY.refuses(text, Check.OUTSIDE, house -> house.takeOver(question, driver));
            }
        }
        for (int question : new int[] {1, 2, 3, 5, 6}) {
            BUSY.refuses("13: takeOver(" + question + ", one not UP)", Check.STATE, house -> house.takeOver(question, 5));
        }
        FULL.refuses("13: by its own driver that is not UP", Check.STATE, house -> house.takeOver(8, 7));
        BUSY.refuses("13: takeOver of one that is ANSWERED", Check.STATE, house -> house.takeOver(1, 1));
        BUSY.refuses("13: takeOver of one that is REFUSED", Check.STATE, house -> house.takeOver(2, 1));
        BUSY.takes("13: takeOver of one that is LOST, by the first logger", 2, house -> house.takeOver(5, 0));
        BUSY.takes("13: takeOver of one that is ASKING, by the last logger", 2, house -> house.takeOver(6, 7));
        BUSY.takes("13: takeOver by its own driver", 2, house -> house.takeOver(6, 2));
        FULL.takes("13: takeOver without room for a letter", 2, house -> house.takeOver(8, 0));
    }

    private static void stateAnswerFound() {
        for (int question : NO_QUESTIONS) {
            BUSY.refuses("16: state(" + question + ")", Check.OUTSIDE, house -> house.state(question));
            BUSY.refuses("17: answer(" + question + ")", Check.OUTSIDE, house -> house.answer(question));
            BUSY.refuses("18: found(" + question + ", false)", Check.OUTSIDE, house -> house.found(question, false));
            BUSY.refuses("18: found(" + question + ", true)", Check.OUTSIDE, house -> house.found(question, true));
        }
        NEW.refuses("16: state(1) of none", Check.OUTSIDE, house -> house.state(1));
        NEW.refuses("17: answer(1) of none", Check.OUTSIDE, house -> house.answer(1));
        NEW.refuses("18: found(1, true) of none", Check.OUTSIDE, house -> house.found(1, true));
        for (int question : new int[] {2, 5, 6}) {
            BUSY.refuses("17: answer(" + question + "), not ANSWERED", Check.STATE, house -> house.answer(question));
            BUSY.refuses("18: found(" + question + ", false), not ANSWERED", Check.STATE, house -> house.found(question, false));
            BUSY.refuses("18: found(" + question + ", true), not ANSWERED", Check.STATE, house -> house.found(question, true));
        }
        BUSY.refuses("18: found of one of kind 1", Check.STATE, house -> house.found(3, false));
        BUSY.refuses("18: found of one of kind 1", Check.STATE, house -> house.found(3, true));
    }

    private static void about() {
        for (int question : NO_QUESTIONS) {
            for (int what : new int[] {LEAST, -1, 0, 7, 8, GREATEST}) {
                String text = "19: about(" + question + ", " + what + ")";
                BUSY.refuses(text, Check.OUTSIDE, house -> house.about(question, what));
            }
        }
        for (int question : new int[] {1, 2, 5, 6}) {
            for (int what : new int[] {LEAST, -1, 8, GREATEST}) {
                String text = "19: about(" + question + ", " + what + ")";
                BUSY.refuses(text, Check.ARGUMENT, house -> house.about(question, what));
            }
        }
        BUSY.takes("19: about(6, 0)", 2, house -> house.about(6, 0));
        BUSY.takes("19: about(6, 7)", 0, house -> house.about(6, 7));
    }

    private static void mark() {
        for (int logger : NO_LOGGERS) {
            BUSY.refuses("20: mark(" + logger + ", 1)", Check.OUTSIDE, house -> house.mark(logger, 1));
            BUSY.refuses("20: mark(" + logger + ", 7)", Check.OUTSIDE, house -> house.mark(logger, 7));
        }
        for (int question : NO_QUESTIONS) {
            BUSY.refuses("20: mark(0, " + question + ")", Check.OUTSIDE, house -> house.mark(0, question));
        }
        NEW.refuses("20: mark(0, 1) of none", Check.OUTSIDE, house -> house.mark(0, 1));
        BUSY.takes("20: mark of the first logger", 70, house -> house.mark(0, 1));
        BUSY.takes("20: mark of the last logger", 499, house -> house.mark(7, 6));
    }

    private static void forget() {
        for (int question : NO_QUESTIONS) {
            BUSY.refuses("21: forget(" + question + ")", Check.OUTSIDE, house -> house.forget(question));
        }
        NEW.refuses("21: forget(1) of none", Check.OUTSIDE, house -> house.forget(1));
        for (int question : new int[] {1, 2, 3, 5, 6}) {
            BUSY.takes("21: forget(" + question + ")", 4, house -> house.forget(question));
        }
        FULL.takes("21: forget of one of eight", 7, house -> house.forget(8));
    }
}
