/** Promises 16 to 21: state, answer, found, about, mark, forget; and what each kind of question is answered. */
final class AnswersTest {
    private AnswersTest() {
    }

    public static void main(String[] args) {
        statesOfQuestions();
        readingsAtRanks();
        countsWithin();
        trimmedSums();
        shares();
        spreads();
        greatSums();
        manyEqualReadings();
        giveAtSixtyFour();
        foundRefuses();
        aboutOnTheWay();
        aboutRefuses();
        marksOfLoggers();
        forgetTakesAll();
        forgetMakesRoom();
        readingsAtTheEdges();
        Check.end();
    }

    /** Readings 10, 20, .. 100, scattered over three loggers. */
    private static RankHouse tenReadings() {
        RankHouse house = new RankHouse();
        house.fill(1, 4, 100, -30, 0);
        house.fill(4, 3, 20, 30, 0);
        house.fill(7, 3, 30, 30, 0);
        return house;
    }

    private static long answered(RankHouse house, int kind, int a, int b) {
        int question = house.ask(3, kind, a, b);
        house.run(1000);
        long answer = house.answer(question);
        house.forget(question);
        return answer;
    }

    private static void statesOfQuestions() {
        RankHouse house = tenReadings();
        house.ask(0, 0, 1, 0);
        Check.due("16: ASKING", 0, house.state(1));
        Look.refused(house, "17: ASKING", Check.STATE, () -> house.answer(1));
        house.crash(0);
        Check.due("16: LOST", 3, house.state(1));
        Look.refused(house, "17: LOST", Check.STATE, () -> house.answer(1));
        house.restart(0);
        house.takeOver(1, 5);
        house.run(1000);
        Check.due("16: ANSWERED", 1, house.state(1));
        Check.due("17: answer", 10, house.answer(1));
        house.ask(0, 0, 11, 0);
        house.run(1000);
        Check.due("16: REFUSED, a above n", 2, house.state(2));
        Look.refused(house, "17: REFUSED", Check.STATE, () -> house.answer(2));
        Check.due("19: n is known, no SEARCH began", "0 1 1 0 10 0 0 0", Look.about(house, 2));
        Look.refused(house, "16: no such question", Check.OUTSIDE, () -> house.state(3));
        Look.refused(house, "16: question 0", Check.OUTSIDE, () -> house.state(0));
        Look.refused(house, "16: question -1", Check.OUTSIDE, () -> house.state(-1));
        Look.refused(house, "17: no such question", Check.OUTSIDE, () -> house.answer(3));
        RankHouse empty = new RankHouse();
        for (int kind = 0; kind < 5; kind++) {
            int question = empty.ask(0, kind, 1, 1);
            empty.run(1000);
            Check.due("16: REFUSED, n is 0, kind " + kind, 2, empty.state(question));
        }
    }

    private static void readingsAtRanks() {
        RankHouse house = tenReadings();
        for (int rank = 1; rank <= 10; rank++) {
            Check.due("17: R(" + rank + ")", 10 * rank, answered(house, 0, rank, 0));
        }
        house.record(0, 50);
        Check.due("17: each counts as often as it is there", 50, answered(house, 0, 6, 0));
        Check.due("17: and those above move up", 60, answered(house, 0, 7, 0));
    }

    private static void countsWithin() {
        RankHouse house = tenReadings();
        Check.due("17: 20 .. 50", 4, answered(house, 1, 20, 50));
        Check.due("17: 21 .. 49", 2, answered(house, 1, 21, 49));
        Check.due("17: 30 .. 30", 1, answered(house, 1, 30, 30));
        Check.due("17: 50 .. 20", 0, answered(house, 1, 50, 20));
        Check.due("17: all ints", 10, answered(house, 1, Integer.MIN_VALUE, Integer.MAX_VALUE));
        Check.due("17: the greatest to the least", 0, answered(house, 1, Integer.MAX_VALUE, Integer.MIN_VALUE));
    }

    private static void trimmedSums() {
        RankHouse house = tenReadings();
        Check.due("17: a = 0", 550, answered(house, 2, 0, 0));
        Check.due("17: a = 99 trims none", 550, answered(house, 2, 99, 0));
        Check.due("17: a = 100 trims one at each end", 440, answered(house, 2, 100, 0));
        Check.due("17: a = 499 leaves two", 110, answered(house, 2, 499, 0));
        house.fill(2, 5, 10, 0, 0);
        house.fill(3, 4, 100, 0, 0);
        // Six times 10, 20 to 90, five times 100; three go at each end.
        Check.due("17: some of the first and of the last", 30 + 440 + 200, answered(house, 2, 199, 0));
        RankHouse one = new RankHouse();
        one.record(6, -9);
        Check.due("17: of one reading", -9, answered(one, 2, 499, 0));
    }

    private static void shares() {
        RankHouse house = tenReadings();
        Check.due("17: 30 or less", 300000, answered(house, 3, 30, 0));
        Check.due("17: 29 or less", 200000, answered(house, 3, 29, 0));
        Check.due("17: the least int", 0, answered(house, 3, Integer.MIN_VALUE, 0));
        Check.due("17: the greatest int", 1000000, answered(house, 3, Integer.MAX_VALUE, 0));
        house.record(0, 1000);
        Check.due("17: cut off", 272727, answered(house, 3, 30, 0));
        for (int logger = 0; logger < 8; logger++) {
            house.fill(logger, 500 - house.size(logger), 0, 0, 0);
        }
        Check.due("17: all but two of 4000 readings", 999500, answered(house, 3, 99, 0));
    }

    private static void spreads() {
        RankHouse house = tenReadings();
        Check.due("17: a = 0 is R(5) less R(5)", 0, answered(house, 4, 0, 0));
        Check.due("17: a = 500 is R(7) less R(3)", 40, answered(house, 4, 500, 0));
        Check.due("17: a = 800 is R(9) less R(1)", 80, answered(house, 4, 800, 0));
        Check.due("17: a = 1000 is R(10) less R(1)", 90, answered(house, 4, 1000, 0));
        house.record(0, 110);
        Check.due("17: of 11, a = 200 is R(7) less R(5)", 20, answered(house, 4, 200, 0));
        Check.due("17: of 11, a = 1000 is R(11) less R(1)", 100, answered(house, 4, 1000, 0));
    }

    private static void greatSums() {
        RankHouse house = new RankHouse();
        for (int logger = 0; logger < 8; logger++) {
            house.fill(logger, 500, Integer.MAX_VALUE, 0, 0);
        }
        Check.due("17: 4000 of the greatest int", 4000L * Integer.MAX_VALUE, answered(house, 2, 0, 0));
        RankHouse both = new RankHouse();
        both.fill(0, 500, Integer.MIN_VALUE + 1, 0, 0);
        both.record(1, Integer.MIN_VALUE);
        both.record(1, Integer.MAX_VALUE);
        Check.due("17: a sum below the ints", 500L * (Integer.MIN_VALUE + 1) - 1, answered(both, 2, 0, 0));
        Check.due("17: a spread above the ints", 4294967295L, answered(both, 4, 1000, 0));
    }

    private static void manyEqualReadings() {
        RankHouse house = new RankHouse();
        for (int logger = 0; logger < 8; logger++) {
            house.fill(logger, 500, 7, 0, 0);
        }
        int question = house.ask(0, 2, 250, 0);
        Check.due("17: FREEZE, SPLIT, CUT, SPLIT, CUT", 80, house.run(1000));
        Check.due("17: x and y are the same", 2000 * 7, house.answer(question));
        Check.due("19: two rounds, OPEN as it was", "0 1 5 2 4000 4000 0 0", Look.about(house, question));
    }

    private static void giveAtSixtyFour() {
        RankHouse house = new RankHouse();
        house.fill(0, 64, 0, 1, 0);
        house.ask(0, 0, 40, 0);
        house.run(32);
        Check.due("19: OPEN is 64: GIVE", "0 1 3 0 64 64 7 0", Look.about(house, 1));
        house.run(1000);
        Check.due("17: of 64", 39, house.answer(1));
        house.record(1, 64);
        house.ask(0, 0, 40, 0);
        house.run(32);
        Check.due("19: OPEN is 65: CUT", "0 1 3 0 65 65 5 0", Look.about(house, 2));
        house.run(1000);
        Check.due("17: of 65", 39, house.answer(2));
    }

    private static void foundRefuses() {
        RankHouse house = tenReadings();
        house.ask(3, 2, 200, 0);
        house.ask(3, 4, 500, 0);
        Look.refused(house, "18: ASKING", Check.STATE, () -> house.found(1, false));
        house.run(1000);
        Check.due("18: kind 2, first", 30, house.found(1, false));
        Check.due("18: kind 2, last", 80, house.found(1, true));
        Check.due("18: kind 4, first", 30, house.found(2, false));
        Check.due("18: kind 4, last", 70, house.found(2, true));
        for (int kind = 0; kind < 4; kind += kind == 0 ? 1 : 2) {
            int question = house.ask(3, kind, 5, 50);
            house.run(1000);
            Check.due("18: kind " + kind + " is ANSWERED", 1, house.state(question));
            Look.refused(house, "18: kind " + kind, Check.STATE, () -> house.found(question, true));
        }
        Look.refused(house, "18: no such question", Check.OUTSIDE, () -> house.found(9, true));
    }

    private static void aboutOnTheWay() {
        RankHouse house = new RankHouse();
        house.fill(2, 300, 0, 1, 0);
        house.ask(5, 4, 0, 0);
        house.run(11);
        Check.due("19: three answered FREEZE", "5 1 1 0 0 0 1 3", Look.about(house, 1));
        house.run(5);
        Check.due("19: n at the beginning of a SEARCH", "5 1 2 0 300 300 3 0", Look.about(house, 1));
        house.run(24);
        Check.due("19: ROUNDS grows when all SIDES have come", "5 1 3 0 300 300 5 0", Look.about(house, 1));
        house.run(8);
        // The PIVOT is the 150th, which is the rank: the second SEARCH begins.
        Check.due("19: the second SEARCH", "5 1 4 1 300 300 3 0", Look.about(house, 1));
        house.run(1000);
        Check.due("19: ANSWERED", "5 1 5 2 300 300 0 0", Look.about(house, 1));
        house.ask(5, 1, 0, 10);
        house.run(1000);
        Check.due("19: kind 1 has no SEARCH", "5 1 2 0 300 0 0 0", Look.about(house, 2));
    }

    private static void aboutRefuses() {
        RankHouse house = tenReadings();
        Look.refused(house, "19: no such question goes first", Check.OUTSIDE, () -> house.about(1, 8));
        house.ask(3, 0, 1, 0);
        Look.refused(house, "19: what = 8", Check.ARGUMENT, () -> house.about(1, 8));
        Look.refused(house, "19: what = -1", Check.ARGUMENT, () -> house.about(1, -1));
    }

    private static void marksOfLoggers() {
        RankHouse house = tenReadings();
        house.ask(3, 0, 10, 0);
        house.run(2);
        Check.due("20: of logger 1", 4, house.mark(1, 1));
        Check.due("20: of one without readings", 0, house.mark(0, 1));
        Check.due("20: not yet frozen", RankHouse.NONE, house.mark(4, 1));
        house.record(1, 500);
        house.record(4, 600);
        house.twin(0);
        house.run(1000);
        Check.due("20: a reading behind the mark", 4, house.mark(1, 1));
        Check.due("20: a reading before it", 4, house.mark(4, 1));
        Check.due("20: the last but one of eleven frozen", 100, house.answer(1));
        house.ask(3, 0, 10, 0);
        house.run(8);
        Check.due("20: each question has its own", 5, house.mark(1, 2));
        Look.refused(house, "20: logger 8", Check.OUTSIDE, () -> house.mark(8, 1));
        Look.refused(house, "20: logger -1", Check.OUTSIDE, () -> house.mark(-1, 1));
        Look.refused(house, "20: no such question", Check.OUTSIDE, () -> house.mark(0, 3));
        Look.refused(house, "20: question 0", Check.OUTSIDE, () -> house.mark(0, 0));
    }

    private static void forgetTakesAll() {
        RankHouse house = tenReadings();
        house.ask(3, 0, 1, 0);
        house.ask(4, 0, 2, 0);
        house.run(5);
        house.twin(0);
        house.twin(8);
        Check.due("21: one is left", 1, house.forget(1));
        Check.due("21: its letters went, doubled ones too", 9, house.letters());
        Check.due("21: the others stay in their order", "1 2 1 4 0 1 :", Look.letter(house, 0));
        Check.due("21: up to the last", "1 2 1 4 5 1 :", Look.letter(house, 8));
        Look.refused(house, "21: it is gone", Check.OUTSIDE, () -> house.forget(1));
        Look.refused(house, "21: its marks too", Check.OUTSIDE, () -> house.mark(0, 1));
        Look.refused(house, "21: question 0", Check.OUTSIDE, () -> house.forget(0));
        Look.refused(house, "21: not yet asked", Check.OUTSIDE, () -> house.forget(3));
        house.run(1000);
        Check.due("21: the other is answered", 20, house.answer(2));
        Check.due("21: none is left", 0, house.forget(2));
    }

    private static void forgetMakesRoom() {
        RankHouse house = tenReadings();
        for (int i = 1; i <= 8; i++) {
            house.ask(3, 2, 0, 0);
            house.run(1000);
        }
        Check.due("21: seven are left", 7, house.forget(5));
        house.record(0, 5);
        Check.due("21: room for another", 9, house.ask(2, 0, 1, 0));
        Check.due("21: without the marks of the one that went", RankHouse.NONE, house.mark(1, 9));
        Check.due("21: nor what it knew", "2 1 1 0 0 0 1 0", Look.about(house, 9));
        house.run(1000);
        Check.due("21: with marks of its own", 5, house.answer(9));
        Check.due("21: the others stay", 550, house.answer(8));
    }

    private static void readingsAtTheEdges() {
        RankHouse house = new RankHouse();
        for (int logger = 0; logger < 4; logger++) {
            house.fill(logger, 50, Integer.MIN_VALUE, 0, 0);
            house.fill(7 - logger, 50, Integer.MAX_VALUE, 0, 0);
        }
        Check.due("17: the PIVOT is the least int", Integer.MIN_VALUE, answered(house, 0, 200, 0));
        Check.due("17: the PIVOT is the greatest int", Integer.MAX_VALUE, answered(house, 0, 201, 0));
        Check.due("17: both, with ADD", -200L, answered(house, 2, 0, 0));
    }
}
