/** Promises 5 to 11: ask, letters, letter, deliver, lose, twin, run. */
final class LettersTest {
    private LettersTest() {
    }

    public static void main(String[] args) {
        askSendsFreeze();
        askRefuses();
        askWithoutRoomForLetters();
        lettersOfOneQuestion();
        lettersOfACut();
        pivotAtHalfOfOpen();
        lettersOfASum();
        letterRefuses();
        deliverOutOfTurn();
        deliverToOneThatStopped();
        answersOfALateStepDoNotCount();
        loseOne();
        twinOfOne();
        twinCountsOnce();
        runStops();
        theRowIsFull();
        Check.end();
    }

    private static void askSendsFreeze() {
        RankHouse house = new RankHouse();
        Check.due("5: first number", 1, house.ask(6, 0, 1, 0));
        Check.due("5: second number", 2, house.ask(2, 1, 9, -9));
        Check.due("6: two FREEZE to all", 16, house.letters());
        for (int logger = 0; logger < 8; logger++) {
            Check.due("5: FREEZE of question 1", "1 1 1 6 " + logger + " 1 :", Look.letter(house, logger));
            Check.due("5: FREEZE of question 2", "1 2 1 2 " + logger + " 1 :", Look.letter(house, 8 + logger));
        }
        Check.due("5: about", "6 1 1 0 0 0 1 0", Look.about(house, 1));
        Check.due("5: it is ASKING", 0, house.state(1));
        Check.due("5: no mark yet", RankHouse.NONE, house.mark(0, 1));
    }

    private static void askRefuses() {
        RankHouse house = new RankHouse();
        house.crash(5);
        Look.refused(house, "5: no such driver goes first", Check.OUTSIDE, () -> house.ask(8, 5, 0, 0));
        Look.refused(house, "5: driver -1", Check.OUTSIDE, () -> house.ask(-1, 0, 1, 0));
        Look.refused(house, "5: kind 5 goes before a driver that stopped", Check.ARGUMENT, () -> house.ask(5, 5, 1, 0));
        Look.refused(house, "5: kind -1", Check.ARGUMENT, () -> house.ask(0, -1, 1, 0));
        Look.refused(house, "5: kind 0, a = 0", Check.ARGUMENT, () -> house.ask(0, 0, 0, 0));
        Look.refused(house, "5: kind 2, a = -1", Check.ARGUMENT, () -> house.ask(0, 2, -1, 0));
        Look.refused(house, "5: kind 2, a = 500", Check.ARGUMENT, () -> house.ask(0, 2, 500, 0));
        Look.refused(house, "5: kind 4, a = -1", Check.ARGUMENT, () -> house.ask(0, 4, -1, 0));
        Look.refused(house, "5: kind 4, a = 1001", Check.ARGUMENT, () -> house.ask(0, 4, 1001, 0));
        Look.refused(house, "5: a driver that stopped", Check.STATE, () -> house.ask(5, 0, 1, 0));
        int[][] fine = {{0, 1}, {0, Integer.MAX_VALUE}, {1, Integer.MIN_VALUE}, {2, 0}, {2, 499}, {3, -5}, {4, 0}, {4, 1000}};
        for (int i = 0; i < fine.length; i++) {
            Check.due("5: kind " + fine[i][0] + ", a = " + fine[i][1], i + 1, house.ask(0, fine[i][0], fine[i][1], -1));
        }
        Look.refused(house, "5: a ninth question", Check.STATE, () -> house.ask(0, 0, 1, 0));
        Look.refused(house, "5: a ninth one of no kind", Check.ARGUMENT, () -> house.ask(0, 5, 1, 0));
        house.forget(4);
        Check.due("5: numbers are not used again", 9, house.ask(0, 0, 1, 0));
    }

    private static void askWithoutRoomForLetters() {
        RankHouse house = new RankHouse();
        house.ask(0, 0, 1, 0);
        while (house.letters() < 92) {
            house.twin(7);
        }
        Check.due("5: ask with room for four", 2, house.ask(1, 0, 1, 0));
        Check.due("6: 96 at most", 96, house.letters());
        Check.due("5: the first four went", "1 2 1 1 3 1 :", Look.letter(house, 95));
        Check.due("5: ask without room", 3, house.ask(1, 0, 1, 0));
        Check.due("5: it is ASKING all the same", "1 1 1 0 0 0 1 0", Look.about(house, 3));
        Check.due("6: still 96", 96, house.letters());
    }

    private static void lettersOfOneQuestion() {
        RankHouse house = new RankHouse();
        house.fill(3, 4, 30, -10, 0);
        house.fill(6, 3, 5, 10, 0);
        house.ask(1, 2, 200, 0);
        house.run(8);
        Check.due("7: FROZEN of logger 3", "2 1 1 3 1 1 : 4", Look.letter(house, 3));
        Check.due("7: FROZEN of logger 0", "2 1 1 0 1 1 : 0", Look.letter(house, 0));
        house.run(8);
        Check.due("7: SPLIT", "3 1 2 1 7 1 : -2147483648 2147483647", Look.letter(house, 7));
        house.run(8);
        Check.due("7: PART, the lower one of two in the middle", "4 1 2 3 1 1 : 4 10", Look.letter(house, 3));
        Check.due("7: PART of an odd count", "4 1 2 6 1 1 : 3 15", Look.letter(house, 6));
        Check.due("7: PART of none", "4 1 2 0 1 1 : 0 0", Look.letter(house, 0));
        house.run(8);
        Check.due("7: GIVE", "7 1 3 1 0 1 : -2147483648 2147483647", Look.letter(house, 0));
        house.run(8);
        Check.due("7: GIVEN, the least first", "8 1 3 3 1 1 : 0 10 20 30", Look.letter(house, 3));
        Check.due("7: GIVEN of none", "8 1 3 2 1 1 :", Look.letter(house, 2));
        house.run(8 + 32);
        // Readings 0 5 10 15 20 25 30, ranks 2 to 6.
        Check.due("7: ADD", "11 1 6 1 4 1 : 5 25", Look.letter(house, 4));
        house.run(8);
        Check.due("7: ADDED of logger 3", "12 1 6 3 1 1 : 1 0 2 30", Look.letter(house, 3));
        Check.due("7: ADDED of logger 6", "12 1 6 6 1 1 : 0 1 1 15", Look.letter(house, 6));
        house.run(8);
        Check.due("7: the sum", 75, house.answer(1));
        house.ask(2, 1, -5, 17);
        house.run(16);
        Check.due("7: HOLD", "9 2 2 2 5 1 : -5 17", Look.letter(house, 5));
        house.run(8);
        Check.due("7: HELD", "10 2 2 3 2 1 : 2", Look.letter(house, 3));
        house.ask(2, 3, 17, 99);
        house.run(24);
        Check.due("7: HOLD of kind 3", "9 3 2 2 5 1 : -2147483648 17", Look.letter(house, 5));
    }

    private static void lettersOfACut() {
        RankHouse house = new RankHouse();
        house.fill(0, 40, 0, 1, 0);
        house.fill(1, 40, 100, 1, 0);
        house.fill(2, 10, 119, 0, 0);
        house.ask(7, 0, 60, 0);
        house.run(16 + 16);
        // Told: 19 (40), 119 (40), 119 (10): half of 90 is reached at 119.
        Check.due("7: CUT", "5 1 3 7 2 1 : -2147483648 2147483647 119", Look.letter(house, 2));
        Check.due("19: OPEN behind SPLIT", "7 1 3 0 90 90 5 0", Look.about(house, 1));
        house.run(8);
        Check.due("7: SIDES of logger 0", "6 1 3 0 7 1 : 40 0", Look.letter(house, 0));
        Check.due("7: SIDES of logger 1", "6 1 3 1 7 1 : 19 1", Look.letter(house, 1));
        Check.due("7: SIDES of logger 2", "6 1 3 2 7 1 : 0 10", Look.letter(house, 2));
        house.run(8);
        Check.due("7: the PIVOT is found", 119, house.answer(1));
        house.ask(7, 0, 59, 0);
        house.run(48);
        Check.due("7: SPLIT below the PIVOT", "3 2 4 7 0 1 : -2147483648 118", Look.letter(house, 0));
        Check.due("19: OPEN is x", "7 1 4 1 90 59 3 0", Look.about(house, 2));
        house.ask(7, 0, 71, 0);
        house.lose(7);
        house.forget(2);
        house.run(48);
        Check.due("7: SPLIT above the PIVOT", "3 3 4 7 0 1 : 120 2147483647", Look.letter(house, 0));
        Check.due("19: OPEN is x + y less", "7 1 4 1 90 20 3 0", Look.about(house, 3));
        house.run(1000);
        Check.due("7: the reading above", 120, house.answer(3));
    }

    private static void pivotAtHalfOfOpen() {
        RankHouse house = new RankHouse();
        house.fill(0, 33, 0, 0, 0);
        house.fill(1, 33, 9, 0, 0);
        house.ask(7, 0, 1, 0);
        house.run(32);
        Check.due("7: 33 are half of 66", 0, house.letter(0, 9));
        house.record(1, 9);
        house.ask(7, 0, 1, 0);
        house.forget(1);
        house.run(32);
        Check.due("7: 33 are less than half of 67", 9, house.letter(0, 9));
    }

    private static void lettersOfASum() {
        RankHouse house = new RankHouse();
        house.fill(0, 4, Integer.MAX_VALUE - 5, 1, 0);
        house.record(1, Integer.MIN_VALUE);
        house.record(1, Integer.MAX_VALUE);
        house.ask(0, 2, 0, 0);
        house.run(16 + 64 + 8);
        long sum = 4L * Integer.MAX_VALUE - 5 - 4 - 3 - 2;
        Check.due("7: how many numbers ADDED has", 4, house.letter(0, 6));
        Check.due("7: of a sum the lowest 32 bits", (int) sum, house.letter(0, 10));
        house.twin(0);
        house.lose(0);
        house.run(8);
        Check.due("10: the twin has the whole sum", sum - 1, house.answer(1));
    }

    private static void letterRefuses() {
        RankHouse house = new RankHouse();
        house.fill(2, 64, 5, 1, 0);
        house.ask(0, 0, 1, 0);
        house.run(40);
        Check.due("7: 64 numbers", 64, house.letter(2, 6));
        Check.due("7: the first", 5, house.letter(2, 7));
        Check.due("7: the 64th", 68, house.letter(2, 70));
        Check.due("7: 0 behind the last", 0, house.letter(3, 7));
        Check.due("7: 0 far behind the last", 0, house.letter(3, 70));
        Look.refused(house, "7: what = 71", Check.ARGUMENT, () -> house.letter(2, 71));
        Look.refused(house, "7: what = -1", Check.ARGUMENT, () -> house.letter(2, -1));
        Look.refused(house, "7: no such letter goes first", Check.OUTSIDE, () -> house.letter(8, 71));
        Look.refused(house, "7: letter -1", Check.OUTSIDE, () -> house.letter(-1, 0));
    }

    private static void deliverOutOfTurn() {
        RankHouse house = new RankHouse();
        house.record(5, 77);
        house.ask(2, 0, 1, 0);
        Check.due("8: its answer is behind all", 8, house.deliver(5));
        Check.due("8: those behind move up", "1 1 1 2 6 1 :", Look.letter(house, 5));
        Check.due("8: the answer", "2 1 1 5 2 1 : 1", Look.letter(house, 7));
        Check.due("8: an answer that comes", 7, house.deliver(7));
        Check.due("19: one answered", 1, house.about(1, 7));
        for (int i = 6; i >= 0; i--) {
            Check.due("8: the last ones first", 7, house.deliver(i));
        }
        for (int left = 6; left >= 1; left--) {
            Check.due("8: answers", left, house.deliver(left));
        }
        Check.due("8: with the eighth it goes on", 8, house.deliver(0));
        Check.due("8: it asks SPLIT", "2 1 2 0 1 1 3 0", Look.about(house, 1));
        Look.refused(house, "8: deliver(8)", Check.OUTSIDE, () -> house.deliver(8));
        Look.refused(house, "8: deliver(-1)", Check.OUTSIDE, () -> house.deliver(-1));
    }

    private static void deliverToOneThatStopped() {
        RankHouse house = new RankHouse();
        house.ask(2, 0, 1, 0);
        house.crash(0);
        Check.due("8: it is lost", 7, house.deliver(0));
        Check.due("8: no mark", RankHouse.NONE, house.mark(0, 1));
        house.restart(0);
        house.resend(1);
        Check.due("8: a driver's own letter", 15, house.deliver(1));
        house.crash(2);
        Check.due("8: an answer to one that stopped is lost", 14, house.deliver(14));
        house.restart(2);
        Check.due("8: a FREEZE of a question that is LOST is answered", 14, house.deliver(0));
        Check.due("8: it goes to who sent it", "2 1 1 1 2 1 : 0", Look.letter(house, 13));
    }

    private static void answersOfALateStepDoNotCount() {
        RankHouse house = new RankHouse();
        house.record(0, 4);
        house.ask(1, 0, 1, 0);
        house.run(8);
        house.twin(0);
        house.run(8);
        Check.due("8: SPLIT is asked, a FROZEN is late", "2 1 1 0 1 1 : 1", Look.letter(house, 0));
        Check.due("8: it comes", 8, house.deliver(0));
        Check.due("8: it does not count", "1 1 2 0 1 1 3 0", Look.about(house, 1));
        house.takeOver(1, 1);
        house.run(16);
        Check.due("8: a PART of the TURN before", "4 1 2 0 1 1 : 1 4", Look.letter(house, 0));
        house.run(8);
        Check.due("8: an answer of an earlier TURN and another STEP does not count", "1 2 1 0 0 0 1 0", Look.about(house, 1));
        house.takeOver(1, 1);
        Check.due("8: a FROZEN of the TURN before", "2 1 1 0 1 2 : 1", Look.letter(house, 0));
        house.deliver(0);
        Check.due("8: an answer of an earlier TURN and the same STEP does not count", "1 3 1 0 0 0 1 0", Look.about(house, 1));
    }

    private static void loseOne() {
        RankHouse house = new RankHouse();
        house.ask(2, 0, 1, 0);
        Check.due("9: lose(3)", 7, house.lose(3));
        Check.due("9: those behind move up", "1 1 1 2 4 1 :", Look.letter(house, 3));
        Check.due("9: those before stay", "1 1 1 2 2 1 :", Look.letter(house, 2));
        Check.due("9: the last", 6, house.lose(6));
        house.run(1000);
        Check.due("9: it did not come", RankHouse.NONE, house.mark(3, 1));
        Look.refused(house, "9: lose of none", Check.OUTSIDE, () -> house.lose(0));
        Look.refused(house, "9: lose(-1)", Check.OUTSIDE, () -> house.lose(-1));
    }

    private static void twinOfOne() {
        RankHouse house = new RankHouse();
        house.fill(3, 70, 5, 1, 0);
        house.ask(2, 0, 5, 0);
        house.run(32);
        Check.due("10: twin(3)", 1, house.twin(3) ? 1 : 0);
        Check.due("10: the other one behind all", Look.letter(house, 3), Look.letter(house, 8));
        Check.due("10: CUT has three numbers", "5 1 3 2 3 1 : -2147483648 2147483647 39", Look.letter(house, 8));
        Check.due("10: letters", 9, house.letters());
        Look.refused(house, "10: twin(9)", Check.OUTSIDE, () -> house.twin(9) ? 1 : 0);
        Look.refused(house, "10: twin(-1)", Check.OUTSIDE, () -> house.twin(-1) ? 1 : 0);
        while (house.letters() < 96) {
            house.twin(0);
        }
        String before = Look.at(house);
        Check.due("10: no room", 0, house.twin(95) ? 1 : 0);
        Check.due("10: nothing changed", before, Look.at(house));
        Look.refused(house, "10: no such letter, no room", Check.OUTSIDE, () -> house.twin(96) ? 1 : 0);
    }

    private static void twinCountsOnce() {
        RankHouse house = new RankHouse();
        house.record(0, 4);
        house.ask(1, 1, 0, 9);
        house.run(8);
        house.twin(0);
        house.deliver(0);
        Check.due("10: the first of two counts", 1, house.about(1, 7));
        house.deliver(7);
        Check.due("10: the second does not", 1, house.about(1, 7));
        house.run(7);
        Check.due("10: n", 1, house.about(1, 4));
        house.twin(0);
        house.run(1000);
        Check.due("10: held once", 1, house.answer(1));
    }

    private static void runStops() {
        RankHouse house = new RankHouse();
        Check.due("11: none there", 0, house.run(1000));
        house.ask(2, 0, 1, 0);
        Check.due("11: run(0)", 0, house.run(0));
        Check.due("11: run(3)", 3, house.run(3));
        Check.due("11: the first ones came", "1 1 1 2 3 1 :", Look.letter(house, 0));
        Check.due("11: as long as there is one", 13, house.run(1000));
        Look.refused(house, "11: run(-1)", Check.ARGUMENT, () -> house.run(-1));
        Look.refused(house, "11: run(1001)", Check.ARGUMENT, () -> house.run(1001));
    }

    private static void theRowIsFull() {
        RankHouse house = new RankHouse();
        house.record(0, 4);
        house.ask(1, 0, 1, 0);
        house.run(15);
        house.ask(2, 0, 1, 0);
        while (house.letters() < 96) {
            house.twin(8);
        }
        Check.due("8: a full row, the driver goes on", 96, house.deliver(0));
        Check.due("8: one SPLIT found room", "3 1 2 1 0 1 : -2147483648 2147483647", Look.letter(house, 95));
        Check.due("8: an answer finds the room of its letter", 96, house.deliver(95));
        Check.due("8: PART", "4 1 2 0 1 1 : 1 4", Look.letter(house, 95));
    }
}
