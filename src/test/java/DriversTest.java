/** Promises 12 to 15: resend, takeOver, crash, restart. */
final class DriversTest {
    private DriversTest() {
    }

    public static void main(String[] args) {
        resendToThoseLeft();
        resendTheSameLetter();
        resendRefuses();
        takeOverOfOneAsking();
        takeOverKeepsMarks();
        takeOverRefuses();
        crashLosesQuestions();
        crashKeepsReadings();
        restartBringsUp();
        Check.end();
    }

    private static RankHouse withSomeReadings() {
        RankHouse house = new RankHouse();
        for (int logger = 0; logger < 8; logger++) {
            house.fill(logger, 20, 100 * logger, 1, 0);
        }
        return house;
    }

    private static void resendToThoseLeft() {
        RankHouse house = withSomeReadings();
        house.ask(4, 0, 7, 0);
        house.lose(6);
        house.lose(1);
        house.run(1000);
        Check.due("12: two have not answered", 2, house.resend(1));
        Check.due("12: to logger 1", "1 1 1 4 1 1 :", Look.letter(house, 0));
        Check.due("12: to logger 6", "1 1 1 4 6 1 :", Look.letter(house, 1));
        Check.due("12: STEP stays", "4 1 1 0 0 0 1 6", Look.about(house, 1));
        Check.due("12: again", 2, house.resend(1));
        Check.due("6: letters", 4, house.letters());
        house.run(1000);
        Check.due("12: it went on", 6, house.answer(1));
    }

    private static void resendTheSameLetter() {
        RankHouse house = withSomeReadings();
        house.ask(4, 0, 7, 0);
        house.run(32);
        String cut = Look.letter(house, 5);
        for (int i = 0; i < 8; i++) {
            house.lose(0);
        }
        Check.due("12: nobody answered", 8, house.resend(1));
        Check.due("12: the same letter", cut, Look.letter(house, 5));
        while (house.letters() < 96) {
            house.twin(0);
        }
        Check.due("12: how many also without room", 8, house.resend(1));
        Check.due("12: these were lost", 96, house.letters());
    }

    private static void resendRefuses() {
        RankHouse house = withSomeReadings();
        Look.refused(house, "12: no such question", Check.OUTSIDE, () -> house.resend(1));
        house.ask(4, 1, 0, 9);
        house.run(1000);
        Look.refused(house, "12: ANSWERED", Check.STATE, () -> house.resend(1));
        house.ask(4, 0, 161, 0);
        house.run(1000);
        Look.refused(house, "12: REFUSED", Check.STATE, () -> house.resend(2));
        house.ask(4, 0, 1, 0);
        house.crash(4);
        Look.refused(house, "12: LOST", Check.STATE, () -> house.resend(3));
        house.restart(4);
        Look.refused(house, "12: LOST also when its driver is UP again", Check.STATE, () -> house.resend(3));
    }

    private static void takeOverOfOneAsking() {
        RankHouse house = withSomeReadings();
        house.ask(4, 0, 7, 0);
        house.run(48);
        // The PIVOT is 309, the told reading of logger 3; 69 readings are below it.
        Check.due("13: one round behind it", "4 1 4 1 160 69 3 0", Look.about(house, 1));
        Check.due("13: the TURN", 2, house.takeOver(1, 6));
        Check.due("13: from the beginning", "6 2 1 0 0 0 1 0", Look.about(house, 1));
        Check.due("13: FREEZE behind the others", "1 1 1 6 0 2 :", Look.letter(house, 8));
        Check.due("13: FREEZE to all", 16, house.letters());
        house.run(8);
        Check.due("13: a SPLIT of the old TURN is answered to who sent it", "4 1 4 0 4 1 : 20 9", Look.letter(house, 8));
        Check.due("13: by the same one", 3, house.takeOver(1, 6));
        house.run(1000);
        Check.due("13: ANSWERED", 6, house.answer(1));
        Check.due("13: in TURN 3", 3, house.about(1, 1));
    }

    private static void takeOverKeepsMarks() {
        RankHouse house = new RankHouse();
        house.record(0, 5);
        house.ask(4, 0, 1, 0);
        house.deliver(0);
        house.record(0, 1);
        house.record(1, 3);
        house.crash(4);
        Check.due("13: of one that is LOST", 2, house.takeOver(1, 3));
        Check.due("13: it is ASKING", 0, house.state(1));
        house.restart(4);
        house.run(1000);
        Check.due("13: the mark of before", 1, house.mark(0, 1));
        Check.due("13: a mark of now", 1, house.mark(1, 1));
        Check.due("13: the least of the frozen", 3, house.answer(1));
    }

    private static void takeOverRefuses() {
        RankHouse house = withSomeReadings();
        house.crash(5);
        house.ask(4, 0, 7, 0);
        Look.refused(house, "13: no such question", Check.OUTSIDE, () -> house.takeOver(2, 0));
        Look.refused(house, "13: no such question goes first", Check.OUTSIDE, () -> house.takeOver(2, 5));
        Look.refused(house, "13: driver 8", Check.OUTSIDE, () -> house.takeOver(1, 8));
        Look.refused(house, "13: driver -1", Check.OUTSIDE, () -> house.takeOver(1, -1));
        Look.refused(house, "13: a driver that stopped", Check.STATE, () -> house.takeOver(1, 5));
        house.restart(5);
        house.resend(1);
        house.run(1000);
        Look.refused(house, "13: ANSWERED", Check.STATE, () -> house.takeOver(1, 5));
        Look.refused(house, "13: ANSWERED, no such driver", Check.OUTSIDE, () -> house.takeOver(1, 8));
        house.ask(4, 0, 4000, 0);
        house.run(1000);
        Look.refused(house, "13: REFUSED", Check.STATE, () -> house.takeOver(2, 5));
    }

    private static void crashLosesQuestions() {
        RankHouse house = withSomeReadings();
        house.ask(4, 1, 0, 9);
        house.run(1000);
        house.ask(4, 0, 7, 0);
        house.ask(3, 0, 7, 0);
        house.ask(4, 0, 8, 0);
        house.ask(4, 0, 9, 0);
        house.forget(5);
        house.run(3);
        Check.due("14: two are LOST", 2, house.crash(4));
        Check.due("14: ANSWERED stays", 1, house.state(1));
        Check.due("14: LOST", 3, house.state(2));
        Check.due("14: of another driver", 0, house.state(3));
        Check.due("14: LOST", 3, house.state(4));
        Check.due("14: about one that is LOST", "4 1 1 0 0 0 0 0", Look.about(house, 2));
        Check.due("14: its letters are still on the way", 24, house.letters());
        Check.due("14: it stopped already", 0, house.crash(4));
        Look.refused(house, "14: crash(8)", Check.OUTSIDE, () -> house.crash(8));
        Look.refused(house, "14: crash(-1)", Check.OUTSIDE, () -> house.crash(-1));
    }

    private static void crashKeepsReadings() {
        RankHouse house = withSomeReadings();
        house.ask(0, 0, 160, 0);
        house.run(8);
        house.crash(7);
        Check.due("14: readings stay", 20, house.size(7));
        Check.due("14: marks stay", 20, house.mark(7, 1));
        house.restart(7);
        house.record(7, 999);
        house.run(1000);
        Check.due("14: the frozen ones are asked", 719, house.answer(1));
    }

    private static void restartBringsUp() {
        RankHouse house = withSomeReadings();
        house.ask(0, 0, 7, 0);
        house.crash(0);
        house.restart(0);
        Check.due("15: it is UP", 21, house.record(0, 1));
        Check.due("15: its question stays LOST", 3, house.state(1));
        house.restart(0);
        Check.due("15: of one that is UP", 22, house.record(0, 1));
        house.run(1000);
        Check.due("15: answers to a question that is LOST do not count", "0 1 1 0 0 0 0 0", Look.about(house, 1));
        Look.refused(house, "15: restart(8)", Check.OUTSIDE, () -> restarted(house, 8));
        Look.refused(house, "15: restart(-1)", Check.OUTSIDE, () -> restarted(house, -1));
    }

    private static long restarted(RankHouse house, int logger) {
        house.restart(logger);
        return 0;
    }
}
