/** Boundaries of questions: none and eight of them, their numbers, states and TURNs (promises 5, 12, 13 and 16 to 21). */
final class QuestionBoundsTest {
    private QuestionBoundsTest() {
    }

    public static void main(String[] args) {
        noneAtFirst();
        eightAtMost();
        everyPlaceIsUsedAgain();
        numbersGoOn();
        refusedOnesTakeNoNumber();
        questionsInEveryStateTakeAPlace();
        eightAtOnce();
        resendFromEightToOne();
        resendOfEachKind();
        takeOverBeginsAgain();
        takeOverKeepsTheQuestion();
        turnsGoOn();
        lostStaysLost();
        aboutBeforeAndBehind();
        aboutWhenNotAsking();
        openAndNOfATurn();
        answersStay();
        marksOfEightQuestions();
        forgetInEveryState();
        forgetLeavesTheOthers();
        Check.end();
    }

    private static void noneAtFirst() {
        RankHouse house = new RankHouse();
        for (int question = -1; question <= 9; question++) {
            int one = question;
            Check.refused("16: none is there", Check.OUTSIDE, () -> house.state(one));
            Check.refused("21: none is there", Check.OUTSIDE, () -> house.forget(one));
        }
        Check.due("5: the first has number 1", 1, house.ask(0, 1, 0, 0));
        Check.due("5: its TURN is 1, its STEP 1", "0 1 1 0 0 0 1 0", Look.about(house, 1));
        Check.due("5: it is ASKING", 0, house.state(1));
        Check.due("21: none is left", 0, house.forget(1));
        Check.refused("16: none is there again", Check.OUTSIDE, () -> house.state(1));
    }

    private static void eightAtMost() {
        RankHouse house = new RankHouse();
        for (int number = 1; number <= 8; number++) {
            Check.due("5: number", number, house.ask(number - 1, 1, number, number));
        }
        Check.refused("5: a ninth", Check.STATE, () -> house.ask(0, 1, 0, 0));
        for (int number = 1; number <= 8; number++) {
            Check.due("19: its driver", number - 1, house.about(number, 0));
        }
        for (int left = 7; left >= 0; left--) {
            Check.due("21: how many are left", left, house.forget(8 - left));
        }
        Check.due("5: room for one", 9, house.ask(0, 1, 0, 0));
    }

    private static void everyPlaceIsUsedAgain() {
        RankHouse house = Scene.of(new int[] {7});
        for (int i = 0; i < 8; i++) {
            house.ask(0, 0, 1, 0);
        }
        house.run(1000);
        for (int old = 1; old <= 8; old++) {
            Check.due("21: one goes", 7, house.forget(old));
            Check.due("5: one comes", 8 + old, house.ask(old - 1, 1, 0, 9));
            Check.refused("5: there is room for one alone", Check.STATE, () -> house.ask(0, 1, 0, 0));
            Check.due("19: nothing is left of the old one", old - 1 + " 1 1 0 0 0 1 0", Look.about(house, 8 + old));
            Check.due("20: nor its marks", RankHouse.NONE, house.mark(0, 8 + old));
            int gone = old;
            Check.refused("16: the old one is not there", Check.OUTSIDE, () -> house.state(gone));
        }
        house.run(1000);
        for (int number = 9; number <= 16; number++) {
            Check.due("17: of the new ones", 1, house.answer(number));
        }
    }

    private static void numbersGoOn() {
        RankHouse house = new RankHouse();
        for (int number = 1; number <= 250; number++) {
            Check.due("5: number", number, house.ask(number % 8, 1, 0, 0));
            Check.due("21: none is left", 0, house.forget(number));
        }
        Check.refused("16: an old number", Check.OUTSIDE, () -> house.state(250));
        Check.due("5: the next", 251, house.ask(0, 1, 0, 0));
    }

    private static void refusedOnesTakeNoNumber() {
        RankHouse house = new RankHouse();
        house.crash(7);
        Check.refused("5: driver 8", Check.OUTSIDE, () -> house.ask(8, 1, 0, 0));
        Check.refused("5: kind 5", Check.ARGUMENT, () -> house.ask(0, 5, 0, 0));
        Check.refused("5: not UP", Check.STATE, () -> house.ask(7, 1, 0, 0));
        for (int number = 1; number <= 8; number++) {
            Check.due("5: number", number, house.ask(0, 1, 0, 0));
        }
        Check.refused("5: a ninth", Check.STATE, () -> house.ask(0, 1, 0, 0));
        house.forget(8);
        Check.due("5: the ninth has number 9", 9, house.ask(0, 1, 0, 0));
    }

    /** Questions 1 ANSWERED, 2 REFUSED, 3 LOST (driver 4), 4 ASKING (driver 5); ten readings are there. */
    private static RankHouse oneOfEachState() {
        RankHouse house = new RankHouse();
        house.fill(2, 10, 1, 1, 0);
        house.ask(3, 2, 100, 0);
        house.run(1000);
        house.ask(3, 0, 11, 0);
        house.run(1000);
        house.ask(4, 0, 5, 0);
        house.run(11);
        house.crash(4);
        house.restart(4);
        house.ask(5, 4, 500, 0);
        return house;
    }

    private static void questionsInEveryStateTakeAPlace() {
        RankHouse house = oneOfEachState();
        int[] states = {1, 2, 3, 0};
        for (int question = 1; question <= 4; question++) {
            Check.due("16: state", states[question - 1], house.state(question));
        }
        for (int number = 5; number <= 8; number++) {
            Check.due("5: four more", number, house.ask(0, 1, 0, 0));
        }
        Check.refused("5: all eight are there", Check.STATE, () -> house.ask(0, 1, 0, 0));
    }

    private static void eightAtOnce() {
        RankHouse house = new RankHouse();
        house.fill(2, 10, 1, 1, 0);
        int[][] asked = {{0, 1}, {0, 10}, {1, 3}, {2, 100}, {3, 3}, {4, 1000}, {0, 11}, {2, 499}};
        for (int i = 0; i < 8; i++) {
            house.ask(i, asked[i][0], asked[i][1], 7);
        }
        house.run(1000);
        long[] answers = {1, 10, 5, 44, 300000, 9, 0, 11};
        for (int question = 1; question <= 8; question++) {
            if (question == 7) {
                Check.due("16: REFUSED", 2, house.state(question));
            } else {
                Check.due("17: question " + question, answers[question - 1], house.answer(question));
            }
        }
    }

    private static void resendFromEightToOne() {
        RankHouse house = Scene.of(new int[] {7});
        house.ask(5, 0, 1, 0);
        house.run(8);
        for (int left = 8; left >= 1; left--) {
            Check.due("12: have not answered", left, house.resend(1));
            Check.due("12: the first of them", 8 - left, house.letter(left, 4));
            Check.due("12: the last of them", 7, house.letter(2 * left - 1, 4));
            while (house.letters() > left) {
                house.lose(left);
            }
            house.deliver(0);
        }
        Check.due("12: none has answered the next STEP", 8, house.resend(1));
        Check.due("12: SPLIT, as it was asked", Look.letter(house, 0), Look.letter(house, 8));
    }

    private static void resendOfEachKind() {
        RankHouse house = Scene.of(new int[] {4, 9});
        house.fill(1, 70, 10, 1, 0);
        house.ask(6, 2, 0, 0);
        StringBuilder kinds = new StringBuilder();
        for (int step = 1; step <= 10; step++) {
            kinds.append(step == 1 ? "" : " ").append(house.letter(0, 0));
            String about = Look.about(house, 1);
            String letter = Look.letter(house, 7);
            Scene.loseAll(house);
            Check.due("12: all of them", 8, house.resend(1));
            Check.due("12: with the same letter", letter, Look.letter(house, 7));
            Check.due("12: nothing else changes", about, Look.about(house, 1));
            house.run(16);
        }
        Check.due("12: each kind", "1 3 5 3 7 3 5 3 7 11", kinds.toString());
        Check.due("17: answered all the same", 4 + 9 + 70 * 10 + 69 * 35, house.answer(1));
    }

    private static void takeOverBeginsAgain() {
        RankHouse house = new RankHouse();
        house.fill(1, 300, 10, 1, 0);
        house.ask(6, 4, 0, 0);
        Scene.steps(house, 4);
        house.run(8 + 3);
        Check.due("13: before", "6 1 5 1 300 300 5 3", Look.about(house, 1));
        Check.due("13: its TURN", 2, house.takeOver(1, 2));
        Check.due("13: STEP is that of FREEZE, all else 0", "2 2 1 0 0 0 1 0", Look.about(house, 1));
        Check.due("13: FREEZE is behind all", "1 1 1 2 7 2 :", Look.letter(house, house.letters() - 1));
        Scene.loseAll(house);
        Check.due("12: it asks FREEZE", 8, house.resend(1));
        house.run(1000);
        Check.due("17: answered", 0, house.answer(1));
        Check.due("19: ROUNDS of this TURN", "2 2 5 2 300 300 0 0", Look.about(house, 1));
    }

    private static void takeOverKeepsTheQuestion() {
        // Readings 5 5 5 5 6 6 7 8; kind, a, b, answer.
        int[][] asked = {{0, 3, 0, 5}, {1, 5, 6, 6}, {2, 250, 0, 22}, {3, 5, 0, 500000}, {4, 1000, 0, 3}};
        for (int[] one : asked) {
            RankHouse house = Scene.of(new int[] {5, 6, 6, 8}, new int[] {7, 5, 5, 5});
            house.ask(6, one[0], one[1], one[2]);
            house.run(20);
            house.takeOver(1, 1);
            house.run(5);
            house.takeOver(1, 7);
            house.run(1000);
            Check.due("13: kind, a and b are as they were", one[3], house.answer(1));
        }
    }

    private static void turnsGoOn() {
        RankHouse house = Scene.of(new int[] {7});
        house.ask(0, 0, 1, 0);
        for (int turn = 2; turn <= 30; turn++) {
            Check.due("13: its TURN", turn, house.takeOver(1, turn % 8));
        }
        Check.due("6: 96 letters, the others are lost", 96, house.letters());
        Check.due("7: the last that found room", "1 1 1 4 7 12 :", Look.letter(house, 95));
        house.run(1000);
        Check.due("19: none of its letters came", "6 30 1 0 0 0 1 0", Look.about(house, 1));
        house.resend(1);
        house.run(1000);
        Check.due("17: answered in TURN 30", 7, house.answer(1));
    }

    private static void lostStaysLost() {
        RankHouse house = Scene.of(new int[] {7});
        house.ask(0, 0, 1, 0);
        house.run(12);
        house.crash(0);
        house.restart(0);
        Check.refused("12: no resend", Check.STATE, () -> house.resend(1));
        house.run(1000);
        Check.due("16: it stays LOST", 3, house.state(1));
        house.crash(0);
        house.crash(1);
        house.restart(1);
        Check.due("16: it stays LOST", 3, house.state(1));
        Check.refused("13: its driver is not UP", Check.STATE, () -> house.takeOver(1, 0));
        Check.due("13: until one takes over", 2, house.takeOver(1, 1));
        Check.due("16: it is ASKING", 0, house.state(1));
        house.restart(0);
        house.run(1000);
        Check.due("17: answered", 7, house.answer(1));
    }

    private static void aboutBeforeAndBehind() {
        RankHouse house = new RankHouse();
        house.fill(4, 100, 1, 1, 0);
        house.ask(7, 2, 0, 0);
        String[] want = {"7 1 2 0 100 100 3 0", "7 1 3 0 100 100 5 0", "7 1 4 1 100 49 3 0", "7 1 5 1 100 49 7 0",
            "7 1 6 1 100 100 3 0", "7 1 7 1 100 100 5 0", "7 1 8 2 100 50 3 0", "7 1 9 2 100 50 7 0",
            "7 1 10 2 100 50 11 0", "7 1 10 2 100 50 0 0"};
        for (int step = 1; step <= 10; step++) {
            String before = Look.about(house, 1);
            house.run(8);
            Check.due("19: no answer came yet", before, Look.about(house, 1));
            house.run(7);
            Check.due("19: seven answered", before.substring(0, before.length() - 1) + "7", Look.about(house, 1));
            house.run(1);
            Check.due("19: behind STEP " + step, want[step - 1], Look.about(house, 1));
        }
    }

    private static void aboutWhenNotAsking() {
        RankHouse house = oneOfEachState();
        Check.due("19: ANSWERED", "3 1 6 0 10 10 0 0", Look.about(house, 1));
        Check.due("19: REFUSED, n is known, no SEARCH began", "3 1 1 0 10 0 0 0", Look.about(house, 2));
        Check.due("19: LOST with three answers", "4 1 1 0 0 0 0 0", Look.about(house, 3));
        Check.due("19: ASKING", "5 1 1 0 0 0 1 0", Look.about(house, 4));
        RankHouse lost = new RankHouse();
        lost.fill(4, 100, 1, 1, 0);
        lost.ask(7, 0, 1, 0);
        Scene.steps(lost, 3);
        lost.run(13);
        Check.due("19: five answered", "7 1 4 1 100 49 3 5", Look.about(lost, 1));
        lost.crash(7);
        Check.due("19: LOST, STEP, ROUNDS, n and OPEN stay", "7 1 4 1 100 49 0 0", Look.about(lost, 1));
        RankHouse empty = new RankHouse();
        Scene.asked(empty, 1, 0, 9);
        Check.due("19: REFUSED, n is 0", "3 1 1 0 0 0 0 0", Look.about(empty, 1));
    }

    private static void openAndNOfATurn() {
        RankHouse house = new RankHouse();
        house.fill(4, 100, 1, 1, 0);
        house.ask(7, 0, 1, 0);
        house.run(15);
        Check.due("19: n is not known before the eighth", "7 1 1 0 0 0 1 7", Look.about(house, 1));
        house.run(1);
        Check.due("19: n and OPEN", "7 1 2 0 100 100 3 0", Look.about(house, 1));
        house.takeOver(1, 7);
        Check.due("19: 0 again in the next TURN", "7 2 1 0 0 0 1 0", Look.about(house, 1));
        Scene.loseAll(house);
        house.resend(1);
        Scene.steps(house, 1);
        Check.due("19: known in the next TURN", "7 2 2 0 100 100 3 0", Look.about(house, 1));
        house.ask(0, 3, 50, 0);
        house.forget(1);
        Scene.steps(house, 1);
        Check.due("19: HOLD is no SEARCH", "0 1 2 0 100 0 9 0", Look.about(house, 2));
        house.run(1000);
        Check.due("19: nor behind it", "0 1 2 0 100 0 0 0", Look.about(house, 2));
    }

    private static void answersStay() {
        RankHouse house = Scene.of(new int[] {5, 6, 7});
        int first = Scene.asked(house, 2, 0, 0);
        house.fill(0, 400, 0, 1, 0);
        int second = Scene.asked(house, 4, 0, 0);
        for (int logger = 0; logger < 8; logger++) {
            Check.due("14: an ANSWERED one is not LOST", 0, house.crash(logger));
        }
        Check.due("17: as it was answered", 18, house.answer(first));
        Check.due("18: as it was found", 5, house.found(first, false));
        Check.due("18: as it was found", 7, house.found(first, true));
        Check.due("16: ANSWERED", 1, house.state(first));
        Check.due("17: another one has its own", 0, house.answer(second));
    }

    private static void marksOfEightQuestions() {
        RankHouse house = new RankHouse();
        for (int number = 1; number <= 8; number++) {
            house.ask(0, 1, 0, 9);
            house.run(1000);
            house.record(7, number);
        }
        for (int number = 1; number <= 8; number++) {
            Check.due("20: each question has its own mark", number - 1, house.mark(7, number));
            Check.due("20: of another logger", 0, house.mark(0, number));
        }
        house.forget(3);
        Check.due("20: the others stay", 3, house.mark(7, 4));
        Check.refused("20: that one goes", Check.OUTSIDE, () -> house.mark(7, 3));
    }

    private static void forgetInEveryState() {
        for (int question = 1; question <= 4; question++) {
            RankHouse house = oneOfEachState();
            int letters = house.letters();
            int own = 0;
            for (int i = 0; i < letters; i++) {
                own += house.letter(i, 1) == question ? 1 : 0;
            }
            Check.due("21: three are left", 3, house.forget(question));
            Check.due("21: its letters go", letters - own, house.letters());
            for (int i = 0; i < house.letters(); i++) {
                Check.due("21: no letter of it is left", true, house.letter(i, 1) != question);
            }
            int gone = question;
            Check.refused("21: it is not there", Check.OUTSIDE, () -> house.forget(gone));
            Check.due("14: it is not LOST any more", question == 4 ? 0 : 1, house.crash(5));
        }
    }

    private static void forgetLeavesTheOthers() {
        RankHouse house = oneOfEachState();
        house.forget(2);
        Check.due("17: ANSWERED", 44, house.answer(1));
        Check.due("16: LOST", 3, house.state(3));
        Check.due("13: it can be taken over", 2, house.takeOver(3, 0));
        house.run(1000);
        Check.due("17: answered", 5, house.answer(3));
        Check.due("17: answered", 4, house.answer(4));
    }
}
