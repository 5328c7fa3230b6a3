/** Boundaries of the row of letters: none and 96 on the way, what is sent beyond that, their order (promises 5 to 13). */
final class RowBoundsTest {
    private RowBoundsTest() {
    }

    public static void main(String[] args) {
        noneOnTheWay();
        askAtEachRoom();
        takeOverAtEachRoom();
        resendAtEachRoom();
        goingOnAtEachRoom();
        anAnswerHasTheRoomOfItsLetter();
        runThroughAFullRow();
        twinUpToTheLastRoom();
        twinIsTheSameLetter();
        whatWasLostIsResent();
        theOrderInWhichTheyWereSent();
        runCounts();
        runAThousand();
        numbersOfALetter();
        nothingBehindTheLastNumber();
        sumsOfTwins();
        Check.end();
    }

    /** A row with so many letters of question 1, whose driver is 6; all are FREEZE. */
    private static RankHouse withLetters(int many) {
        RankHouse house = new RankHouse();
        house.record(0, 4);
        house.ask(6, 0, 1, 0);
        Scene.letters(house, many, 7);
        return house;
    }

    private static void noneOnTheWay() {
        RankHouse house = new RankHouse();
        Check.due("6: none", 0, house.letters());
        Check.due("11: none comes", 0, house.run(1000));
        house.ask(0, 0, 1, 0);
        for (int left = 7; left >= 0; left--) {
            Check.due("9: down to none", left, house.lose(left));
        }
        Check.due("6: none again", 0, house.letters());
        Check.refused("9: none to lose", Check.OUTSIDE, () -> house.lose(0));
        Check.refused("8: none to come", Check.OUTSIDE, () -> house.deliver(0));
    }

    private static void checkSent(String text, RankHouse house, int before, String head) {
        int room = Math.min(8, 96 - before);
        Check.due(text + ": letters, " + before + " before", before + room, house.letters());
        for (int to = 0; to < room; to++) {
            Check.due(text + ": from 0 on", head.replace("?", Integer.toString(to)), Look.letter(house, before + to));
        }
    }

    private static void askAtEachRoom() {
        for (int before = 86; before <= 96; before++) {
            RankHouse house = withLetters(before);
            Check.due("5: its number, " + before + " letters", 2, house.ask(5, 1, 0, 9));
            checkSent("5: FREEZE", house, before, "1 2 1 5 ? 1 :");
            Check.due("5: it is ASKING all the same", "5 1 1 0 0 0 1 0", Look.about(house, 2));
        }
    }

    private static void takeOverAtEachRoom() {
        for (int before = 86; before <= 96; before++) {
            RankHouse house = withLetters(before);
            Check.due("13: its TURN, " + before + " letters", 2, house.takeOver(1, 3));
            checkSent("13: FREEZE", house, before, "1 1 1 3 ? 2 :");
            Check.due("13: it is ASKING all the same", "3 2 1 0 0 0 1 0", Look.about(house, 1));
        }
    }

    private static void resendAtEachRoom() {
        for (int before = 86; before <= 96; before++) {
            RankHouse house = withLetters(before);
            Check.due("12: how many, " + before + " letters", 8, house.resend(1));
            checkSent("12: FREEZE", house, before, "1 1 1 6 ? 1 :");
        }
    }

    private static void goingOnAtEachRoom() {
        for (int before = 86; before <= 96; before++) {
            RankHouse house = withLetters(8);
            house.run(15);
            house.ask(2, 1, 0, 9);
            Scene.letters(house, before, 8);
            house.deliver(0);
            checkSent("SPLIT behind the last FROZEN", house, before - 1, "3 1 2 6 ? 1 : -2147483648 2147483647");
            Check.due("it asks all the same", "6 1 2 0 1 1 3 0", Look.about(house, 1));
        }
    }

    private static void anAnswerHasTheRoomOfItsLetter() {
        RankHouse house = withLetters(96);
        Check.due("8: the first of 96", 96, house.deliver(0));
        Check.due("8: its answer is the last", "2 1 1 0 6 1 : 1", Look.letter(house, 95));
        Check.due("8: the last FREEZE of 96", 96, house.deliver(94));
        Check.due("8: its answer is the last", "2 1 1 7 6 1 : 0", Look.letter(house, 95));
        Check.due("8: an answer leaves its room", 95, house.deliver(95));
    }

    private static void runThroughAFullRow() {
        RankHouse house = withLetters(96);
        Check.due("11: 96 of 96", 96, house.run(96));
        Check.due("6: 96 answers", 96, house.letters());
        Check.due("7: the first of them", "2 1 1 0 6 1 : 1", Look.letter(house, 0));
        Check.due("11: up to the last but one to count", 7, house.run(7));
        Check.due("19: seven answered", 7, house.about(1, 7));
        house.run(1);
        Check.due("19: it went on with the eighth, of 89", "6 1 2 0 1 1 3 0", Look.about(house, 1));
        Check.due("6: the answers left and eight SPLIT", 96, house.letters());
        Check.due("11: all of them and the rest", 88 + 8 + 8 + 16, house.run(1000));
        Check.due("17: answered", 4, house.answer(1));
    }

    private static void twinUpToTheLastRoom() {
        RankHouse house = withLetters(94);
        Check.due("10: the 95th", true, house.twin(0));
        Check.due("10: the 96th", true, house.twin(94));
        Check.due("6: 96", 96, house.letters());
        String before = Look.at(house);
        Check.due("10: no room for a 97th, of the first", false, house.twin(0));
        Check.due("10: no room for a 97th, of the last", false, house.twin(95));
        Check.due("10: nothing changed", before, Look.at(house));
        house.lose(50);
        Check.due("10: room again", true, house.twin(3));
        Check.due("10: behind all", "1 1 1 6 3 1 :", Look.letter(house, 95));
    }

    private static void twinIsTheSameLetter() {
        RankHouse house = new RankHouse();
        house.fill(2, 64, 100, 1, 0);
        house.ask(5, 0, 1, 0);
        house.run(40);
        Check.due("10: of 64 numbers", true, house.twin(2));
        for (int what = 0; what <= 70; what++) {
            Check.due("10: what = " + what, house.letter(2, what), house.letter(8, what));
        }
        house.lose(2);
        house.run(1000);
        Check.due("10: the other one counts as well", 100, house.answer(1));
    }

    private static void whatWasLostIsResent() {
        RankHouse house = withLetters(93);
        house.ask(2, 1, 0, 9);
        house.run(96);
        Check.due("6: the row is full of answers", 96, house.letters());
        house.forget(1);
        Check.due("20: the third FREEZE came", 0, house.mark(2, 2));
        Check.due("20: the fourth was lost", RankHouse.NONE, house.mark(3, 2));
        house.run(1000);
        Check.due("12: five have not answered", 5, house.resend(2));
        Check.due("12: from the fourth on", "1 2 1 2 3 1 :", Look.letter(house, 0));
        house.run(1000);
        Check.due("17: answered", 1, house.answer(2));
    }

    private static void theOrderInWhichTheyWereSent() {
        RankHouse house = withLetters(8);
        house.ask(1, 1, 0, 9);
        house.deliver(10);
        house.twin(3);
        house.resend(1);
        String[] kinds = {"1 1 1 6 0", "1 1 1 6 7", "1 2 1 1 0", "1 2 1 1 3", "1 2 1 1 7", "2 2 1 2 1", "1 1 1 6 3", "1 1 1 6 0"};
        int[] places = {0, 7, 8, 10, 14, 15, 16, 17};
        for (int i = 0; i < places.length; i++) {
            String letter = Look.letter(house, places[i]);
            Check.due("6: letter " + places[i], kinds[i], letter.substring(0, kinds[i].length()));
        }
        Check.due("6: all of them", 25, house.letters());
        house.forget(1);
        Check.due("21: those of question 1 went", 8, house.letters());
        Check.due("21: the order stays", "1 2 1 1 3 1 :", Look.letter(house, 2));
        Check.due("21: up to the last", "2 2 1 2 1 1 : 0", Look.letter(house, 7));
    }

    private static void runCounts() {
        RankHouse house = withLetters(8);
        Check.due("11: none of eight", 0, house.run(0));
        Check.due("11: one of eight", 1, house.run(1));
        Check.due("11: seven letters and the answer that came in between", 8, house.run(8));
        Check.due("6: answers", 7, house.letters());
        RankHouse lost = new RankHouse();
        lost.ask(0, 0, 1, 0);
        lost.crash(0);
        Check.due("11: one that is lost counts, too", 1, lost.run(1));
        Check.due("11: just as many as there are", 14, lost.run(14));
        Check.due("11: none is left", 0, lost.run(1));
    }

    private static void runAThousand() {
        RankHouse house = new RankHouse();
        for (int logger = 0; logger < 8; logger++) {
            house.fill(logger, 500, logger, 1000, 0);
        }
        for (int i = 0; i < 8; i++) {
            house.ask(i, 2, 10 + i, 0);
        }
        Check.due("11: a thousand at most", 1000, house.run(1000));
        Check.due("6: others are still on the way", true, house.letters() > 0);
        Check.due("16: not yet answered", 0, house.state(1));
    }

    private static void numbersOfALetter() {
        RankHouse house = new RankHouse();
        house.fill(1, 63, 1000, 1, 0);
        house.record(1, -5);
        house.ask(0, 0, 1, 0);
        Check.due("7: FREEZE has none", 0, house.letter(0, 6));
        for (int what = 7; what <= 70; what++) {
            Check.due("7: 0 behind the last of none", 0, house.letter(0, what));
        }
        house.run(40);
        Check.due("7: GIVEN has 64", 64, house.letter(1, 6));
        Check.due("7: number 0", -5, house.letter(1, 7));
        Check.due("7: number 1", 1000, house.letter(1, 8));
        Check.due("7: the 64th", 1062, house.letter(1, 70));
        Check.due("7: GIVEN of none", 0, house.letter(2, 6));
    }

    /** 96 letters of 64 numbers were on the way before, so that whatever holds letters has held other numbers. */
    private static RankHouse afterManyNumbers() {
        RankHouse house = new RankHouse();
        house.fill(1, 64, 1000, 1, 0);
        house.ask(0, 0, 1, 0);
        house.run(40);
        Scene.letters(house, 96, 1);
        for (int i = 0; i < 8; i++) {
            house.lose(0);
        }
        Scene.letters(house, 96, 87);
        for (int i = 0; i < 96; i++) {
            Check.due("10: each one has 64", 64, house.letter(i, 6));
        }
        house.forget(1);
        return house;
    }

    private static void nothingBehindTheLastNumber() {
        RankHouse house = afterManyNumbers();
        house.ask(0, 2, 0, 0);
        StringBuilder kinds = new StringBuilder();
        for (int half = 1; half <= 12; half++) {
            for (int i = 0; i < 8; i++) {
                int last = 6 + house.letter(i, 6);
                for (int what = last + 1; what <= 70; what++) {
                    Check.due("7: 0 behind the last, kind " + house.letter(i, 0), 0, house.letter(i, what));
                }
            }
            kinds.append(house.letter(0, 0)).append('-').append(house.letter(0, 6)).append(' ');
            house.run(8);
        }
        Check.due("7: how many numbers each kind has", "1-0 2-1 3-2 4-2 7-2 8-0 3-2 4-2 7-2 8-0 11-2 12-4 ", kinds.toString());
        Check.due("17: answered", 64 * 1000 + 63 * 32, house.answer(2));
    }

    private static void sumsOfTwins() {
        RankHouse house = Scene.of(new int[] {Scene.LEAST, Scene.GREATEST}, new int[] {Scene.GREATEST - 1, Scene.GREATEST - 1, 4});
        house.ask(0, 2, 0, 0);
        Scene.steps(house, 5);
        house.run(8);
        Check.due("10: ADDED with a sum of 4294967296", "0 0 3 0", Scene.numbers(house, 1));
        house.twin(1);
        Check.due("10: its twin", "0 0 3 0", Scene.numbers(house, 8));
        house.lose(1);
        house.run(1000);
        Check.due("10: the twin has the whole sum", 4294967296L - 1, house.answer(1));
    }
}
