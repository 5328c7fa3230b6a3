/** "A LETTER COMES": to whom it is lost, which odd kind is answered, and which even kind counts. */
final class ComingBoundsTest {
    private ComingBoundsTest() {
    }

    public static void main(String[] args) {
        lostWhenNotUp();
        lostOnlyWhileNotUp();
        lettersOfAQuestionThatIsNotThere();
        freezeIsAnsweredWithoutAMark();
        oddKindsAreAnsweredInEveryState();
        theAnswerHasTheTurnAndStepOfItsLetter();
        theAnswerGoesToWhoSentIt();
        onlyForTheDriver();
        onlyWhileAsking();
        onlyForTheTurn();
        onlyForTheStep();
        onlyOnceFromEachSender();
        theEighthOneDoubled();
        anyOrder();
        Check.end();
    }

    /** One reading, 4, of logger 0; question 1 of kind 0 is driven by 6. */
    private static RankHouse asked() {
        RankHouse house = Scene.of(new int[] {4});
        house.ask(6, 0, 1, 0);
        return house;
    }

    private static void lostWhenNotUp() {
        RankHouse house = asked();
        house.crash(0);
        Check.due("8: an odd kind leaves nothing", 7, house.deliver(0));
        Check.due("8: no mark", RankHouse.NONE, house.mark(0, 1));
        house.run(7);
        house.crash(6);
        Check.due("8: an even kind leaves nothing", 6, house.deliver(0));
        house.restart(6);
        house.takeOver(1, 6);
        Check.due("19: nothing came", "6 2 1 0 0 0 1 0", Look.about(house, 1));
        RankHouse all = asked();
        for (int logger = 0; logger < 8; logger++) {
            all.crash(logger);
        }
        Check.due("11: all are lost", 8, all.run(1000));
        Check.due("6: none is left", 0, all.letters());
    }

    private static void lostOnlyWhileNotUp() {
        RankHouse house = asked();
        house.crash(0);
        house.restart(0);
        Check.due("8: UP again, it answers", 8, house.deliver(0));
        house.crash(0);
        Check.due("8: the sender of an answer stopped, it counts", 7, house.deliver(7));
        Check.due("19: one answered", 1, house.about(1, 7));
        house.run(1000);
        Check.due("16: it goes on and waits for one that is not UP", "6 1 2 0 1 1 3 7", Look.about(house, 1));
        house.restart(0);
        Check.due("12: that one alone is asked again", 1, house.resend(1));
        house.run(1000);
        Check.due("17: answered in the end", 4, house.answer(1));
    }

    private static void lettersOfAQuestionThatIsNotThere() {
        RankHouse house = asked();
        house.run(5);
        Scene.letters(house, 96, 0);
        Check.due("21: none is left", 0, house.forget(1));
        Check.due("21: all 96 letters go", 0, house.letters());
        Check.due("11: none comes", 0, house.run(1000));
        Check.due("5: the next one", 2, house.ask(6, 0, 1, 0));
        Check.due("5: in the place of the old one", "6 1 1 0 0 0 1 0", Look.about(house, 2));
        for (int logger = 0; logger < 8; logger++) {
            Check.due("20: without its marks", RankHouse.NONE, house.mark(logger, 2));
        }
        house.run(1000);
        Check.due("17: answered", 4, house.answer(2));
    }

    private static void freezeIsAnsweredWithoutAMark() {
        RankHouse house = asked();
        Check.due("8: FREEZE to one without a mark", 8, house.deliver(0));
        Check.due("8: FROZEN", "2 1 1 0 6 1 : 1", Look.letter(house, 7));
        Check.due("8: FREEZE to one without readings", 8, house.deliver(0));
        Check.due("8: FROZEN of none", "2 1 1 1 6 1 : 0", Look.letter(house, 7));
        house.resend(1);
        house.deliver(8);
        Check.due("8: FREEZE to one with a mark", "2 1 1 0 6 1 : 1", Look.letter(house, house.letters() - 1));
    }

    private static RankHouse withLetterOfManyKinds(int kind) {
        RankHouse house = Scene.of(new int[] {4, 9});
        house.fill(1, 70, 10, 1, 0);
        house.ask(6, kind, 0, 99);
        return house;
    }

    private static void oddKindsAreAnsweredInEveryState() {
        RankHouse answered = withLetterOfManyKinds(2);
        int kept = keepOneOfEachStep(answered, 40);
        Check.due("16: ANSWERED", 1, answered.state(1));
        keptAreAnswered(answered, kept, "1 3 5 3 7 3 5 3 7 11");
        RankHouse held = withLetterOfManyKinds(1);
        kept = keepOneOfEachStep(held, 40);
        Check.due("16: ANSWERED", 1, held.state(1));
        keptAreAnswered(held, kept, "1 9");
        RankHouse lost = withLetterOfManyKinds(2);
        kept = keepOneOfEachStep(lost, 5);
        lost.crash(6);
        Check.due("16: LOST", 3, lost.state(1));
        keptAreAnswered(lost, kept, "1 3 5 3 7");
        RankHouse refused = new RankHouse();
        refused.ask(6, 0, 1, 0);
        kept = keepOneOfEachStep(refused, 40);
        Check.due("16: REFUSED", 2, refused.state(1));
        keptAreAnswered(refused, kept, "1");
    }

    /** So many steps of the question are gone through; a twin of each one's letter to logger 1 stays at the front. */
    private static int keepOneOfEachStep(RankHouse house, int steps) {
        int kept = 0;
        while (kept < steps && house.state(1) == 0) {
            house.twin(kept + 1);
            comeFrom(house, kept);
            kept++;
            comeFrom(house, kept);
        }
        return kept;
    }

    private static void comeFrom(RankHouse house, int i) {
        for (int came = 0; came < 8; came++) {
            house.deliver(i);
        }
    }

    private static void keptAreAnswered(RankHouse house, int kept, String want) {
        StringBuilder kinds = new StringBuilder();
        String before = Look.about(house, 1);
        for (int i = 0; i < kept; i++) {
            int kind = house.letter(0, 0);
            int step = house.letter(0, 2);
            kinds.append(i == 0 ? "" : " ").append(kind);
            house.deliver(0);
            String letter = Look.letter(house, house.letters() - 1);
            String head = kind + 1 + " 1 " + step + " 1 6 1 :";
            Check.due("8: kind " + kind + " is answered", head, letter.substring(0, letter.indexOf(':') + 1));
        }
        Check.due("8: each kind that was asked", want, kinds.toString());
        house.run(1000);
        Check.due("8: the answers do not count", before, Look.about(house, 1));
    }

    private static void theAnswerHasTheTurnAndStepOfItsLetter() {
        RankHouse house = asked();
        house.run(16);
        house.takeOver(1, 2);
        house.takeOver(1, 3);
        house.run(8);
        Check.due("8: a PART of TURN 1, STEP 2", "4 1 2 7 6 1 : 0 0", Look.letter(house, house.letters() - 1));
        house.run(8);
        Check.due("8: a FROZEN of TURN 2, STEP 1", "2 1 1 7 2 2 : 0", Look.letter(house, house.letters() - 1));
        house.run(8);
        Check.due("8: a FROZEN of TURN 3, STEP 1", "2 1 1 7 3 3 : 0", Look.letter(house, house.letters() - 1));
    }

    private static void theAnswerGoesToWhoSentIt() {
        for (int driver = 0; driver < 8; driver++) {
            RankHouse house = new RankHouse();
            house.ask(driver, 0, 1, 0);
            house.takeOver(1, 7 - driver);
            house.run(16);
            for (int i = 0; i < 8; i++) {
                Check.due("8: to the first driver", "2 1 1 " + i + " " + driver + " 1 : 0", Look.letter(house, i));
                Check.due("8: to the second", "2 1 1 " + i + " " + (7 - driver) + " 2 : 0", Look.letter(house, 8 + i));
            }
        }
    }

    private static void onlyForTheDriver() {
        RankHouse house = asked();
        house.run(8);
        house.takeOver(1, 2);
        house.run(8);
        Check.due("8: FROZEN to the one that drove before do not count", "2 2 1 0 0 0 1 0", Look.about(house, 1));
        house.run(1000);
        Check.due("17: answered to the other", 4, house.answer(1));
    }

    private static void onlyWhileAsking() {
        RankHouse lost = asked();
        lost.run(8);
        lost.crash(6);
        lost.restart(6);
        lost.run(8);
        Check.due("8: LOST, its driver is UP: none counts", "6 1 1 0 0 0 0 0", Look.about(lost, 1));
        Check.due("16: it stays LOST", 3, lost.state(1));
        RankHouse answered = asked();
        Scene.steps(answered, 2);
        answered.run(8);
        Scene.letters(answered, 16, 0);
        answered.run(1000);
        Check.due("8: ANSWERED, late ones do not count", "6 1 3 0 1 1 0 0", Look.about(answered, 1));
        Check.due("17: answered once", 4, answered.answer(1));
        RankHouse refused = new RankHouse();
        refused.ask(6, 0, 1, 0);
        refused.run(8);
        refused.twin(3);
        refused.run(8);
        String before = Look.about(refused, 1);
        Check.due("8: REFUSED, a late one comes", 0, refused.deliver(0));
        Check.due("8: REFUSED, it does not count", before, Look.about(refused, 1));
        Check.due("16: REFUSED", 2, refused.state(1));
    }

    private static void onlyForTheTurn() {
        RankHouse house = asked();
        house.run(8);
        house.takeOver(1, 6);
        house.run(8);
        Check.due("8: STEP 1 of TURN 1 is not STEP 1 of TURN 2", "6 2 1 0 0 0 1 0", Look.about(house, 1));
        house.run(8);
        house.run(7);
        Check.due("8: those of TURN 2 count", "6 2 1 0 0 0 1 7", Look.about(house, 1));
        house.takeOver(1, 6);
        house.run(1);
        Check.due("8: the eighth of TURN 2 comes in TURN 3", "6 3 1 0 0 0 1 0", Look.about(house, 1));
    }

    private static void onlyForTheStep() {
        RankHouse house = new RankHouse();
        house.fill(0, 500, 1, 1, 0);
        house.ask(6, 0, 1, 0);
        Scene.steps(house, 1);
        house.run(8);
        Scene.letters(house, 16, 0);
        house.run(8);
        Check.due("CUT is asked", "6 1 3 0 500 500 5 0", Look.about(house, 1));
        house.run(8);
        Check.due("8: PART of the STEP before do not count", "6 1 3 0 500 500 5 0", Look.about(house, 1));
        Scene.steps(house, 1);
        Check.due("SPLIT is asked again", "6 1 4 1 500 249 3 0", Look.about(house, 1));
        house.takeOver(1, 6);
        house.run(16 + 8);
        Check.due("8: PART of TURN 1, STEP 4 come in TURN 2, STEP 1", "6 2 1 0 0 0 1 0", Look.about(house, 1));
        house.run(1000);
        Check.due("17: answered", 1, house.answer(1));
    }

    private static void onlyOnceFromEachSender() {
        RankHouse house = asked();
        house.run(8);
        Scene.letters(house, 15, 0);
        house.lose(7);
        Check.due("6: seven senders, one of them eight times", 14, house.letters());
        house.run(14);
        Check.due("19: seven answered", "6 1 1 0 0 0 1 7", Look.about(house, 1));
        Check.due("12: one has not", 1, house.resend(1));
        Check.due("12: the one that was lost", "1 1 1 6 7 1 :", Look.letter(house, 0));
        house.run(2);
        Check.due("19: n counts each once", "6 1 2 0 1 1 3 0", Look.about(house, 1));
    }

    private static void theEighthOneDoubled() {
        RankHouse house = asked();
        house.run(8);
        house.twin(7);
        house.run(8);
        Check.due("SPLIT is asked", "6 1 2 0 1 1 3 0", Look.about(house, 1));
        house.deliver(0);
        Check.due("8: its twin does not count for the next STEP", "6 1 2 0 1 1 3 0", Look.about(house, 1));
        house.run(1000);
        Check.due("17: answered", 4, house.answer(1));
    }

    private static void anyOrder() {
        RankHouse house = new RankHouse();
        for (int logger = 0; logger < 8; logger++) {
            house.fill(logger, 60, logger * 7, 11, 0);
        }
        house.ask(6, 2, 30, 0);
        int often = 0;
        while (house.letters() > 0 && often < 2000) {
            house.deliver(house.letters() - 1);
            often++;
        }
        long last = house.answer(1);
        Check.due("17: the last letter first, as in their order", Scene.answer(house, 2, 30, 0), Long.toString(last));
    }
}
