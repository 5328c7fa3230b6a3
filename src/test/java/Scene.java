/** Objects brought to where a boundary can be seen. */
final class Scene {
    static final int LEAST = Integer.MIN_VALUE;
    static final int GREATEST = Integer.MAX_VALUE;
    static final int ROUND = 16;

    private Scene() {
    }

    /** Logger i has the readings of row i, in that order. */
    static RankHouse of(int[]... rows) {
        RankHouse house = new RankHouse();
        for (int logger = 0; logger < rows.length; logger++) {
            for (int value : rows[logger]) {
                house.record(logger, value);
            }
        }
        return house;
    }

    /** Readings 1, 2, .. n, dealt out to the loggers from 0 on, 500 to each. */
    static RankHouse upTo(int n) {
        RankHouse house = new RankHouse();
        for (int from = 1; from <= n; from += 500) {
            house.fill(from / 500, Math.min(500, n - from + 1), from, 1, 0);
        }
        return house;
    }

    /** Letters behind all others until so many are on the way, each like letter i. */
    static void letters(RankHouse house, int many, int i) {
        for (int tries = 0; tries < 96 && house.letters() < many; tries++) {
            house.twin(i);
        }
    }

    static void loseAll(RankHouse house) {
        for (int tries = 0; tries < 96 && house.letters() > 0; tries++) {
            house.lose(0);
        }
    }

    /** Steps of a question that is alone: its eight letters and their eight answers come. */
    static void steps(RankHouse house, int many) {
        house.run(many * ROUND);
    }

    static int asked(RankHouse house, int kind, int a, int b) {
        int question = house.ask(3, kind, a, b);
        house.run(1000);
        return question;
    }

    /** What a new question is answered; it is forgotten then. */
    static String answer(RankHouse house, int kind, int a, int b) {
        int question = asked(house, kind, a, b);
        String answer = house.state(question) == 2 ? "REFUSED" : Check.outcome(() -> house.answer(question));
        house.forget(question);
        return answer;
    }

    /** The numbers of letter i. */
    static String numbers(RankHouse house, int i) {
        String letter = Look.letter(house, i);
        return letter.substring(letter.indexOf(':') + 1).trim();
    }
}
