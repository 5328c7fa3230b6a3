/** All that can be seen of an object, as one text. */
final class Look {
    private static final int QUESTIONS = 12;

    private Look() {
    }

    static String at(RankHouse house) {
        StringBuilder text = new StringBuilder();
        for (int logger = 0; logger < 8; logger++) {
            text.append(house.size(logger)).append(' ');
        }
        for (int i = 0; i < house.letters(); i++) {
            text.append("\nletter ").append(i).append(": ").append(letter(house, i));
        }
        for (int question = 0; question <= QUESTIONS; question++) {
            text.append("\nquestion ").append(question).append(": ").append(question(house, question));
        }
        return text.toString();
    }

    /** Kind, question, STEP, from, to, TURN, and behind a colon the numbers. */
    static String letter(RankHouse house, int i) {
        StringBuilder text = new StringBuilder();
        for (int what = 0; what < 6; what++) {
            text.append(house.letter(i, what)).append(' ');
        }
        text.append(':');
        for (int k = 0; k < house.letter(i, 6); k++) {
            text.append(' ').append(house.letter(i, 7 + k));
        }
        return text.toString();
    }

    /** DRIVER, TURN, STEP, ROUNDS, n, OPEN, the kind of letter asked, how many answered. */
    static String about(RankHouse house, int question) {
        StringBuilder text = new StringBuilder();
        for (int what = 0; what <= 7; what++) {
            text.append(what == 0 ? "" : " ").append(house.about(question, what));
        }
        return text.toString();
    }

    private static String question(RankHouse house, int question) {
        if (Check.outcome(() -> house.state(question)).startsWith("throws")) {
            return "none";
        }
        StringBuilder text = new StringBuilder();
        text.append(house.state(question)).append(' ').append(about(house, question));
        for (int logger = 0; logger < 8; logger++) {
            text.append(' ').append(house.mark(logger, question));
        }
        text.append(' ').append(Check.outcome(() -> house.answer(question)));
        text.append(' ').append(Check.outcome(() -> house.found(question, false)));
        return text.append(' ').append(Check.outcome(() -> house.found(question, true))).toString();
    }

    /** The call must throw this and change nothing. */
    static void refused(RankHouse house, String what, String exception, Check.Call call) {
        String before = at(house);
        Check.refused(what, exception, call);
        Check.due(what + " changes nothing", before, at(house));
    }
}
