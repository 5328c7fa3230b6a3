/** Two objects with the same calls behind them: one of them refuses a call, then both must go on alike. */
final class Pair {
    interface Story {
        void tell(RankHouse house);
    }

    interface Call {
        long on(RankHouse house);
    }

    private final String name;
    private final Story story;

    Pair(String name, Story story) {
        this.name = name;
        this.story = story;
    }

    void refuses(String what, String exception, Call call) {
        RankHouse refusing = told();
        RankHouse other = told();
        String text = what + " (" + name + ")";
        Check.refused(text, exception, () -> call.on(refusing));
        Check.due(text + " changes nothing", whatFollows(other), whatFollows(refusing));
    }

    void takes(String what, long want, Call call) {
        RankHouse house = told();
        Check.due(what + " (" + name + ")", Long.toString(want), Check.outcome(() -> call.on(house)));
    }

    private RankHouse told() {
        RankHouse house = new RankHouse();
        story.tell(house);
        return house;
    }

    /** What can be seen now, and what cannot (who is UP, what the drivers have heard) by what comes of it. */
    private static String whatFollows(RankHouse house) {
        StringBuilder text = new StringBuilder(Look.at(house));
        for (int logger = 0; logger < 8; logger++) {
            int one = logger;
            text.append('\n').append(Check.outcome(() -> house.record(one, 3)));
        }
        house.run(20);
        for (int question = 1; question <= 12; question++) {
            int one = question;
            text.append('\n').append(Check.outcome(() -> house.resend(one)));
        }
        house.run(1000);
        text.append(Look.at(house));
        for (int logger = 0; logger < 8; logger++) {
            house.restart(logger);
        }
        for (int question = 1; question <= 12; question++) {
            int one = question;
            text.append('\n').append(Check.outcome(() -> house.takeOver(one, one % 8)));
            house.run(1000);
        }
        text.append(Look.at(house)).append('\n').append(Check.outcome(() -> house.ask(0, 1, 0, 9)));
        text.append(' ').append(Check.outcome(() -> house.forget(1)));
        return text.append(' ').append(Check.outcome(() -> house.ask(0, 1, 0, 9))).toString();
    }
}
