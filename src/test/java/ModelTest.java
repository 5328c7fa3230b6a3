import java.util.Random;

/** Long runs of calls, right and wrong ones, on RankHouse and on the model: every answer must be the same. */
final class ModelTest {
    private static final int RUNS = 400;
    private static final int CALLS = 512;
    private static final int[] EDGES = {Integer.MIN_VALUE, Integer.MIN_VALUE + 1, -1, 0, 1, Integer.MAX_VALUE - 1, Integer.MAX_VALUE};

    private final Random random;
    private final int style;
    private final String name;
    private final RankHouse house = new RankHouse();
    private final Model model = new Model();
    private int newest = 0;
    private static int answered = 0;

    private ModelTest(int seed) {
        random = new Random(seed);
        style = seed % 4;
        name = "run " + seed + ": ";
    }

    public static void main(String[] args) {
        for (int seed = 1; seed <= RUNS; seed++) {
            new ModelTest(seed).go();
        }
        Check.due("many questions were answered", 1, answered > 5 * RUNS ? 1 : 0);
        Check.end();
    }

    private void go() {
        if (style != 0) {
            for (int logger = 0; logger < 8; logger++) {
                doFill(logger, pick(0, 500));
            }
        }
        for (int call = 0; call < CALLS; call++) {
            oneCall();
            if (call % 16 == 0) {
                compareAll();
            }
        }
        compareAll();
    }

    private void oneCall() {
        int dice = pick(0, 99);
        if (dice < 10) {
            doAsk();
        } else if (dice < 30) {
            int many = chance(30) ? pick(-1, 1001) : pick(0, style == 2 ? 12 : 150);
            compare("run(" + many + ")", () -> house.run(many), () -> model.run(many));
        } else if (dice < 60) {
            doOneLetter();
        } else if (dice < 75) {
            doReading();
        } else {
            doQuestion();
        }
    }

    private void doAsk() {
        int driver = logger();
        int kind = chance(3) ? edge() : pick(0, 4);
        int a = chance(5) ? edge() : numberFor(kind);
        int b = chance(10) ? edge() : reading();
        String text = "ask(" + driver + ", " + kind + ", " + a + ", " + b + ")";
        compare(text, () -> house.ask(driver, kind, a, b), () -> model.ask(driver, kind, a, b));
        newest = Math.max(newest, newestThere());
    }

    private int newestThere() {
        return Check.outcome(() -> model.state(newest + 1)).startsWith("throws") ? newest : newest + 1;
    }

    private int numberFor(int kind) {
        switch (kind) {
            case 0:
                return pick(1, chance(5) ? 4001 : 1 + house.size(0) * 5);
            case 2:
                return pick(0, 499);
            case 4:
                return pick(0, 1000);
            default:
                return reading();
        }
    }

    private void doOneLetter() {
        int i = chance(4) ? edge() : pick(0, Math.max(0, house.letters() - (chance(95) ? 1 : 0)));
        int dice = pick(0, 9);
        if (dice < 4) {
            compare("deliver(" + i + ")", () -> house.deliver(i), () -> model.deliver(i));
        } else if (dice < 5) {
            compare("lose(" + i + ")", () -> house.lose(i), () -> model.lose(i));
        } else if (dice < 8) {
            int often = style == 3 && chance(10) ? 100 : 1;
            for (int k = 0; k < often; k++) {
                compare("twin(" + i + ")", () -> house.twin(i) ? 1 : 0, () -> model.twin(i) ? 1 : 0);
            }
        } else {
            int what = chance(10) ? edge() : pick(-1, 71);
            compare("letter(" + i + ", " + what + ")", () -> house.letter(i, what), () -> model.letter(i, what));
        }
    }

    private void doReading() {
        int logger = logger();
        int dice = pick(0, 9);
        if (dice < 3) {
            int value = reading();
            compare("record(" + logger + ", " + value + ")", () -> house.record(logger, value), () -> model.record(logger, value));
        } else if (dice < 6) {
            doFill(logger, chance(10) ? pick(-1, 501) : pick(0, 20));
        } else if (dice < 7) {
            compare("size(" + logger + ")", () -> house.size(logger), () -> model.size(logger));
        } else if (dice < 8) {
            compare("crash(" + logger + ")", () -> house.crash(logger), () -> model.crash(logger));
        } else {
            compare("restart(" + logger + ")", () -> restarted(logger), () -> {
                model.restart(logger);
                return 0;
            });
        }
    }

    private long restarted(int logger) {
        house.restart(logger);
        return 0;
    }

    private void doFill(int logger, int many) {
        int from = reading();
        int step = chance(30) ? 0 : chance(10) ? random.nextInt() : pick(-9, 9);
        int mask = chance(40) ? 0 : chance(30) ? random.nextInt() : (1 << pick(0, 30)) - 1;
        String text = "fill(" + logger + ", " + many + ", " + from + ", " + step + ", " + mask + ")";
        compare(text, () -> house.fill(logger, many, from, step, mask), () -> model.fill(logger, many, from, step, mask));
    }

    private void doQuestion() {
        int question = question();
        int dice = pick(0, 9);
        if (dice < 3) {
            compare("resend(" + question + ")", () -> house.resend(question), () -> model.resend(question));
        } else if (dice < 5) {
            int driver = logger();
            String text = "takeOver(" + question + ", " + driver + ")";
            compare(text, () -> house.takeOver(question, driver), () -> model.takeOver(question, driver));
        } else if (dice < 8) {
            compareQuestion(question);
        } else {
            boolean ended = !Check.outcome(() -> model.answer(question)).startsWith("throws");
            if (ended || chance(20)) {
                compare("forget(" + question + ")", () -> house.forget(question), () -> model.forget(question));
            }
        }
    }

    private void compareAll() {
        compare("letters()", house::letters, model::letters);
        for (int i = 0; i < house.letters(); i++) {
            compareLetter(i);
        }
        for (int logger = 0; logger < 8; logger++) {
            int one = logger;
            compare("size(" + one + ")", () -> house.size(one), () -> model.size(one));
        }
        for (int question = Math.max(0, newest - 30); question <= newest + 1; question++) {
            compareQuestion(question);
        }
    }

    private void compareLetter(int i) {
        int behind = 8 + Math.min(62, house.letter(i, 6));
        for (int what = 0; what <= behind; what++) {
            int one = what;
            compare("letter(" + i + ", " + one + ")", () -> house.letter(i, one), () -> model.letter(i, one));
        }
    }

    private void compareQuestion(int question) {
        compare("state(" + question + ")", () -> house.state(question), () -> model.state(question));
        for (int what = -1; what <= 8; what++) {
            int one = what;
            compare("about(" + question + ", " + one + ")", () -> house.about(question, one), () -> model.about(question, one));
        }
        for (int logger = -1; logger <= 8; logger++) {
            int one = logger;
            compare("mark(" + one + ", " + question + ")", () -> house.mark(one, question), () -> model.mark(one, question));
        }
        compare("answer(" + question + ")", () -> house.answer(question), () -> model.answer(question));
        compare("found(" + question + ", false)", () -> house.found(question, false), () -> model.found(question, false));
        compare("found(" + question + ", true)", () -> house.found(question, true), () -> model.found(question, true));
        if (Check.outcome(() -> model.state(question)).equals("1")) {
            answered++;
            compare("answer(" + question + ") by its kind's words", () -> house.answer(question), () -> model.direct(question));
        }
    }

    private void compare(String call, Check.Call got, Check.Call want) {
        Check.due(name + call, Check.outcome(want), Check.outcome(got));
    }

    private int logger() {
        return chance(4) ? (chance(50) ? edge() : pick(-1, 8)) : pick(0, 7);
    }

    private int question() {
        return chance(4) ? edge() : pick(Math.max(1, newest - 8), Math.max(1, newest));
    }

    private int reading() {
        return chance(10) ? edge() : chance(20) ? random.nextInt() : pick(-40, 40) * (style == 1 ? 1 : 50);
    }

    private int edge() {
        return EDGES[random.nextInt(EDGES.length)];
    }

    private int pick(int least, int greatest) {
        return least + random.nextInt(greatest - least + 1);
    }

    private boolean chance(int percent) {
        return random.nextInt(100) < percent;
    }
}
