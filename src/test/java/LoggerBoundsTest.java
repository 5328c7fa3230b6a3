/** Boundaries that the terms and promises 1 to 4, 14, 15 and 20 name for loggers, their readings and their marks. */
final class LoggerBoundsTest {
    private static final int LEAST = Scene.LEAST;
    private static final int GREATEST = Scene.GREATEST;

    private LoggerBoundsTest() {
    }

    public static void main(String[] args) {
        eachIsUpAtFirst();
        eachIsUpOrNot();
        fiveHundredOneByOne();
        fiveHundredAtOnce();
        anyIntIsAReading();
        inTheOrderInWhichTheyCame();
        markOfNone();
        markOfFiveHundred();
        markIsSetOnce();
        noMarkWithoutFreeze();
        theyStayWhenItStops();
        fillStepsWrapAround();
        fillTakesTheBitsOfTheMask();
        fillCountsFromZeroToTheLast();
        crashCounts();
        crashOfOneThatStopped();
        restartOfOneThatIsUp();
        Check.end();
    }

    private static void eachIsUpAtFirst() {
        for (int logger = 0; logger < 8; logger++) {
            RankHouse house = new RankHouse();
            Check.due("1: it has none", 0, house.size(logger));
            Check.due("1: it is UP for ask", 1, house.ask(logger, 1, 0, 9));
            Check.due("1: it is UP for a letter", 8, house.deliver(logger));
            Check.due("1: it is UP for takeOver", 2, house.takeOver(1, logger));
            Check.due("1: it is UP for record", 1, house.record(logger, 0));
        }
    }

    private static void eachIsUpOrNot() {
        for (int logger = 0; logger < 8; logger++) {
            RankHouse house = new RankHouse();
            int one = logger;
            house.ask((logger + 1) % 8, 1, 0, 9);
            house.crash(logger);
            for (int other = 0; other < 8; other++) {
                int size = other == logger ? 0 : 1;
                int asked = other;
                Check.due("14: that one alone stopped", size == 1 ? "1" : "throws." + Check.STATE,
                        Check.outcome(() -> house.record(asked, 0)));
                Check.due("14: size", size, house.size(other));
            }
            Check.refused("14: not UP for ask", Check.STATE, () -> house.ask(one, 1, 0, 9));
            Check.refused("14: not UP for takeOver", Check.STATE, () -> house.takeOver(1, one));
            Check.due("14: not UP for a letter", 7, house.deliver(logger));
            house.restart(logger);
            Check.due("15: UP for record", 1, house.record(logger, 0));
            Check.due("15: UP for ask", 2, house.ask(logger, 1, 0, 9));
            Check.due("15: UP for takeOver", 2, house.takeOver(1, logger));
        }
    }

    private static void fiveHundredOneByOne() {
        RankHouse house = new RankHouse();
        for (int many = 1; many <= 500; many++) {
            Check.due("2: reading " + many, many, house.record(7, many));
        }
        Check.refused("2: the 501st", Check.STATE, () -> house.record(7, 501));
        Check.due("4: 500 at most", 500, house.size(7));
        Check.due("2: the other ones have room", 1, house.record(6, 501));
        Check.due("2: all 500 are there", "500", Scene.answer(house, 0, 500, 0));
    }

    private static void fiveHundredAtOnce() {
        RankHouse house = new RankHouse();
        for (int logger = 0; logger < 8; logger++) {
            Check.due("3: 500 of logger " + logger, 500, house.fill(logger, 500, 500 * logger, 1, 0));
        }
        for (int logger = 0; logger < 8; logger++) {
            int one = logger;
            Check.refused("2: the 501st of logger " + logger, Check.STATE, () -> house.record(one, 1));
            Check.refused("3: the 501st of logger " + logger, Check.STATE, () -> house.fill(one, 1, 1, 1, 1));
            Check.due("3: none more", 500, house.fill(logger, 0, 1, 1, 1));
        }
        int question = Scene.asked(house, 0, 4000, 0);
        Check.due("19: n of eight that are full", 4000, house.about(question, 4));
        Check.due("17: the greatest of 4000", 3999, house.answer(question));
    }

    private static void anyIntIsAReading() {
        int[] edges = {GREATEST, -1, LEAST, 1, 0, GREATEST - 1, LEAST + 1};
        RankHouse house = Scene.of(edges);
        house.ask(0, 0, 1, 0);
        Scene.steps(house, 2);
        house.run(8);
        Check.due("2: any int", "-2147483648 -2147483647 -1 0 1 2147483646 2147483647", Scene.numbers(house, 0));
    }

    private static void inTheOrderInWhichTheyCame() {
        RankHouse house = Scene.of(new int[] {30, 20, 40});
        house.ask(0, 0, 1, 0);
        house.deliver(0);
        house.record(0, 10);
        house.record(0, 25);
        house.record(0, 50);
        house.run(1000);
        Check.due("20: the mark of then", 3, house.mark(0, 1));
        Check.due("17: the first three in the order in which they came", 20, house.answer(1));
        Check.due("19: n is the mark", 3, house.about(1, 4));
        Check.due("17: a later question has all six", "10", Scene.answer(house, 0, 1, 0));
        Check.due("17: up to the last", "50", Scene.answer(house, 0, 6, 0));
    }

    private static void markOfNone() {
        RankHouse house = new RankHouse();
        house.ask(0, 1, LEAST, GREATEST);
        house.run(8);
        for (int logger = 0; logger < 8; logger++) {
            Check.due("20: a mark of 0 is not NONE", 0, house.mark(logger, 1));
            Check.due("FROZEN tells 0", "0", Scene.numbers(house, logger));
            house.fill(logger, 500, 1, 1, 0);
        }
        house.run(1000);
        Check.due("16: readings behind the mark do not count", 2, house.state(1));
        Check.due("19: n is 0", 0, house.about(1, 4));
    }

    private static void markOfFiveHundred() {
        RankHouse house = new RankHouse();
        house.fill(3, 500, 1, 1, 0);
        house.ask(0, 1, LEAST, GREATEST);
        house.run(8);
        Check.due("20: 500", 500, house.mark(3, 1));
        Check.due("FROZEN tells 500", "500", Scene.numbers(house, 3));
        house.run(1000);
        Check.due("17: 500 are held", 500, house.answer(1));
    }

    private static void markIsSetOnce() {
        RankHouse house = Scene.of(new int[] {5});
        house.ask(0, 0, 1, 0);
        house.twin(0);
        house.deliver(0);
        house.record(0, 4);
        house.deliver(7);
        Check.due("20: a second FREEZE of the TURN", 1, house.mark(0, 1));
        Check.due("FROZEN tells the mark there is", "2 1 1 0 0 1 : 1", Look.letter(house, house.letters() - 1));
        house.takeOver(1, 1);
        house.run(1000);
        Check.due("20: a FREEZE of the next TURN", 1, house.mark(0, 1));
        Check.due("17: the reading that it froze", 5, house.answer(1));
    }

    private static void noMarkWithoutFreeze() {
        RankHouse house = Scene.of(new int[] {5});
        house.ask(0, 0, 1, 0);
        for (int logger = 0; logger < 8; logger++) {
            Check.due("20: NONE before a FREEZE came", RankHouse.NONE, house.mark(logger, 1));
        }
        house.deliver(3);
        for (int logger = 0; logger < 8; logger++) {
            Check.due("20: of that one alone", logger == 3 ? 0 : -1, house.mark(logger, 1));
        }
        house.lose(0);
        house.crash(1);
        house.deliver(0);
        Check.due("20: NONE when it was lost", RankHouse.NONE, house.mark(0, 1));
        Check.due("20: NONE when it came to one that is not UP", RankHouse.NONE, house.mark(1, 1));
    }

    private static void theyStayWhenItStops() {
        RankHouse house = Scene.of(new int[] {5, 9}, new int[] {7});
        house.ask(4, 0, 2, 0);
        house.run(8);
        for (int logger = 0; logger < 8; logger++) {
            house.crash(logger);
        }
        Check.due("4: readings stay", 2, house.size(0));
        Check.due("20: marks stay", 2, house.mark(0, 1));
        Check.due("20: a mark of 0 stays", 0, house.mark(2, 1));
        Check.due("19: 0 answered, as it is LOST", "4 1 1 0 0 0 0 0", Look.about(house, 1));
        for (int logger = 0; logger < 8; logger++) {
            house.restart(logger);
        }
        Check.due("2: a reading more", 3, house.record(0, 6));
        Check.due("20: the mark of before", 2, house.mark(0, 1));
        house.takeOver(1, 5);
        house.run(1000);
        Check.due("17: of the readings frozen before", 7, house.answer(1));
    }

    private static String filled(int many, int from, int step, int mask) {
        RankHouse house = new RankHouse();
        house.fill(4, many, from, step, mask);
        house.ask(0, 0, 1, 0);
        Scene.steps(house, 2);
        house.run(8);
        return Scene.numbers(house, 4);
    }

    private static void fillStepsWrapAround() {
        Check.due("3: one behind the greatest", LEAST + " " + GREATEST, filled(2, GREATEST, 1, 0));
        Check.due("3: one before the least", LEAST + " " + GREATEST, filled(2, LEAST, -1, 0));
        Check.due("3: steps of the least int", LEAST + " 0 0", filled(3, 0, LEAST, 0));
        Check.due("3: steps of the least int from itself", LEAST + " " + LEAST + " 0", filled(3, LEAST, LEAST, 0));
        Check.due("3: steps of the greatest int", "-4 -2 0 2147483645 2147483647", filled(5, 0, GREATEST, 0));
        Check.due("3: steps of 0", "-7 -7 -7", filled(3, -7, 0, 0));
        Check.due("3: one alone takes no step", "5", filled(1, 5, GREATEST, -1));
    }

    private static void fillTakesTheBitsOfTheMask() {
        Check.due("3: all bits", "0 40503 81006", filled(3, 0, 0, -1));
        Check.due("3: all bits of another", "-81007 -40504 -1", filled(3, -1, 0, -1));
        Check.due("3: the sign's bit alone is never set", "7 7 7", filled(3, 7, 0, LEAST));
        Check.due("3: all bits but the sign's", "0 40503 81006", filled(3, 0, 0, GREATEST));
        Check.due("3: the lowest bit", "8 8 9 9", filled(4, 8, 0, 1));
        Check.due("3: where bits differ is 1", "8 8 9 9", filled(4, 9, 0, 1));
        // 40503 and 81006 have the low four bits 0111 and 1110; 1 ^ 0111 and 2 ^ 1110.
        Check.due("3: steps go on from what had no bits upon it", "0 6 12", filled(3, 0, 1, 15));
        Check.due("3: bits upon a reading that wrapped around", (LEAST ^ 40503) + " " + GREATEST, filled(2, GREATEST, 1, -1));
    }

    private static void fillCountsFromZeroToTheLast() {
        RankHouse house = new RankHouse();
        house.fill(0, 500, 0, 0, -1);
        Check.due("3: k is 0 at first", "0", Scene.answer(house, 0, 1, 0));
        Check.due("3: then 1", "40503", Scene.answer(house, 0, 2, 0));
        Check.due("3: 499 at last", "20210997", Scene.answer(house, 0, 500, 0));
        house.fill(1, 2, 0, 0, -1);
        Check.due("3: from 0 again in the next call", "0", Scene.answer(house, 0, 2, 0));
        Check.due("3: and on from there", "40503", Scene.answer(house, 0, 4, 0));
    }

    private static void crashCounts() {
        RankHouse house = new RankHouse();
        for (int i = 0; i < 8; i++) {
            house.ask(2, 1, 0, 9);
        }
        Check.due("14: it drives none", 0, house.crash(3));
        Check.due("14: it drives eight", 8, house.crash(2));
        for (int question = 1; question <= 8; question++) {
            Check.due("14: LOST", 3, house.state(question));
        }
        Check.due("14: letters stay", 64, house.letters());
    }

    private static void crashOfOneThatStopped() {
        RankHouse house = new RankHouse();
        house.ask(2, 1, 0, 9);
        Check.due("14: the first time", 1, house.crash(2));
        Check.due("14: it stopped already", 0, house.crash(2));
        house.restart(2);
        Check.due("14: again, the question is LOST already", 0, house.crash(2));
        house.takeOver(1, 3);
        Check.due("14: another one drives it", 0, house.crash(2));
        Check.due("14: that one stops", 1, house.crash(3));
    }

    private static void restartOfOneThatIsUp() {
        RankHouse house = Scene.of(new int[] {5});
        house.ask(0, 0, 1, 0);
        house.run(11);
        String before = Look.at(house);
        house.restart(0);
        Check.due("15: nothing changes", before, Look.at(house));
        house.run(1000);
        Check.due("15: it goes on", 5, house.answer(1));
    }
}
