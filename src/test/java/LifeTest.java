/** An object is used for 512 calls: the last of them answers as the document says, whatever the others were. */
final class LifeTest {
    private static final int CALLS = 512;

    private LifeTest() {
    }

    public static void main(String[] args) {
        readingsToTheEnd();
        numbersToTheEnd();
        turnsToTheEnd();
        stepsToTheEnd();
        lettersOneByOne();
        refusalsToTheEnd();
        Check.end();
    }

    private static void readingsToTheEnd() {
        RankHouse house = new RankHouse();
        for (int call = 1; call <= CALLS; call++) {
            int logger = call <= 500 ? 6 : 7;
            Check.due("2: call " + call, call <= 500 ? call : call - 500, house.record(logger, -call));
        }
    }

    private static void numbersToTheEnd() {
        RankHouse house = new RankHouse();
        for (int number = 1; number < CALLS / 2; number++) {
            house.ask(number % 8, number % 5, 1, 1);
            house.forget(number);
        }
        Check.due("5: the call before the last", CALLS / 2, house.ask(0, 0, 1, 0));
        Check.due("16: the last call", 0, house.state(CALLS / 2));
    }

    private static void turnsToTheEnd() {
        RankHouse house = new RankHouse();
        house.ask(0, 0, 1, 0);
        for (int turn = 2; turn <= CALLS; turn++) {
            Check.due("13: TURN " + turn, turn, house.takeOver(1, turn % 8));
        }
    }

    /** Four questions at a time, with all the readings that an object may have. */
    private static void stepsToTheEnd() {
        RankHouse house = new RankHouse();
        for (int logger = 0; logger < 8; logger++) {
            house.fill(logger, 500, logger + 1, 8, 0);
        }
        int calls = 8;
        for (int number = 1; calls + 13 < CALLS; number += 4) {
            for (int i = 0; i < 4; i++) {
                house.ask(i, 0, number + i, 0);
            }
            house.run(1000);
            for (int i = 0; i < 4; i++) {
                Check.due("17: R(" + (number + i) + ")", number + i, house.answer(number + i));
            }
            for (int i = 0; i < 4; i++) {
                house.forget(number + i);
            }
            calls += 13;
        }
        Check.due("6: none on the way", 0, house.letters());
    }

    /** Nine calls before, ten behind: the letters' own are as many as fit between. */
    private static void lettersOneByOne() {
        RankHouse one = asking();
        RankHouse other = asking();
        int left = 8;
        for (int call = 10; call <= CALLS - 10; call++) {
            int came = left > 0 ? 1 : 0;
            left = left > 0 ? one.deliver(0) : 0;
            Check.due("11: as deliver(0)", came, other.run(1));
        }
        Check.due("8: how many are on the way", left, other.letters());
        Check.due("8 and 11: the same came of it", Look.about(one, 1), Look.about(other, 1));
        Check.due("8: several STEPs", true, one.about(1, 2) > 10);
    }

    private static RankHouse asking() {
        RankHouse house = new RankHouse();
        for (int logger = 0; logger < 8; logger++) {
            house.fill(logger, 500, logger * 1000, 1, 1023);
        }
        house.ask(5, 2, 123, 0);
        return house;
    }

    private static void refusalsToTheEnd() {
        RankHouse house = new RankHouse();
        for (int call = 1; call < CALLS; call++) {
            int one = call;
            Check.refused("5: call " + call, Check.ARGUMENT, () -> house.ask(one % 8, 2, 499 + one, 0));
        }
        Check.due("5: the last call is the first that is taken", 1, house.ask(0, 2, 499, 0));
    }
}
