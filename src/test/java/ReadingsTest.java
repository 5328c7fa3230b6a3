/** Promises 1 to 4: a new object, record, fill, size. */
final class ReadingsTest {
    private ReadingsTest() {
    }

    public static void main(String[] args) {
        aNewObject();
        recordCounts();
        recordRefuses();
        fillCounts();
        fillMakesReadings();
        fillWrapsAround();
        fillRefuses();
        sizeOfEach();
        Check.end();
    }

    private static void aNewObject() {
        RankHouse house = new RankHouse();
        Check.due("1: letters()", 0, house.letters());
        for (int logger = 0; logger < 8; logger++) {
            Check.due("1: size(" + logger + ")", 0, house.size(logger));
            Check.due("1: crash(" + logger + ") of an UP logger without questions", 0, new RankHouse().crash(logger));
            Check.due("1: logger " + logger + " is UP", 1, house.record(logger, 5));
        }
        Check.refused("1: state(1)", Check.OUTSIDE, () -> house.state(1));
        Check.due("1: the first question's number", 1, house.ask(0, 0, 1, 0));
        RankHouse other = new RankHouse();
        Check.due("1: objects share nothing", 0, other.size(0) + other.letters());
    }

    private static void recordCounts() {
        RankHouse house = new RankHouse();
        Check.due("2: first record", 1, house.record(2, Integer.MIN_VALUE));
        Check.due("2: second record", 2, house.record(2, Integer.MAX_VALUE));
        Check.due("2: record of another logger", 1, house.record(7, 0));
        Check.due("2: size", 2, house.size(2));
        house.fill(2, 497, 0, 0, 0);
        Check.due("2: the 500th", 500, house.record(2, 9));
        Look.refused(house, "2: the 501st", Check.STATE, () -> house.record(2, 9));
    }

    private static void recordRefuses() {
        RankHouse house = new RankHouse();
        house.crash(3);
        Look.refused(house, "2: record(8, 1)", Check.OUTSIDE, () -> house.record(8, 1));
        Look.refused(house, "2: record(-1, 1)", Check.OUTSIDE, () -> house.record(-1, 1));
        Look.refused(house, "2: record of a logger that stopped", Check.STATE, () -> house.record(3, 1));
        house.restart(3);
        Check.due("2: record after restart", 1, house.record(3, 1));
    }

    private static void fillCounts() {
        RankHouse house = new RankHouse();
        Check.due("3: fill of none", 0, house.fill(0, 0, 1, 1, 1));
        Check.due("3: fill of 3", 3, house.fill(0, 3, 1, 1, 1));
        Check.due("3: fill of 497 more", 500, house.fill(0, 497, 1, 1, 1));
        Check.due("3: fill of none when full", 500, house.fill(0, 0, 1, 1, 1));
        Check.due("3: fill of 500", 500, house.fill(1, 500, 1, 1, 1));
        Check.due("3: the others have none", 0, house.size(2));
    }

    private static void fillMakesReadings() {
        RankHouse house = new RankHouse();
        house.fill(4, 5, 10, -3, 0);
        Check.due("3: 10, 7, 4, 1, -2", "-2 1 4 7 10", given(house));
        RankHouse masked = new RankHouse();
        masked.fill(4, 3, 10, 1, 255);
        // k * 40503 has the low eight bits 0, 55, 110; 10 ^ 0, 11 ^ 55, 12 ^ 110.
        Check.due("3: bits put upon them", "10 60 98", given(masked));
        masked.fill(4, 2, 100, 0, 255);
        Check.due("3: k is 0 again in each call", "10 60 83 98 100", given(masked));
        RankHouse negative = new RankHouse();
        negative.fill(4, 2, 0, -1, -1);
        Check.due("3: a negative mask has all bits", (-1 ^ 40503) + " 0", given(negative));
    }

    private static void fillWrapsAround() {
        RankHouse house = new RankHouse();
        house.fill(4, 2, Integer.MAX_VALUE, 1, 0);
        Check.due("3: sums wrap around", Integer.MIN_VALUE + " " + Integer.MAX_VALUE, given(house));
    }

    /** The readings of logger 4 as its GIVEN letter tells them. */
    private static String given(RankHouse house) {
        house.ask(4, 0, 1, 0);
        house.run(32);
        house.run(8);
        String letter = Look.letter(house, 4);
        house.run(1000);
        return letter.substring(letter.indexOf(": ") + 2);
    }

    private static void fillRefuses() {
        RankHouse house = new RankHouse();
        house.fill(0, 499, 5, 1, 0);
        house.crash(1);
        Look.refused(house, "3: no such logger goes before many", Check.OUTSIDE, () -> house.fill(8, 501, 1, 1, 1));
        Look.refused(house, "3: fill(-1, ..)", Check.OUTSIDE, () -> house.fill(-1, 1, 1, 1, 1));
        Look.refused(house, "3: many = 501 goes before a logger that stopped", Check.ARGUMENT, () -> house.fill(1, 501, 1, 1, 1));
        Look.refused(house, "3: many = -1", Check.ARGUMENT, () -> house.fill(0, -1, 1, 1, 1));
        Look.refused(house, "3: a logger that stopped", Check.STATE, () -> house.fill(1, 0, 1, 1, 1));
        Look.refused(house, "3: 501 in all", Check.STATE, () -> house.fill(0, 2, 1, 1, 1));
        Look.refused(house, "3: the greatest int", Check.ARGUMENT, () -> house.fill(0, Integer.MAX_VALUE, 1, 1, 1));
        Check.due("3: 500 in all", 500, house.fill(0, 1, 1, 1, 1));
    }

    private static void sizeOfEach() {
        RankHouse house = new RankHouse();
        for (int logger = 0; logger < 8; logger++) {
            house.fill(logger, 10 * logger, 0, 1, 0);
        }
        house.crash(5);
        for (int logger = 0; logger < 8; logger++) {
            Check.due("4: size(" + logger + ")", 10 * logger, house.size(logger));
        }
        Look.refused(house, "4: size(8)", Check.OUTSIDE, () -> house.size(8));
        Look.refused(house, "4: size(-1)", Check.OUTSIDE, () -> house.size(-1));
    }
}
