/** Boundaries of each kind of letter, and of how the driver goes on behind it. */
final class AskingBoundsTest {
    private static final int LEAST = Scene.LEAST;
    private static final int GREATEST = Scene.GREATEST;
    private static final String ALL = LEAST + " " + GREATEST;

    private AskingBoundsTest() {
    }

    public static void main(String[] args) {
        oneToEachAlsoToItself();
        notBeforeTheEighth();
        behindFreeze();
        partOfEachCount();
        partAtTheEndsOfTheSpan();
        partOfNoneWithinTheSpan();
        giveUpToSixtyFour();
        sixtyFourBehindACut();
        halfOfOpen();
        toldTwice();
        theZeroOfNone();
        pivotAtTheEdges();
        sidesOfThePivot();
        whereTheRankLies();
        spansAtTheEdges();
        ranksBehindSeveralCuts();
        givenAtTheEdges();
        heldAtTheEdges();
        addedAtTheEdges();
        addedSumsThatWrapAround();
        addIsNotAskedOfOne();
        bothSearches();
        Check.end();
    }

    private static void oneToEachAlsoToItself() {
        for (int driver = 0; driver < 8; driver++) {
            RankHouse house = Scene.of(new int[] {3});
            house.ask(driver, 1, 5, 4);
            for (int to = 0; to < 8; to++) {
                Check.due("FREEZE to " + to, "1 1 1 " + driver + " " + to + " 1 :", Look.letter(house, to));
            }
            house.run(16);
            for (int to = 0; to < 8; to++) {
                Check.due("HOLD to " + to, "9 1 2 " + driver + " " + to + " 1 : 5 4", Look.letter(house, to));
            }
        }
    }

    private static void notBeforeTheEighth() {
        for (int last = 0; last < 8; last++) {
            RankHouse house = Scene.of(new int[] {3});
            house.ask(2, 1, 0, 9);
            house.run(8);
            for (int came = 1; came <= 7; came++) {
                house.deliver(last == 0 ? 1 : came <= last ? 0 : 1);
                Check.due("it waits for " + last, "2 1 1 0 0 0 1 " + came, Look.about(house, 1));
            }
            Check.due("it is the one that is left", last, house.letter(0, 3));
            Check.due("it goes on", 8, house.deliver(0));
            Check.due("STEP grows by 1", "2 1 2 0 1 0 9 0", Look.about(house, 1));
        }
    }

    private static String asks(int kind, int a, int b) {
        RankHouse house = Scene.of(new int[] {3}, new int[] {4});
        house.ask(0, kind, a, b);
        Scene.steps(house, 1);
        return house.letters() == 0 ? "state " + house.state(1) : house.letter(7, 0) + ": " + Scene.numbers(house, 7);
    }

    private static void behindFreeze() {
        Check.due("kind 0 asks SPLIT", "3: " + ALL, asks(0, 2, 0));
        Check.due("kind 0, a above n", "state 2", asks(0, 3, 0));
        Check.due("kind 1 asks HOLD", "9: " + GREATEST + " " + LEAST, asks(1, GREATEST, LEAST));
        Check.due("kind 2 asks SPLIT", "3: " + ALL, asks(2, 499, 0));
        Check.due("kind 3 asks HOLD from the least int", "9: " + LEAST + " " + LEAST, asks(3, LEAST, 7));
        Check.due("kind 3 up to a", "9: " + ALL, asks(3, GREATEST, 7));
        Check.due("kind 4 asks SPLIT", "3: " + ALL, asks(4, 1000, 0));
    }

    /** The PART, or what comes behind it, of a logger that has the readings, all others having none. */
    private static RankHouse split(int logger, int count) {
        RankHouse house = new RankHouse();
        house.fill(logger, count, 1, 1, 0);
        house.record((logger + 1) % 8, 9999);
        house.ask(0, 0, 1, 0);
        house.run(24);
        return house;
    }

    private static void partOfEachCount() {
        int[][] told = {{0, 0}, {1, 1}, {2, 1}, {3, 2}, {4, 2}, {5, 3}, {63, 32}, {64, 32}, {499, 250}, {500, 250}};
        for (int[] one : told) {
            RankHouse house = split(6, one[0]);
            Check.due("PART of " + one[0], one[0] + " " + one[1], Scene.numbers(house, 6));
            Check.due("PART of one", "1 9999", Scene.numbers(house, 7));
            Check.due("PART of none is 0", "0 0", Scene.numbers(house, 3));
        }
    }

    private static void partAtTheEndsOfTheSpan() {
        RankHouse house = Scene.of(new int[] {GREATEST, LEAST}, new int[] {GREATEST}, new int[] {LEAST, LEAST});
        house.ask(0, 0, 1, 0);
        house.run(24);
        Check.due("PART of both ends", "2 " + LEAST, Scene.numbers(house, 0));
        Check.due("PART of the greatest int", "1 " + GREATEST, Scene.numbers(house, 1));
        Check.due("PART of the least int", "2 " + LEAST, Scene.numbers(house, 2));
    }

    private static void partOfNoneWithinTheSpan() {
        RankHouse house = new RankHouse();
        house.fill(0, 100, 1, 1, 0);
        house.fill(1, 3, 10, 1, 0);
        house.fill(2, 3, 90, 1, 0);
        house.ask(0, 0, 1, 0);
        // The PIVOT is 50, of 106.
        house.run(48 + 8);
        Check.due("PART: all are above high", "0 0", Scene.numbers(house, 2));
        Check.due("PART: high is the last that counts", "49 25", Scene.numbers(house, 0));
        house.ask(0, 0, 106, 0);
        house.forget(1);
        house.run(48 + 8);
        Check.due("PART: all are below low", "0 0", Scene.numbers(house, 1));
        Check.due("PART: low is the first that counts", "50 75", Scene.numbers(house, 0));
    }

    private static void giveUpToSixtyFour() {
        for (int n = 1; n <= 70; n++) {
            RankHouse house = new RankHouse();
            for (int i = 0; i < n; i++) {
                house.record(i % 8, i);
            }
            house.ask(7, 0, n, 0);
            Scene.steps(house, 2);
            Check.due("OPEN is " + n, "7 1 3 0 " + n + " " + n + " " + (n <= 64 ? 7 : 5) + " 0", Look.about(house, 1));
            house.run(1000);
            Check.due("found", n - 1, house.answer(1));
        }
    }

    private static void behindOneCut(int n, int rank, String about, String asked) {
        RankHouse house = new RankHouse();
        house.fill(5, n, 1, 1, 0);
        house.ask(0, 0, rank, 0);
        Scene.steps(house, 4);
        Check.due("rank " + rank + " of " + n, about, Look.about(house, 1));
        Check.due("rank " + rank + " of " + n + " asks", asked, house.letter(5, 0) + ": " + Scene.numbers(house, 5));
        house.run(1000);
        Check.due("rank " + rank + " of " + n + " is found", rank, house.answer(1));
    }

    private static void sixtyFourBehindACut() {
        // The PIVOT is the ((n + 1) / 2)-th.
        behindOneCut(129, 64, "0 1 5 1 129 64 7 0", "7: " + LEAST + " 64");
        behindOneCut(129, 1, "0 1 5 1 129 64 7 0", "7: " + LEAST + " 64");
        behindOneCut(131, 65, "0 1 5 1 131 65 5 0", "5: " + LEAST + " 65 33");
        behindOneCut(129, 66, "0 1 5 1 129 64 7 0", "7: 66 " + GREATEST);
        behindOneCut(129, 129, "0 1 5 1 129 64 7 0", "7: 66 " + GREATEST);
        behindOneCut(130, 66, "0 1 5 1 130 65 5 0", "5: 66 " + GREATEST + " 98");
    }

    /** The PIVOT when each logger has so many of one reading. */
    private static String pivot(int[]... countAndReading) {
        RankHouse house = new RankHouse();
        for (int logger = 0; logger < countAndReading.length; logger++) {
            house.fill(logger, countAndReading[logger][0], countAndReading[logger][1], 0, 0);
        }
        house.ask(0, 0, 1, 0);
        Scene.steps(house, 2);
        return Look.letter(house, 7);
    }

    private static String cut(int pivot) {
        return "5 1 3 0 7 1 : " + ALL + " " + pivot;
    }

    private static void halfOfOpen() {
        Check.due("PIVOT: 40 are half of 80", cut(5), pivot(new int[] {40, 5}, new int[] {40, 9}));
        Check.due("PIVOT: 40 are more than half of 79", cut(5), pivot(new int[] {40, 5}, new int[] {39, 9}));
        Check.due("PIVOT: 40 are less than half of 81", cut(9), pivot(new int[] {40, 5}, new int[] {41, 9}));
        Check.due("PIVOT: 40 are half of 80, the greater one first", cut(5), pivot(new int[] {40, 9}, new int[] {40, 5}));
        Check.due("PIVOT: 40 are less than half of 81, the greater one first", cut(9), pivot(new int[] {41, 9}, new int[] {40, 5}));
        Check.due("PIVOT: the last of eight", cut(8), pivot(new int[] {9, 1}, new int[] {9, 2}, new int[] {9, 3},
                new int[] {9, 4}, new int[] {9, 5}, new int[] {9, 6}, new int[] {9, 7}, new int[] {64, 8}));
        Check.due("PIVOT: the fourth of eight", cut(4), pivot(new int[] {9, 8}, new int[] {9, 7}, new int[] {9, 6},
                new int[] {9, 5}, new int[] {9, 4}, new int[] {9, 3}, new int[] {9, 2}, new int[] {9, 1}));
    }

    private static void toldTwice() {
        Check.due("PIVOT: the counts of equal ones together", cut(5),
                pivot(new int[] {20, 5}, new int[] {40, 9}, new int[] {20, 5}));
        Check.due("PIVOT: and less than half together", cut(9),
                pivot(new int[] {20, 5}, new int[] {41, 9}, new int[] {20, 5}));
        Check.due("PIVOT: all tell the same", cut(-3), pivot(new int[] {50, -3}, new int[] {50, -3}, new int[] {1, -3}));
    }

    private static void theZeroOfNone() {
        Check.due("PIVOT: 0 of none above all", cut(-7), pivot(new int[] {40, -9}, new int[] {41, -7}));
        Check.due("PIVOT: 0 of none below all", cut(7), pivot(new int[] {41, 7}, new int[] {40, 9}));
        Check.due("PIVOT: 0 of none in between, not yet half", cut(7), pivot(new int[] {40, -7}, new int[] {41, 7}));
        Check.due("PIVOT: 0 of none in between, half before", cut(-7), pivot(new int[] {40, -7}, new int[] {40, 7}));
        Check.due("PIVOT: 0 of one that has some", cut(0), pivot(new int[] {30, -7}, new int[] {1, 7}, new int[] {40, 0}));
    }

    private static void pivotAtTheEdges() {
        Check.due("PIVOT: the least int", cut(LEAST), pivot(new int[] {40, LEAST}, new int[] {40, GREATEST}));
        Check.due("PIVOT: the greatest int", cut(GREATEST), pivot(new int[] {40, LEAST}, new int[] {41, GREATEST}));
        Check.due("PIVOT: the least int alone", cut(LEAST), pivot(new int[] {65, LEAST}));
        Check.due("PIVOT: the greatest int alone", cut(GREATEST), pivot(new int[] {65, GREATEST}));
        Check.due("PIVOT: of 4000", cut(LEAST), pivot(new int[] {500, LEAST}, new int[] {500, LEAST}, new int[] {500, LEAST},
                new int[] {500, LEAST}, new int[] {500, 1}, new int[] {500, 2}, new int[] {500, 3}, new int[] {500, GREATEST}));
    }

    private static void sidesOfThePivot() {
        RankHouse least = new RankHouse();
        least.fill(0, 60, LEAST, 0, 0);
        least.fill(1, 30, GREATEST, 0, 0);
        least.ask(0, 0, 60, 0);
        least.run(40);
        Check.due("SIDES: none is below the least int", "0 60", Scene.numbers(least, 0));
        Check.due("SIDES: all are above", "0 0", Scene.numbers(least, 1));
        Check.due("SIDES of none", "0 0", Scene.numbers(least, 2));
        least.run(8);
        Check.due("ROUNDS grows by 1, the least int is found", LEAST, least.answer(1));
        Check.due("behind the CUT", "0 1 3 1 90 90 0 0", Look.about(least, 1));
        RankHouse greatest = new RankHouse();
        greatest.fill(0, 60, GREATEST, 0, 0);
        greatest.fill(1, 30, GREATEST - 1, 0, 0);
        greatest.ask(0, 0, 31, 0);
        greatest.run(40);
        Check.due("SIDES: none is above the greatest int", "0 60", Scene.numbers(greatest, 0));
        Check.due("SIDES: all are below", "30 0", Scene.numbers(greatest, 1));
        greatest.run(8);
        Check.due("the greatest int is found", GREATEST, greatest.answer(1));
    }

    private static String behindTheCut(int rank) {
        RankHouse house = new RankHouse();
        house.fill(3, 40, 1, 0, 0);
        house.fill(3, 10, 5, 0, 0);
        house.fill(3, 40, 9, 0, 0);
        house.ask(0, 0, rank, 0);
        Scene.steps(house, 3);
        String about = Look.about(house, 1);
        String letter = house.letters() == 0 ? "found " + house.answer(1) : house.letter(0, 0) + ": " + Scene.numbers(house, 0);
        return letter + ", about " + about;
    }

    private static void whereTheRankLies() {
        // x is 40, y is 10.
        String below = "3: " + LEAST + " 4, about 0 1 4 1 90 40 3 0";
        String found = "found 5, about 0 1 3 1 90 90 0 0";
        String above = "3: 6 " + GREATEST + ", about 0 1 4 1 90 40 3 0";
        Check.due("CUT: k is 1", below, behindTheCut(1));
        Check.due("CUT: k is x", below, behindTheCut(40));
        Check.due("CUT: k is x + 1", found, behindTheCut(41));
        Check.due("CUT: k is x + y", found, behindTheCut(50));
        Check.due("CUT: k is x + y + 1", above, behindTheCut(51));
        Check.due("CUT: k is n", above, behindTheCut(90));
    }

    private static String spanBehindTheCut(int less, int manyLess, int greater, int manyGreater, int rank) {
        RankHouse house = new RankHouse();
        house.fill(1, manyLess, less, 0, 0);
        house.fill(1, manyGreater, greater, 0, 0);
        house.ask(0, 0, rank, 0);
        Scene.steps(house, 3);
        String span = Scene.numbers(house, 0);
        house.run(1000);
        return span + ", found " + house.answer(1);
    }

    private static void spansAtTheEdges() {
        Check.due("high is PIVOT - 1, the least int", LEAST + " " + LEAST + ", found " + LEAST,
                spanBehindTheCut(LEAST, 40, LEAST + 1, 60, 40));
        Check.due("low is PIVOT + 1, the greatest int", GREATEST + " " + GREATEST + ", found " + GREATEST,
                spanBehindTheCut(GREATEST - 1, 60, GREATEST, 40, 61));
        Check.due("high is the greatest int less 1", LEAST + " " + (GREATEST - 1) + ", found " + LEAST,
                spanBehindTheCut(LEAST, 40, GREATEST, 60, 40));
        Check.due("low is the least int and 1", (LEAST + 1) + " " + GREATEST + ", found " + GREATEST,
                spanBehindTheCut(LEAST, 60, GREATEST, 40, 61));
    }

    private static void ranksBehindSeveralCuts() {
        RankHouse house = new RankHouse();
        house.fill(6, 500, 1, 1, 0);
        house.ask(0, 0, 400, 0);
        Scene.steps(house, 3);
        Check.due("above 250", "0 1 4 1 500 250 3 0: 251 " + GREATEST, Look.about(house, 1) + ": " + Scene.numbers(house, 0));
        Scene.steps(house, 2);
        Check.due("above 375", "0 1 6 2 500 125 3 0: 376 " + GREATEST, Look.about(house, 1) + ": " + Scene.numbers(house, 0));
        Scene.steps(house, 2);
        Check.due("below 438", "0 1 8 3 500 62 3 0: 376 437", Look.about(house, 1) + ": " + Scene.numbers(house, 0));
        Scene.steps(house, 1);
        Check.due("GIVE", "0 1 9 3 500 62 7 0: 376 437", Look.about(house, 1) + ": " + Scene.numbers(house, 0));
        house.run(8);
        Check.due("GIVEN has those of the span", 62, house.letter(6, 6));
        Check.due("the least first", 376, house.letter(6, 7));
        Check.due("the last", 437, house.letter(6, 68));
        house.run(8);
        Check.due("the (rank - B)-th of them", 400, house.answer(1));
        Check.due("STEP, ROUNDS and OPEN stay", "0 1 9 3 500 62 0 0", Look.about(house, 1));
    }

    private static void givenAtTheEdges() {
        RankHouse house = Scene.of(new int[] {GREATEST, LEAST, 0, LEAST}, new int[] {7, 7, -7});
        house.ask(0, 0, 7, 0);
        house.run(40);
        Check.due("GIVEN, the least first", LEAST + " " + LEAST + " 0 " + GREATEST, Scene.numbers(house, 0));
        Check.due("GIVEN, each as often as it is there", "-7 7 7", Scene.numbers(house, 1));
        Check.due("GIVEN of none", "", Scene.numbers(house, 2));
        house.run(8);
        Check.due("the last of all that were given", GREATEST, house.answer(1));
        RankHouse full = new RankHouse();
        for (int logger = 0; logger < 8; logger++) {
            full.fill(logger, 8, 100 - logger, 0, 0);
        }
        Check.due("64 of eight, the first", "93", Scene.answer(full, 0, 1, 0));
        Check.due("64 of eight, the last of the least", "93", Scene.answer(full, 0, 8, 0));
        Check.due("64 of eight, the first of the next", "94", Scene.answer(full, 0, 9, 0));
        Check.due("64 of eight, the 64th", "100", Scene.answer(full, 0, 64, 0));
    }

    private static String held(int a, int b) {
        RankHouse house = Scene.of(new int[] {LEAST, -1, 0, 0, 1, GREATEST});
        house.fill(1, 500, 3, 0, 0);
        house.ask(0, 1, a, b);
        house.run(24);
        return Scene.numbers(house, 0) + ", " + Scene.numbers(house, 1) + ", " + Scene.numbers(house, 2);
    }

    private static void heldAtTheEdges() {
        Check.due("HELD: all ints", "6, 500, 0", held(LEAST, GREATEST));
        Check.due("HELD: the least int alone", "1, 0, 0", held(LEAST, LEAST));
        Check.due("HELD: the greatest int alone", "1, 0, 0", held(GREATEST, GREATEST));
        Check.due("HELD: low and high are among them", "4, 0, 0", held(-1, 1));
        Check.due("HELD: one reading, twice there", "2, 0, 0", held(0, 0));
        Check.due("HELD: low above high", "0, 0, 0", held(1, 0));
        Check.due("HELD: the greatest to the least", "0, 0, 0", held(GREATEST, LEAST));
        Check.due("HELD: 500", "0, 500, 0", held(3, 3));
    }

    /** ADDED of the first three loggers, a question of kind 2 being asked about all readings. */
    private static String added(int[]... rows) {
        RankHouse house = Scene.of(rows);
        house.ask(0, 2, 0, 0);
        Scene.steps(house, 5);
        String asked = Look.letter(house, 0);
        house.run(8);
        return asked + ", " + Scene.numbers(house, 0) + ", " + Scene.numbers(house, 1) + ", " + Scene.numbers(house, 2);
    }

    private static void addedAtTheEdges() {
        Check.due("ADDED: x and y do not count as between", "11 1 6 0 0 1 : 1 4, 0 2 2 5, 0 0 0 0, 0 0 0 0",
                added(new int[] {1, 4, 2, 1, 3, 4}));
        Check.due("ADDED: none between two neighbours", "11 1 6 0 0 1 : 7 8, 0 1 0 0, 0 0 0 0, 0 0 0 0",
                added(new int[] {7}, new int[] {8}));
        Check.due("ADDED: from the least to the greatest int", "11 1 6 0 0 1 : " + ALL + ", 0 1 0 0, 0 0 0 0, 0 0 2 0",
                added(new int[] {LEAST}, new int[] {GREATEST}, new int[] {-1, 1}));
        Check.due("ADDED: next to the least and the greatest int", "11 1 6 0 0 1 : " + ALL + ", 0 1 2 -1, 0 0 0 0, 0 0 0 0",
                added(new int[] {LEAST, LEAST + 1, GREATEST - 1}, new int[] {GREATEST}));
        RankHouse house = Scene.of(new int[] {1, 2, 3, 4, 5, 6, 7, 8, 9, 10});
        house.ask(0, 2, 200, 0);
        Scene.steps(house, 5);
        house.run(8);
        Check.due("ADDED: how many are below x", "2 1 4 22", Scene.numbers(house, 0));
    }

    private static void addedSumsThatWrapAround() {
        String head = "11 1 6 0 0 1 : " + ALL + ", ";
        Check.due("ADDED: a sum of 2147483648", head + "0 1 0 0, 0 0 2 " + LEAST + ", 0 0 0 0",
                added(new int[] {LEAST, GREATEST}, new int[] {GREATEST - 1, 2}));
        Check.due("ADDED: a sum of 4294967296", head + "0 1 0 0, 0 0 3 0, 0 0 0 0",
                added(new int[] {LEAST, GREATEST}, new int[] {GREATEST - 1, GREATEST - 1, 4}));
        Check.due("ADDED: a sum of -2147483649", head + "0 1 0 0, 0 0 2 " + GREATEST + ", 0 0 0 0",
                added(new int[] {LEAST, GREATEST}, new int[] {LEAST + 1, -2}));
        Check.due("ADDED: a sum of 2147483647", head + "0 1 0 0, 0 0 2 " + GREATEST + ", 0 0 0 0",
                added(new int[] {LEAST, GREATEST}, new int[] {GREATEST - 1, 1}));
        RankHouse house = Scene.of(new int[] {LEAST, GREATEST}, new int[] {GREATEST - 1, GREATEST - 1, 4});
        Check.due("17: the answer has the whole sum", "4294967295", Scene.answer(house, 2, 0, 0));
    }

    private static void addIsNotAskedOfOne() {
        RankHouse house = Scene.of(new int[] {6}, new int[] {6});
        house.ask(0, 2, 0, 0);
        Scene.steps(house, 5);
        Check.due("x is y: no letter", 0, house.letters());
        Check.due("x is y: ANSWERED", 12, house.answer(1));
        Check.due("x is y: STEP", "0 1 5 0 2 2 0 0", Look.about(house, 1));
        house.record(2, 7);
        house.ask(0, 2, 0, 0);
        Scene.steps(house, 5);
        Check.due("x is below y: ADD", 11, house.letter(0, 0));
        house.run(1000);
        Check.due("x is below y: ANSWERED", 19, house.answer(2));
    }

    private static void bothSearches() {
        RankHouse house = new RankHouse();
        house.fill(0, 101, 0, 1, 0);
        house.ask(4, 4, 1000, 0);
        Scene.steps(house, 5);
        Check.due("the last SEARCH begins again", "4 1 6 1 101 101 3 0", Look.about(house, 1));
        Check.due("with all ints", ALL, Scene.numbers(house, 0));
        house.run(1000);
        Check.due("ROUNDS of both", "4 1 9 2 101 50 0 0", Look.about(house, 1));
        Check.due("kind 4 asks no ADD", 0, house.letters());
        Check.due("the last less the first", 100, house.answer(1));
    }
}
