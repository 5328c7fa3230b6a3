/** Boundaries of what each kind of question is answered: ranks, FLOORs, counts, and sums where an int would wrap around. */
final class KindBoundsTest {
    private static final int LEAST = Scene.LEAST;
    private static final int GREATEST = Scene.GREATEST;
    private static final int[] EDGES = {LEAST, LEAST + 1, -1, 0, 1, GREATEST - 1, GREATEST};

    private KindBoundsTest() {
    }

    public static void main(String[] args) {
        refusedWithoutReadings();
        refusedAboveN();
        otherKindsAreNotRefusedAboveN();
        firstAndLastRank();
        everyRankOfEqualReadings();
        readingsAtTheEdges();
        countsBetweenTheEdges();
        countsOfAll();
        trimsAtEachFloor();
        trimsWhereTheFloorGrows();
        trimsWithinEqualReadings();
        sumsThatWrapAround();
        sharesAtEachCount();
        sharesThatWrapAround();
        sharesAtTheEdges();
        spreadsAtEachFloor();
        spreadsWhereTheFloorGrows();
        spreadsThatWrapAround();
        Check.end();
    }

    private static void refusedWithoutReadings() {
        for (int kind = 0; kind <= 4; kind++) {
            RankHouse house = new RankHouse();
            Check.due("FREEZE: n is 0, kind " + kind, "REFUSED", Scene.answer(house, kind, 1, 1));
            house.record(5, 3);
            Check.due("FREEZE: n is 1, kind " + kind, true, !Scene.answer(house, kind, 1, 1).equals("REFUSED"));
        }
    }

    private static void refusedAboveN() {
        for (int n : new int[] {1, 2, 63, 64, 65, 499, 500, 501, 3999, 4000}) {
            RankHouse house = Scene.upTo(n);
            Check.due("FREEZE: a is n = " + n, Integer.toString(n), Scene.answer(house, 0, n, 0));
            Check.due("FREEZE: a is n + 1, n = " + n, "REFUSED", Scene.answer(house, 0, n + 1, 0));
            Check.due("FREEZE: a is the greatest int, n = " + n, "REFUSED", Scene.answer(house, 0, GREATEST, 0));
        }
    }

    private static void otherKindsAreNotRefusedAboveN() {
        RankHouse house = Scene.of(new int[] {8});
        Check.due("kind 1, a above n", "1", Scene.answer(house, 1, 8, GREATEST));
        Check.due("kind 2, a above n", "8", Scene.answer(house, 2, 499, 0));
        Check.due("kind 3, a above n", "1000000", Scene.answer(house, 3, GREATEST, 0));
        Check.due("kind 4, a above n", "0", Scene.answer(house, 4, 1000, 0));
    }

    private static void firstAndLastRank() {
        for (int n : new int[] {1, 2, 3, 64, 65, 66, 128, 129, 130, 500, 1000, 4000}) {
            RankHouse house = Scene.upTo(n);
            for (int rank : new int[] {1, 2, n / 2, (n + 1) / 2, n / 2 + 1, n - 1, n}) {
                if (rank >= 1 && rank <= n) {
                    Check.due("17: R(" + rank + ") of " + n, Integer.toString(rank), Scene.answer(house, 0, rank, 0));
                }
            }
        }
    }

    private static void everyRankOfEqualReadings() {
        RankHouse house = new RankHouse();
        house.fill(1, 40, 5, 0, 0);
        house.fill(2, 40, 5, 0, 0);
        house.fill(3, 1, 6, 0, 0);
        house.fill(4, 1, 4, 0, 0);
        Check.due("17: the one below", "4", Scene.answer(house, 0, 1, 0));
        Check.due("17: the first of the equal ones", "5", Scene.answer(house, 0, 2, 0));
        Check.due("17: the last of the equal ones", "5", Scene.answer(house, 0, 81, 0));
        Check.due("17: the one above", "6", Scene.answer(house, 0, 82, 0));
    }

    private static void readingsAtTheEdges() {
        RankHouse house = Scene.of(EDGES);
        for (int rank = 1; rank <= EDGES.length; rank++) {
            Check.due("17: R(" + rank + ")", Integer.toString(EDGES[rank - 1]), Scene.answer(house, 0, rank, 0));
        }
        for (int i = 0; i < EDGES.length; i++) {
            house.fill(i, 100, EDGES[i], 0, 0);
        }
        for (int i = 0; i < EDGES.length; i++) {
            String edge = Integer.toString(EDGES[i]);
            Check.due("17: the first of 101 times " + edge, edge, Scene.answer(house, 0, 101 * i + 1, 0));
            Check.due("17: the last of 101 times " + edge, edge, Scene.answer(house, 0, 101 * i + 101, 0));
        }
    }

    private static void countsBetweenTheEdges() {
        RankHouse house = Scene.of(EDGES);
        for (int i = 0; i < EDGES.length; i++) {
            for (int j = 0; j < EDGES.length; j++) {
                String text = "17: how many are " + EDGES[i] + " .. " + EDGES[j];
                Check.due(text, Integer.toString(Math.max(0, j - i + 1)), Scene.answer(house, 1, EDGES[i], EDGES[j]));
            }
        }
        Check.due("17: between two readings", "0", Scene.answer(house, 1, 2, GREATEST - 2));
    }

    private static void countsOfAll() {
        RankHouse house = Scene.upTo(4000);
        Check.due("17: all of 4000", "4000", Scene.answer(house, 1, LEAST, GREATEST));
        Check.due("17: all of them, just so", "4000", Scene.answer(house, 1, 1, 4000));
        Check.due("17: without the first", "3999", Scene.answer(house, 1, 2, 4000));
        Check.due("17: without the last", "3999", Scene.answer(house, 1, 1, 3999));
        Check.due("17: none below", "0", Scene.answer(house, 1, LEAST, 0));
        Check.due("17: none above", "0", Scene.answer(house, 1, 4001, GREATEST));
    }

    /** Readings i * i for i from 1 to n, one behind the other over the loggers. */
    private static RankHouse squares(int n) {
        RankHouse house = new RankHouse();
        for (int i = 1; i <= n; i++) {
            house.record(i * 5 % 8, i * i);
        }
        return house;
    }

    private static long squaresUpTo(long n) {
        return n * (n + 1) * (2 * n + 1) / 6;
    }

    private static void trimsAtEachFloor() {
        for (int n = 1; n <= 12; n++) {
            RankHouse house = squares(n);
            for (int a = 0; a <= 499; a++) {
                int trim = n * a / 1000;
                long sum = squaresUpTo(n - trim) - squaresUpTo(trim);
                Check.due("17: kind 2, n = " + n + ", a = " + a, Long.toString(sum), Scene.answer(house, 2, a, 0));
            }
        }
    }

    private static void trim(int n, int a, long first, long last) {
        RankHouse house = Scene.upTo(n);
        int question = Scene.asked(house, 2, a, 0);
        String text = "kind 2, n = " + n + ", a = " + a;
        Check.due("18: first, " + text, first, house.found(question, false));
        Check.due("18: last, " + text, last, house.found(question, true));
        Check.due("17: " + text, (first + last) * (last - first + 1) / 2, house.answer(question));
    }

    private static void trimsWhereTheFloorGrows() {
        trim(999, 1, 1, 999);
        trim(1000, 1, 2, 999);
        trim(1001, 1, 2, 1000);
        trim(1999, 1, 2, 1998);
        trim(2000, 1, 3, 1998);
        trim(4000, 0, 1, 4000);
        trim(4000, 499, 1997, 2004);
        trim(3999, 499, 1996, 2004);
        trim(500, 1, 1, 500);
        trim(500, 2, 2, 499);
        trim(501, 499, 250, 252);
        trim(500, 499, 250, 251);
    }

    private static void trimsWithinEqualReadings() {
        RankHouse house = Scene.of(new int[] {1, 1, 1, 1}, new int[] {9, 9, 9}, new int[] {20, 20, 20});
        Check.due("17: all", "91", Scene.answer(house, 2, 0, 0));
        Check.due("17: one of each end less", "70", Scene.answer(house, 2, 100, 0));
        Check.due("17: the last of the least, none of the greatest", "28", Scene.answer(house, 2, 300, 0));
        Check.due("17: within the equal ones, without ADD", "18", Scene.answer(house, 2, 400, 0));
        RankHouse two = Scene.of(new int[] {1, 1}, new int[] {2, 2});
        Check.due("17: none between the two", "6", Scene.answer(two, 2, 0, 0));
        Check.due("17: one of each", "3", Scene.answer(two, 2, 250, 0));
    }

    private static void sumsThatWrapAround() {
        for (int edge : new int[] {LEAST, GREATEST}) {
            RankHouse house = new RankHouse();
            for (int logger = 0; logger < 8; logger++) {
                house.fill(logger, 500, edge, 0, 0);
            }
            Check.due("17: 4000 times " + edge, Long.toString(4000L * edge), Scene.answer(house, 2, 0, 0));
            Check.due("17: 8 times " + edge, Long.toString(8L * edge), Scene.answer(house, 2, 499, 0));
        }
        RankHouse two = Scene.of(new int[] {GREATEST}, new int[] {GREATEST});
        Check.due("17: twice the greatest int", "4294967294", Scene.answer(two, 2, 0, 0));
        RankHouse ends = new RankHouse();
        ends.fill(0, 100, LEAST, 0, 0);
        ends.fill(1, 100, GREATEST, 0, 0);
        Check.due("17: x and y as often", "-100", Scene.answer(ends, 2, 0, 0));
        ends.fill(2, 50, GREATEST, 0, 0);
        Check.due("17: y more often", Long.toString(100L * LEAST + 150L * GREATEST), Scene.answer(ends, 2, 0, 0));
        RankHouse between = new RankHouse();
        between.record(0, LEAST);
        between.record(0, GREATEST);
        between.fill(1, 500, GREATEST - 1, 0, 0);
        between.fill(2, 500, GREATEST - 2, 0, 0);
        long sum = 500L * (GREATEST - 1) + 500L * (GREATEST - 2) - 1;
        Check.due("17: the sum between them", Long.toString(sum), Scene.answer(between, 2, 0, 0));
    }

    private static void sharesAtEachCount() {
        for (int n : new int[] {1, 2, 3, 7, 64, 999, 1000}) {
            RankHouse house = Scene.upTo(n);
            for (int c : new int[] {0, 1, n / 2, n - 1, n}) {
                String share = Long.toString(1000000L * c / n);
                Check.due("17: kind 3, " + c + " of " + n, share, Scene.answer(house, 3, c, 9));
            }
        }
        RankHouse three = Scene.upTo(3);
        Check.due("17: a third is cut off", "333333", Scene.answer(three, 3, 1, 0));
        Check.due("17: two thirds are cut off", "666666", Scene.answer(three, 3, 2, 0));
    }

    private static void sharesThatWrapAround() {
        RankHouse house = Scene.upTo(4000);
        Check.due("17: 1000000 c is an int", "536750", Scene.answer(house, 3, 2147, 0));
        Check.due("17: 1000000 c is above the ints", "537000", Scene.answer(house, 3, 2148, 0));
        Check.due("17: all but one", "999750", Scene.answer(house, 3, 3999, 0));
        Check.due("17: all", "1000000", Scene.answer(house, 3, 4000, 0));
    }

    private static void sharesAtTheEdges() {
        RankHouse house = Scene.of(new int[] {LEAST}, new int[] {LEAST + 1}, new int[] {GREATEST - 1}, new int[] {GREATEST});
        Check.due("17: the least int or less", "250000", Scene.answer(house, 3, LEAST, 0));
        Check.due("17: one more", "500000", Scene.answer(house, 3, LEAST + 1, 0));
        Check.due("17: 0 or less", "500000", Scene.answer(house, 3, 0, 0));
        Check.due("17: the greatest but one or less", "750000", Scene.answer(house, 3, GREATEST - 1, 0));
        Check.due("17: the greatest int or less", "1000000", Scene.answer(house, 3, GREATEST, 0));
        Check.due("17: b does not matter", "250000", Scene.answer(house, 3, LEAST, GREATEST));
    }

    private static void spreadsAtEachFloor() {
        for (int n = 1; n <= 12; n++) {
            RankHouse house = squares(n);
            for (int a = 0; a <= 1000; a++) {
                int m = (n + 1) / 2;
                int h = n * a / 2000;
                long last = m + h > n ? n : m + h;
                long first = m - h < 1 ? 1 : m - h;
                String spread = Long.toString(last * last - first * first);
                Check.due("17: kind 4, n = " + n + ", a = " + a, spread, Scene.answer(house, 4, a, 0));
            }
        }
    }

    private static void spread(int n, int a, int first, int last) {
        RankHouse house = Scene.upTo(n);
        int question = Scene.asked(house, 4, a, 0);
        String text = "kind 4, n = " + n + ", a = " + a;
        Check.due("18: first, " + text, first, house.found(question, false));
        Check.due("18: last, " + text, last, house.found(question, true));
        Check.due("17: " + text, last - first, house.answer(question));
    }

    private static void spreadsWhereTheFloorGrows() {
        spread(1, 1000, 1, 1);
        spread(2, 999, 1, 1);
        spread(2, 1000, 1, 2);
        spread(3, 1000, 1, 3);
        spread(1999, 1, 1000, 1000);
        spread(2000, 1, 999, 1001);
        spread(2001, 1, 1000, 1002);
        spread(4000, 0, 2000, 2000);
        spread(4000, 999, 2, 3998);
        spread(4000, 1000, 1, 4000);
        spread(3999, 1000, 1, 3999);
        spread(3999, 999, 3, 3997);
    }

    private static void spreadsThatWrapAround() {
        RankHouse house = Scene.of(new int[] {LEAST}, new int[] {GREATEST}, new int[] {0});
        int question = Scene.asked(house, 4, 1000, 0);
        Check.due("17: the greatest less the least int", 4294967295L, house.answer(question));
        Check.due("18: the least int", LEAST, house.found(question, false));
        Check.due("18: the greatest int", GREATEST, house.found(question, true));
        RankHouse one = Scene.of(new int[] {LEAST, LEAST});
        Check.due("17: the least less the least int", "0", Scene.answer(one, 4, 1000, 0));
        RankHouse over = Scene.of(new int[] {-1}, new int[] {GREATEST});
        Check.due("17: one more than the greatest int", "2147483648", Scene.answer(over, 4, 1000, 0));
    }
}
