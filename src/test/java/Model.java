import java.util.ArrayList;
import java.util.Collections;
import java.util.List;
import java.util.TreeMap;

/**
 * The document's terms, written down as plainly as can be: whole rows are looked through for each letter.
 * It shares nothing with RankHouse, so that a fault of one is not the fault of both.
 */
final class Model {
    private static final class Message {
        final int kind;
        final int question;
        final int turn;
        final int step;
        final int from;
        final int to;
        final long[] numbers;

        Message(int kind, Asked asked, int turn, int step, int from, int to, long... numbers) {
            this.kind = kind;
            this.question = asked.number;
            this.turn = turn;
            this.step = step;
            this.from = from;
            this.to = to;
            this.numbers = numbers;
        }
    }

    private static final class Asked {
        int number;
        int kind;
        int a;
        int b;
        int driver;
        int turn;
        int step;
        int rounds;
        int state;
        int n;
        int open;
        int asks;
        long[] numbers = {};
        Integer[] marks = new Integer[8];
        Message[] came = new Message[8];
        int rank;
        boolean last;
        int before;
        int low;
        int high;
        int pivot;
        int[] foundAt = new int[2];
        long result;

        int howManyCame() {
            int many = 0;
            for (Message one : came) {
                many += one == null ? 0 : 1;
            }
            return many;
        }

        long sum(int k) {
            long sum = 0;
            for (Message one : came) {
                sum += one.numbers[k];
            }
            return sum;
        }

        int rankOf(boolean isLast) {
            int trim = n * a / 1000;
            int middle = (n + 1) / 2;
            int reach = n * a / 2000;
            if (kind == 2) {
                return isLast ? n - trim : trim + 1;
            }
            if (kind == 4) {
                return isLast ? Math.min(n, middle + reach) : Math.max(1, middle - reach);
            }
            return a;
        }
    }

    private final List<List<Integer>> readings = new ArrayList<>();
    private final boolean[] up = new boolean[8];
    private final TreeMap<Integer, Asked> questions = new TreeMap<>();
    private final List<Message> way = new ArrayList<>();
    private int numbers = 0;

    Model() {
        for (int i = 0; i < 8; i++) {
            readings.add(new ArrayList<>());
            up[i] = true;
        }
    }

    int record(int logger, int value) {
        return fill(logger, 1, value, 0, 0);
    }

    int fill(int logger, int many, int from, int step, int mask) {
        List<Integer> row = rowOf(logger);
        argument(many >= 0 && many <= 500);
        condition(up[logger] && row.size() + many <= 500);
        int next = from;
        for (int k = 0; k < many; k++) {
            int bits = k * 40503 & mask;
            row.add((next | bits) & ~(next & bits));
            next += step;
        }
        return row.size();
    }

    int size(int logger) {
        return rowOf(logger).size();
    }

    int ask(int driver, int kind, int a, int b) {
        rowOf(driver);
        argument(kind >= 0 && kind <= 4);
        argument(kind != 0 || a >= 1);
        argument(kind != 2 || a >= 0 && a < 500);
        argument(kind != 4 || a >= 0 && a <= 1000);
        condition(up[driver] && questions.size() < 8);
        Asked asked = new Asked();
        asked.number = ++numbers;
        asked.kind = kind;
        asked.a = a;
        asked.b = b;
        questions.put(asked.number, asked);
        return startTurn(asked, driver).number;
    }

    int letters() {
        return way.size();
    }

    int letter(int i, int what) {
        Message one = messageOf(i);
        argument(what >= 0 && what <= 70);
        int[] heads = {one.kind, one.question, one.step, one.from, one.to, one.turn, one.numbers.length};
        if (what < heads.length) {
            return heads[what];
        }
        int k = what - heads.length;
        return k < one.numbers.length ? (int) one.numbers[k] : 0;
    }

    int deliver(int i) {
        messageOf(i);
        come(way.remove(i));
        return way.size();
    }

    int lose(int i) {
        messageOf(i);
        way.remove(i);
        return way.size();
    }

    boolean twin(int i) {
        Message one = messageOf(i);
        boolean room = way.size() < 96;
        send(one);
        return room;
    }

    int run(int many) {
        argument(many >= 0 && many <= 1000);
        int often = 0;
        for (; often < many && !way.isEmpty(); often++) {
            come(way.remove(0));
        }
        return often;
    }

    int resend(int question) {
        Asked asked = askedOf(question);
        condition(asked.state == 0);
        return sendToThoseLeft(asked);
    }

    int takeOver(int question, int driver) {
        Asked asked = askedOf(question);
        rowOf(driver);
        condition(up[driver] && (asked.state == 0 || asked.state == 3));
        return startTurn(asked, driver).turn;
    }

    int crash(int logger) {
        rowOf(logger);
        up[logger] = false;
        int lost = 0;
        for (Asked asked : questions.values()) {
            if (asked.driver == logger && asked.state == 0) {
                asked.state = 3;
                lost++;
            }
        }
        return lost;
    }

    void restart(int logger) {
        rowOf(logger);
        up[logger] = true;
    }

    int state(int question) {
        return askedOf(question).state;
    }

    long answer(int question) {
        Asked asked = askedOf(question);
        condition(asked.state == 1);
        return asked.result;
    }

    int found(int question, boolean last) {
        Asked asked = askedOf(question);
        condition(asked.state == 1 && (asked.kind == 2 || asked.kind == 4));
        return asked.foundAt[last ? 1 : 0];
    }

    int about(int question, int what) {
        Asked asked = askedOf(question);
        argument(what >= 0 && what <= 7);
        int asks = asked.state == 0 ? asked.asks : 0;
        int came = asked.state == 0 ? asked.howManyCame() : 0;
        int[] all = {asked.driver, asked.turn, asked.step, asked.rounds, asked.n, asked.open, asks, came};
        return all[what];
    }

    int mark(int logger, int question) {
        rowOf(logger);
        Integer mark = askedOf(question).marks[logger];
        return mark == null ? -1 : mark;
    }

    int forget(int question) {
        askedOf(question);
        questions.remove(question);
        way.removeIf(one -> one.question == question);
        return questions.size();
    }

    /** What the kinds' own words say of the frozen readings, without any letter. */
    long direct(int question) {
        Asked asked = askedOf(question);
        List<Integer> all = new ArrayList<>();
        for (int i = 0; i < 8; i++) {
            all.addAll(readings.get(i).subList(0, asked.marks[i]));
        }
        Collections.sort(all);
        long total = 0;
        for (int k = 1; k <= all.size(); k++) {
            long reading = all.get(k - 1);
            if (asked.kind == 2) {
                total += k >= asked.rankOf(false) && k <= asked.rankOf(true) ? reading : 0;
            } else if (asked.kind == 1) {
                total += reading >= asked.a && reading <= asked.b ? 1 : 0;
            } else if (asked.kind == 3) {
                total += reading <= asked.a ? 1 : 0;
            }
        }
        if (asked.kind == 0) {
            return all.get(asked.a - 1);
        }
        if (asked.kind == 4) {
            return (long) all.get(asked.rankOf(true) - 1) - all.get(asked.rankOf(false) - 1);
        }
        return asked.kind == 3 ? total * 1000000 / all.size() : total;
    }

    private List<Integer> rowOf(int logger) {
        exists(logger >= 0 && logger < 8);
        return readings.get(logger);
    }

    private Asked askedOf(int question) {
        exists(questions.containsKey(question));
        return questions.get(question);
    }

    private Message messageOf(int i) {
        exists(i >= 0 && i < way.size());
        return way.get(i);
    }

    private static void exists(boolean held) {
        if (!held) {
            throw new IndexOutOfBoundsException();
        }
    }

    private static void argument(boolean held) {
        if (!held) {
            throw new IllegalArgumentException();
        }
    }

    private static void condition(boolean held) {
        if (!held) {
            throw new IllegalStateException();
        }
    }

    private void send(Message one) {
        if (way.size() < 96) {
            way.add(one);
        }
    }

    private Asked startTurn(Asked asked, int driver) {
        asked.driver = driver;
        asked.turn++;
        asked.step = 0;
        asked.rounds = 0;
        asked.n = 0;
        asked.open = 0;
        asked.state = 0;
        asks(asked, 1);
        return asked;
    }

    private void asks(Asked asked, int kind, long... with) {
        asked.step++;
        asked.asks = kind;
        asked.numbers = with;
        asked.came = new Message[8];
        sendToThoseLeft(asked);
    }

    private int sendToThoseLeft(Asked asked) {
        int many = 0;
        for (int to = 0; to < 8; to++) {
            if (asked.came[to] == null) {
                send(new Message(asked.asks, asked, asked.turn, asked.step, asked.driver, to, asked.numbers));
                many++;
            }
        }
        return many;
    }

    private void come(Message one) {
        Asked asked = questions.get(one.question);
        if (!up[one.to] || asked == null) {
            return;
        }
        if (one.kind % 2 == 1) {
            answerTo(one, asked);
            return;
        }
        boolean counts = asked.driver == one.to && asked.state == 0 && asked.turn == one.turn;
        if (counts && asked.step == one.step && asked.came[one.from] == null) {
            asked.came[one.from] = one;
            if (asked.howManyCame() == 8) {
                goOn(asked);
            }
        }
    }

    private void answerTo(Message one, Asked asked) {
        List<Integer> row = readings.get(one.to);
        if (one.kind == 1 && asked.marks[one.to] == null) {
            asked.marks[one.to] = row.size();
        }
        if (asked.marks[one.to] != null) {
            List<Integer> frozen = new ArrayList<>(row.subList(0, asked.marks[one.to]));
            Collections.sort(frozen);
            long[] told = told(one.kind, one.numbers, frozen);
            send(new Message(one.kind + 1, asked, one.turn, one.step, one.to, one.from, told));
        }
    }

    private static long[] told(int kind, long[] with, List<Integer> frozen) {
        if (kind == 1) {
            return new long[] {frozen.size()};
        }
        if (kind == 5) {
            return new long[] {within(frozen, with[0], with[2] - 1).length, within(frozen, with[2], with[2]).length};
        }
        long[] inside = within(frozen, with[0], with[1]);
        if (kind == 3) {
            return new long[] {inside.length, inside.length == 0 ? 0 : inside[(inside.length + 1) / 2 - 1]};
        }
        if (kind == 7) {
            return inside;
        }
        if (kind == 9) {
            return new long[] {inside.length};
        }
        long[] between = within(frozen, with[0] + 1, with[1] - 1);
        long sum = 0;
        for (long one : between) {
            sum += one;
        }
        int below = within(frozen, Long.MIN_VALUE, with[0] - 1).length;
        return new long[] {below, within(frozen, with[0], with[0]).length, between.length, sum};
    }

    private static long[] within(List<Integer> frozen, long low, long high) {
        return frozen.stream().mapToLong(Integer::longValue).filter(one -> one >= low && one <= high).toArray();
    }

    private void goOn(Asked asked) {
        if (asked.asks == 1) {
            asked.n = (int) asked.sum(0);
            boolean refused = asked.n == 0 || asked.kind == 0 && asked.a > asked.n;
            if (refused) {
                asked.state = 2;
            } else if (asked.kind == 1) {
                asks(asked, 9, asked.a, asked.b);
            } else if (asked.kind == 3) {
                asks(asked, 9, Integer.MIN_VALUE, asked.a);
            } else {
                search(asked, false);
            }
        } else if (asked.asks == 3) {
            afterSplit(asked);
        } else if (asked.asks == 5) {
            afterCut(asked);
        } else if (asked.asks == 7) {
            List<Long> all = new ArrayList<>();
            for (Message one : asked.came) {
                for (long reading : one.numbers) {
                    all.add(reading);
                }
            }
            Collections.sort(all);
            found(asked, all.get(asked.rank - asked.before - 1).intValue());
        } else if (asked.asks == 9) {
            end(asked, asked.kind == 1 ? asked.sum(0) : asked.sum(0) * 1000000 / asked.n);
        } else {
            long ofFirst = asked.sum(0) + asked.sum(1) - asked.rankOf(false) + 1;
            long ofLast = asked.rankOf(true) - asked.sum(0) - asked.sum(1) - asked.sum(2);
            end(asked, ofFirst * asked.foundAt[0] + asked.sum(3) + ofLast * asked.foundAt[1]);
        }
    }

    private void search(Asked asked, boolean last) {
        asked.last = last;
        asked.rank = asked.rankOf(last);
        asked.before = 0;
        asked.low = Integer.MIN_VALUE;
        asked.high = Integer.MAX_VALUE;
        asked.open = asked.n;
        asks(asked, 3, asked.low, asked.high);
    }

    private void afterSplit(Asked asked) {
        asked.open = (int) asked.sum(0);
        if (asked.open <= 64) {
            asks(asked, 7, asked.low, asked.high);
            return;
        }
        List<Long> told = new ArrayList<>();
        for (Message one : asked.came) {
            told.add(one.numbers[1]);
        }
        Collections.sort(told);
        for (long p : told) {
            long counts = 0;
            for (Message one : asked.came) {
                counts += one.numbers[1] <= p ? one.numbers[0] : 0;
            }
            if (2 * counts >= asked.open) {
                asked.pivot = (int) p;
                asks(asked, 5, asked.low, asked.high, asked.pivot);
                return;
            }
        }
    }

    private void afterCut(Asked asked) {
        asked.rounds++;
        int k = asked.rank - asked.before;
        int x = (int) asked.sum(0);
        int y = (int) asked.sum(1);
        if (k <= x) {
            asked.high = asked.pivot - 1;
            asked.open = x;
            asks(asked, 3, asked.low, asked.high);
        } else if (k <= x + y) {
            found(asked, asked.pivot);
        } else {
            asked.low = asked.pivot + 1;
            asked.before += x + y;
            asked.open -= x + y;
            asks(asked, 3, asked.low, asked.high);
        }
    }

    private void found(Asked asked, int reading) {
        asked.foundAt[asked.last ? 1 : 0] = reading;
        if (asked.kind == 0) {
            end(asked, reading);
        } else if (!asked.last) {
            search(asked, true);
        } else if (asked.kind == 4) {
            end(asked, (long) asked.foundAt[1] - asked.foundAt[0]);
        } else if (asked.foundAt[0] == asked.foundAt[1]) {
            end(asked, (long) (asked.rankOf(true) - asked.rankOf(false) + 1) * reading);
        } else {
            asks(asked, 11, asked.foundAt[0], asked.foundAt[1]);
        }
    }

    private static void end(Asked asked, long result) {
        asked.state = 1;
        asked.result = result;
    }
}
