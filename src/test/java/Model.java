import java.math.BigInteger;
import java.util.ArrayList;
import java.util.List;
import java.util.Map;
import java.util.TreeMap;
import java.util.TreeSet;

/** The document once more, told another way and from its beginning for each question. */
final class Model {
    final TreeMap<Integer, Told> lots = new TreeMap<>();
    final TreeSet<Integer> marks = new TreeSet<>();
    int level = 1;
    int quality = 1;
    boolean twice;
    boolean steady;
    int rate;
    int state;
    boolean skipping;

    static final class Told {
        int size;
        long findings;
        int verdict;
        int state;
        int inspected;
        int bad;
        boolean endsReduced;
    }

    int letter(int size) {
        int kind = size <= 8 ? 0 : size <= 15 ? 1 : size <= 50 ? 2
                : size <= 150 ? 3 : size <= 500 ? 4 : 5;
        int letter = kind + level;
        while (items(letter) > size) {
            letter--;
        }
        return letter;
    }

    static int items(int letter) {
        return List.of(2, 3, 5, 8, 13, 20, 32, 50).get(letter);
    }

    int sample(int size, int under) {
        int letter = letter(size);
        return under == 2 ? items(letter < 2 ? 0 : letter - 2) : items(letter);
    }

    int accepting(int size, int under) {
        int a = items(letter(size)) * (2 * quality + 1) / 40;
        return under == 0 ? a : Math.max(0, a - 1);
    }

    private static int badFrom(long findings, int from, int to) {
        int bad = 0;
        for (int item = from; item < to; item++) {
            if ((findings >> item & 1) == 1) {
                bad++;
            }
        }
        return bad;
    }

    private void inspect(Told lot, int under) {
        int n = sample(lot.size, under);
        int a = accepting(lot.size, under);
        lot.endsReduced = false;
        if (twice && under != 2 && n >= 5) {
            int first = (int) Math.ceil(n * 2 / 3.0);
            int inFirst = badFrom(lot.findings, 0, first);
            lot.inspected = first;
            lot.bad = inFirst;
            if (a >= 2 && inFirst <= a - 2) {
                lot.verdict = 1;
            } else if (inFirst > a) {
                lot.verdict = 0;
            } else {
                int second = Math.min(first, Math.min(lot.size - first, 50 - first));
                lot.inspected = first + second;
                lot.bad = inFirst + badFrom(lot.findings, first, first + second);
                lot.verdict = lot.bad <= a ? 1 : 0;
            }
            return;
        }
        lot.inspected = n;
        lot.bad = badFrom(lot.findings, 0, n);
        lot.verdict = lot.bad <= a ? 1 : 0;
        if (under == 2 && lot.bad == a + 1) {
            lot.verdict = 1;
            lot.endsReduced = true;
        }
    }

    private static <T> List<T> last(List<T> all, int many) {
        return all.subList(Math.max(0, all.size() - many), all.size());
    }

    private static int refused(List<Told> some) {
        return (int) some.stream().filter(lot -> lot.verdict == 0).count();
    }

    private int next(List<Told> since) {
        Told lot = since.get(since.size() - 1);
        if (state == 0 && refused(last(since, 5)) == 2) {
            return 1;
        }
        if (state == 0 && steady && since.size() >= 10 && refused(last(since, 10)) == 0
                && last(since, 10).stream().mapToInt(told -> told.bad).sum() <= 4) {
            return 2;
        }
        if (state == 1 && since.size() >= 5 && refused(last(since, 5)) == 0) {
            return 0;
        }
        if (state == 1 && refused(since) == 5) {
            return 3;
        }
        if (state == 2 && (lot.verdict == 0 || lot.endsReduced)) {
            return 0;
        }
        return state;
    }

    void workOut() {
        state = 0;
        skipping = false;
        int inRow = 0;
        int passedOver = 0;
        int stoppedBy = -1;
        List<Told> since = new ArrayList<>();
        for (Map.Entry<Integer, Told> entry : lots.entrySet()) {
            int order = entry.getKey();
            Told lot = entry.getValue();
            if (state == 3 && !marks.subSet(stoppedBy, false, order, true).isEmpty()) {
                state = 1;
                since.clear();
            }
            lot.state = state;
            if (state == 3 || skipping && passedOver < rate - 1) {
                passedOver++;
                lot.verdict = state == 3 ? 3 : 2;
                lot.inspected = 0;
                lot.bad = 0;
                continue;
            }
            passedOver = 0;
            inspect(lot, state);
            since.add(lot);
            int then = next(since);
            inRow = lot.verdict == 1 && lot.state != 1 ? inRow + 1 : 0;
            if (lot.verdict == 0 || then == 1) {
                skipping = false;
                inRow = 0;
            } else if (!skipping && rate != 0 && inRow == 8) {
                skipping = true;
            }
            if (then != state) {
                state = then;
                stoppedBy = order;
                since.clear();
            }
        }
    }

    static BigInteger choices(int items, int taken) {
        if (taken < 0 || items < 0 || taken > items) {
            return BigInteger.ZERO;
        }
        BigInteger above = BigInteger.ONE;
        BigInteger below = BigInteger.ONE;
        for (int i = 0; i < taken; i++) {
            above = above.multiply(BigInteger.valueOf(items - i));
            below = below.multiply(BigInteger.valueOf(i + 1));
        }
        return above.divide(below);
    }

    static long accepted(int size, int bad, int sample, int most) {
        BigInteger sum = BigInteger.ZERO;
        for (int found = 0; found <= most; found++) {
            sum = sum.add(choices(bad, found).multiply(choices(size - bad, sample - found)));
        }
        return sum.longValueExact();
    }

    static long acceptedTwice(int size, int bad, int sample, int most) {
        BigInteger sum = BigInteger.ZERO;
        for (int one = 0; one <= bad; one++) {
            for (int two = 0; two <= bad - one; two++) {
                if (most >= 2 && one <= most - 2 || one + two <= most) {
                    int goodLeft = size - bad - (sample - one);
                    sum = sum.add(choices(bad, one).multiply(choices(size - bad, sample - one))
                            .multiply(choices(bad - one, two))
                            .multiply(choices(goodLeft, sample - two)));
                }
            }
        }
        return sum.longValueExact();
    }
}
