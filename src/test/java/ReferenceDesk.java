import java.util.ArrayList;
import java.util.List;

/**
 * A second desk, written from the document's words alone and without a thought for speed:
 * what would be is found by doing it to a copy of the signs.
 */
final class ReferenceDesk {
    private record Sealed(int letter, List<Integer> signs) {
    }

    private final List<List<Integer>> letters = new ArrayList<>();
    private final List<Sealed> envelopes = new ArrayList<>();

    /** Answers the call of this name, or throws what the document wants. */
    Object call(String name, int a, int b, int c) {
        return switch (name) {
            case "addLetter" -> addLetter(List.of());
            case "copyLetter" -> addLetter(letter(a));
            case "write" -> write(a, b);
            case "erase" -> erase(a);
            case "forge" -> put(a, b, 27);
            case "tear" -> put(a, b, 30);
            case "mend" -> mend(a, b, c);
            case "seal" -> seal(a);
            case "unseal" -> unseal();
            case "letters" -> letters.size();
            case "signsOf" -> letter(a).size();
            case "commasOf" -> count(letter(a), 27);
            case "tearsOf" -> count(letter(a), 30);
            case "digestOf" -> digest(letter(a));
            case "signAt" -> letterWithPlace(a, b).get(b);
            case "sumOf" -> sumOf(a, b, c);
            case "sameSums" -> pairs(a, b, false);
            case "falseAlarms" -> pairs(a, b, true);
            case "firstOf" -> firstOf(letter(a), withSigns(letter(b)));
            case "doubles" -> doubles();
            case "envelopes" -> envelopes.size();
            case "letterIn" -> envelope(a).letter;
            case "digestIn" -> digest(envelope(a).signs);
            case "sealOf" -> sealOf(a);
            case "isWhole" -> isWhole(envelope(a));
            case "firstBroken" -> firstBroken();
            case "tornBlocks" -> torn(envelope(a)).size();
            case "firstTorn" -> firstTorn(envelope(a));
            case "changedPlace" -> changed(envelope(a))[0];
            case "changedSign" -> changedSign(envelope(a));
            case "wouldSeal" -> wouldSeal(a);
            case "unnoticed" -> unnoticed(letter(a));
            case "worstTear" -> worstTear(letter(a));
            case "meanSigns" -> meanSigns();
            case "digest" -> checksum();
            default -> throw new AssertionError(name);
        };
    }

    private List<Integer> letter(int letter) {
        bounds(letter >= 0 && letter < letters.size());
        return letters.get(letter);
    }

    private List<Integer> letterWithPlace(int letter, int place) {
        bounds(place >= 0 && place < letter(letter).size());
        return letter(letter);
    }

    private Sealed envelope(int envelope) {
        bounds(envelope >= 0 && envelope < envelopes.size());
        return envelopes.get(envelope);
    }

    private static List<Integer> withSigns(List<Integer> signs) {
        state(!signs.isEmpty());
        return signs;
    }

    private static void bounds(boolean fine) {
        if (!fine) {
            throw new IndexOutOfBoundsException();
        }
    }

    private static void argument(boolean fine) {
        if (!fine) {
            throw new IllegalArgumentException();
        }
    }

    private static void state(boolean fine) {
        if (!fine) {
            throw new IllegalStateException();
        }
    }

    private int addLetter(List<Integer> signs) {
        state(letters.size() < 12);
        letters.add(new ArrayList<>(signs));
        return letters.size() - 1;
    }

    private int write(int letter, int sign) {
        List<Integer> signs = letter(letter);
        argument(sign >= 0 && sign <= 29);
        state(signs.size() < 40);
        signs.add(sign);
        return signs.size();
    }

    private int erase(int letter) {
        List<Integer> signs = withSigns(letter(letter));
        return signs.remove(signs.size() - 1);
    }

    private int put(int letter, int place, int sign) {
        List<Integer> signs = letterWithPlace(letter, place);
        state(signs.get(place) != sign);
        return signs.set(place, sign);
    }

    private int mend(int letter, int place, int sign) {
        List<Integer> signs = letterWithPlace(letter, place);
        argument(sign >= 0 && sign <= 29);
        state(signs.get(place) == 30);
        signs.set(place, sign);
        return count(signs, 30);
    }

    private int seal(int letter) {
        List<Integer> signs = letter(letter);
        state(envelopes.size() < 24);
        envelopes.add(new Sealed(letter, List.copyOf(withSigns(signs))));
        return envelopes.size() - 1;
    }

    private int unseal() {
        state(!envelopes.isEmpty());
        int seal = chained(envelopes.size() - 1);
        envelopes.remove(envelopes.size() - 1);
        return seal;
    }

    private static int count(List<Integer> signs, int sign) {
        return (int) signs.stream().filter(s -> s == sign).count();
    }

    private static int digest(List<Integer> signs) {
        return rolled(signs, 5, 37, 8191);
    }

    private static int rolled(List<Integer> signs, int start, int factor, int divisor) {
        int sum = start;
        for (int sign : signs) {
            sum = (sum * factor + sign + 1) % divisor;
        }
        return sum;
    }

    private int sumOf(int letter, int from, int length) {
        List<Integer> signs = letter(letter);
        argument(length >= 1 && from >= 0 && (long) from + length <= signs.size());
        return rolled(signs.subList(from, from + length), 0, 7, 97);
    }

    private int pairs(int letter, int length, boolean otherSigns) {
        List<Integer> signs = letter(letter);
        argument(length >= 1 && length <= 40);
        int pairs = 0;
        for (int one = 0; one + length <= signs.size(); one++) {
            List<Integer> window = signs.subList(one, one + length);
            for (int two = one + 1; two + length <= signs.size(); two++) {
                List<Integer> other = signs.subList(two, two + length);
                boolean sameSum = rolled(window, 0, 7, 97) == rolled(other, 0, 7, 97);
                pairs += sameSum && !(otherSigns && window.equals(other)) ? 1 : 0;
            }
        }
        return pairs;
    }

    private static int firstOf(List<Integer> signs, List<Integer> sought) {
        return java.util.Collections.indexOfSubList(signs, sought);
    }

    private int doubles() {
        int pairs = 0;
        for (int one = 0; one < letters.size(); one++) {
            for (int two = 0; two < one; two++) {
                boolean same = letters.get(one).equals(letters.get(two));
                pairs += !same && digest(letters.get(one)) == digest(letters.get(two)) ? 1 : 0;
            }
        }
        return pairs;
    }

    private int sealOf(int envelope) {
        envelope(envelope);
        return chained(envelope);
    }

    private int chained(int envelope) {
        int seal = 1;
        for (int i = 0; i <= envelope; i++) {
            seal = (53 * seal + digest(envelopes.get(i).signs)) % 65521;
        }
        return seal;
    }

    private boolean isWhole(Sealed envelope) {
        return digest(letters.get(envelope.letter)) == digest(envelope.signs);
    }

    private int firstBroken() {
        for (int i = 0; i < envelopes.size(); i++) {
            if (!isWhole(envelopes.get(i))) {
                return i;
            }
        }
        return -1;
    }

    private static List<Integer> blocks(List<Integer> signs) {
        List<Integer> sums = new ArrayList<>();
        for (int place = 0; place < signs.size(); place++) {
            if (place % 5 == 0) {
                sums.add(0);
            }
            sums.set(place / 5, sums.get(place / 5) + signs.get(place) * (place % 5 + 1));
        }
        sums.replaceAll(sum -> sum % 32);
        return sums;
    }

    private List<Integer> torn(Sealed envelope) {
        List<Integer> then = blocks(envelope.signs);
        List<Integer> now = blocks(letters.get(envelope.letter));
        List<Integer> torn = new ArrayList<>();
        for (int block = 0; block < Math.max(then.size(), now.size()); block++) {
            if (block >= then.size() || block >= now.size() || !then.get(block).equals(now.get(block))) {
                torn.add(block);
            }
        }
        return torn;
    }

    private int firstTorn(Sealed envelope) {
        return torn(envelope).isEmpty() ? -1 : torn(envelope).get(0);
    }

    private static int sum(List<Integer> signs, boolean byPlace) {
        int sum = 0;
        for (int place = 0; place < signs.size(); place++) {
            sum += signs.get(place) * (byPlace ? place + 1 : 1);
        }
        return sum;
    }

    /** Returns the place and the sign; tries every other sign at every place, and demands that there is but one. */
    private int[] changed(Sealed envelope) {
        List<Integer> signs = new ArrayList<>(letters.get(envelope.letter));
        int[] found = {-1, -1};
        if (isWhole(envelope) || signs.size() != envelope.signs.size()) {
            return found;
        }
        for (int place = 0; place < signs.size(); place++) {
            int now = signs.get(place);
            for (int sign = 0; sign <= 30; sign++) {
                signs.set(place, sign);
                boolean both = sum(signs, false) == sum(envelope.signs, false)
                    && sum(signs, true) == sum(envelope.signs, true);
                if (sign != now && both) {
                    if (found[0] >= 0) {
                        throw new AssertionError("two places");
                    }
                    found = new int[] {place, sign};
                }
            }
            signs.set(place, now);
        }
        return found;
    }

    private int changedSign(Sealed envelope) {
        state(changed(envelope)[0] != -1);
        return changed(envelope)[1];
    }

    private int wouldSeal(int letter) {
        List<Integer> signs = withSigns(letter(letter));
        envelopes.add(new Sealed(letter, List.copyOf(signs)));
        return unseal();
    }

    private static int unnoticed(List<Integer> signs) {
        int places = 0;
        for (int place = 0; place < signs.size(); place++) {
            List<Integer> forged = new ArrayList<>(signs);
            boolean canBe = forged.set(place, 27) != 27;
            places += canBe && blocks(forged).equals(blocks(signs)) ? 1 : 0;
        }
        return places;
    }

    private static int worstTear(List<Integer> signs) {
        int worst = -1;
        int most = -1;
        for (int place = 0; place < signs.size(); place++) {
            List<Integer> torn = new ArrayList<>(signs);
            boolean canBe = torn.set(place, 30) != 30;
            int change = Math.abs(digest(torn) - digest(signs));
            if (canBe && change > most) {
                most = change;
                worst = place;
            }
        }
        return worst;
    }

    private double meanSigns() {
        return letters.stream().mapToInt(List::size).average().orElse(0);
    }

    private long checksum() {
        List<Integer> numbers = new ArrayList<>(List.of(letters.size(), envelopes.size(), doubles(), firstBroken()));
        for (int i = 0; i < letters.size(); i++) {
            List<Integer> signs = letters.get(i);
            numbers.addAll(List.of(signs.size(), count(signs, 27), count(signs, 30), digest(signs),
                pairs(i, 2, false), pairs(i, 2, true), unnoticed(signs), worstTear(signs)));
        }
        for (int i = 0; i < envelopes.size(); i++) {
            Sealed envelope = envelopes.get(i);
            numbers.addAll(List.of(envelope.letter, digest(envelope.signs), chained(i), isWhole(envelope) ? 1 : 0,
                torn(envelope).size(), firstTorn(envelope), changed(envelope)[0]));
        }
        long d = 1979;
        for (int number : numbers) {
            d = d * 31 + number;
        }
        return d;
    }
}
