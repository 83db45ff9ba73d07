import java.util.ArrayList;
import java.util.List;

/**
 * A new desk that counts its calls: what a desk answers behind the 512th is free, and would prove nothing.
 * It keeps them, too, so that all that can be asked behind them can be asked of other desks, and costs it no call.
 */
final class CountedDesk {
    private static final int CALLS = 512;

    private final LetterSeals desk = new LetterSeals();
    private final List<Call> calls = new ArrayList<>();
    private String picture;

    boolean isUsedUp() {
        return calls.size() >= CALLS;
    }

    /** What the call answers, as a text; an exception is told by its very class. */
    String answer(Call call) {
        try {
            return made(call).toString();
        } catch (RuntimeException thrown) {
            return "throws." + thrown.getClass().getSimpleName();
        }
    }

    /** Tells the answers of all that can be asked now. */
    String picture() {
        if (picture == null) {
            picture = Questions.allBehind(calls);
        }
        return picture;
    }

    private Object made(Call call) {
        if (isUsedUp()) {
            throw new AssertionError("a desk got more than 512 calls");
        }
        picture = null;
        calls.add(call);
        return call.made(desk);
    }

    private int number(String name, int... numbers) {
        return (int) made(Call.of(name, numbers));
    }

    int addLetter() {
        return number("addLetter");
    }

    int copyLetter(int letter) {
        return number("copyLetter", letter);
    }

    int write(int letter, int sign) {
        return number("write", letter, sign);
    }

    int erase(int letter) {
        return number("erase", letter);
    }

    int forge(int letter, int place) {
        return number("forge", letter, place);
    }

    int tear(int letter, int place) {
        return number("tear", letter, place);
    }

    int mend(int letter, int place, int sign) {
        return number("mend", letter, place, sign);
    }

    int seal(int letter) {
        return number("seal", letter);
    }

    int unseal() {
        return number("unseal");
    }

    int letters() {
        return number("letters");
    }

    int signsOf(int letter) {
        return number("signsOf", letter);
    }

    int commasOf(int letter) {
        return number("commasOf", letter);
    }

    int tearsOf(int letter) {
        return number("tearsOf", letter);
    }

    int digestOf(int letter) {
        return number("digestOf", letter);
    }

    int signAt(int letter, int place) {
        return number("signAt", letter, place);
    }

    int sumOf(int letter, int from, int length) {
        return number("sumOf", letter, from, length);
    }

    int sameSums(int letter, int length) {
        return number("sameSums", letter, length);
    }

    int falseAlarms(int letter, int length) {
        return number("falseAlarms", letter, length);
    }

    int firstOf(int letter, int other) {
        return number("firstOf", letter, other);
    }

    int doubles() {
        return number("doubles");
    }

    int envelopes() {
        return number("envelopes");
    }

    int letterIn(int envelope) {
        return number("letterIn", envelope);
    }

    int digestIn(int envelope) {
        return number("digestIn", envelope);
    }

    int sealOf(int envelope) {
        return number("sealOf", envelope);
    }

    boolean isWhole(int envelope) {
        return (boolean) made(Call.of("isWhole", envelope));
    }

    int firstBroken() {
        return number("firstBroken");
    }

    int tornBlocks(int envelope) {
        return number("tornBlocks", envelope);
    }

    int firstTorn(int envelope) {
        return number("firstTorn", envelope);
    }

    int changedPlace(int envelope) {
        return number("changedPlace", envelope);
    }

    int changedSign(int envelope) {
        return number("changedSign", envelope);
    }

    int wouldSeal(int letter) {
        return number("wouldSeal", letter);
    }

    int unnoticed(int letter) {
        return number("unnoticed", letter);
    }

    int worstTear(int letter) {
        return number("worstTear", letter);
    }

    double meanSigns() {
        return (double) made(Call.of("meanSigns"));
    }

    long digest() {
        return (long) made(Call.of("digest"));
    }
}
