/** A new desk that counts its calls: what a desk answers behind the 512th is free, and would prove nothing. */
final class CountedDesk {
    private static final int CALLS = 512;

    private final LetterSeals desk = new LetterSeals();
    private int calls;

    boolean isUsedUp() {
        return calls >= CALLS;
    }

    String answer(Call call) {
        if (isUsedUp()) {
            throw new AssertionError("a desk got more than 512 calls");
        }
        calls++;
        return call.answerOf(desk);
    }
}
