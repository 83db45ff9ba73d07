/** Long runs of calls, right and wrong ones, each answered as ReferenceDesk answers it. */
public final class RandomRunsTest {
    private static final int RUNS = 1500;
    private static final int CALLS = 512;
    private static final String[] CHANGES = {"addLetter", "copyLetter", "write", "write", "write", "write", "write",
        "write", "erase", "forge", "tear", "mend", "seal", "seal", "seal", "unseal"};
    private static final String[] QUESTIONS = {"letters", "signsOf", "commasOf", "tearsOf", "digestOf", "signAt",
        "sumOf", "sameSums", "falseAlarms", "firstOf", "doubles", "envelopes", "letterIn", "digestIn", "sealOf",
        "isWhole", "firstBroken", "tornBlocks", "firstTorn", "changedPlace", "changedSign", "changedSign",
        "wouldSeal", "unnoticed", "worstTear", "meanSigns", "digest"};
    private static final int[] ODD = {-1, 12, 24, 30, 31, 40, 41, Integer.MAX_VALUE, Integer.MIN_VALUE};

    private final Check check = new Check();
    private long seed = 20261119;

    public static void main(String[] args) {
        RandomRunsTest test = new RandomRunsTest();
        for (int run = 0; run < RUNS; run++) {
            test.run(run);
        }
        test.check.end();
    }

    private void run(int run) {
        CountedDesk desk = new CountedDesk();
        ReferenceDesk reference = new ReferenceDesk();
        // Few kinds of signs make windows, letters and sums alike; few letters make long ones;
        // low places are there in short letters too.
        int signs = run % 3 == 0 ? 2 : 30;
        int letters = 1 + run % 12;
        int places = run % 2 == 0 ? 40 : 6;
        int changes = 30 + run % 5 * 15;
        // The checksum at the end is a call, too.
        for (int i = 0; i < CALLS - 1; i++) {
            String[] names = below(100) < changes ? CHANGES : QUESTIONS;
            String name = names[below(names.length)];
            int a = argument(name.equals("addLetter") ? 1 : takesEnvelope(name) ? 24 : letters);
            int b = argument(name.equals("write") ? signs : name.equals("firstOf") ? letters : places);
            int c = argument(name.equals("mend") ? signs : places);
            Call call = new Call(name, a, b, c);
            String got = desk.answer(call);
            String due = answerOf(reference, call);
            check.equal("run " + run + ", call " + i + ": " + call, got, due);
        }
        check.equal("run " + run + ", at its end: digest()", desk.digest(), (long) reference.call("digest", 0, 0, 0));
    }

    private static String answerOf(ReferenceDesk reference, Call call) {
        try {
            return reference.call(call.name(), call.a(), call.b(), call.c()).toString();
        } catch (RuntimeException thrown) {
            return "throws." + thrown.getClass().getSimpleName();
        }
    }

    private static boolean takesEnvelope(String name) {
        return switch (name) {
            case "letterIn", "digestIn", "sealOf", "isWhole", "tornBlocks", "firstTorn", "changedPlace",
                "changedSign" -> true;
            default -> false;
        };
    }

    private int argument(int bound) {
        return below(25) == 0 ? ODD[below(ODD.length)] : below(bound);
    }

    private int below(int bound) {
        seed = seed * 6364136223846793005L + 1442695040888963407L;
        return (int) ((seed >>> 33) % bound);
    }
}
