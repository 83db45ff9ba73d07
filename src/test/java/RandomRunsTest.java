/** Long runs of calls, right and wrong ones, each answered as ReferenceDesk answers it. */
public final class RandomRunsTest {
    private static final int RUNS = 1500;
    private static final int CALLS = 512;
    private static final String[] CHANGES = {"addLetter", "copyLetter", "write", "write", "write", "write", "write",
        "write", "erase", "forge", "tear", "mend", "seal", "seal", "seal", "unseal"};
    private static final String[] QUESTIONS = {"letters", "signsOf", "commasOf", "tearsOf", "digestOf", "signAt",
        "sumOf", "sameSums", "falseAlarms", "firstOf", "doubles", "envelopes", "letterIn", "digestIn", "sealOf",
        "isWhole", "firstBroken", "tornBlocks", "firstTorn", "changedPlace", "changedSign", "changedSign",
        "wouldSeal", "unnoticed", "worstTear", "meanSigns", "digest"};
    private static final int[] ODD = {-1, 12, 24, 30, 31, 40, 41, Integer.MAX_VALUE, Integer.MIN_VALUE};

    private final Check check = new Check();
    private long seed = 20261119;

    public static void main(String[] args) {
        RandomRunsTest test = new RandomRunsTest();
        for (int run = 0; run < RUNS; run++) {
            test.run(run);
        }
        test.check.end();
    }

    private void run(int run) {
        LetterSeals desk = new LetterSeals();
        ReferenceDesk reference = new ReferenceDesk();
        // Few kinds of signs make windows, letters and sums alike; few letters make long ones;
        // low places are there in short letters too.
        int signs = run % 3 == 0 ? 2 : 30;
        int letters = 1 + run % 12;
        int places = run % 2 == 0 ? 40 : 6;
        int changes = 30 + run % 5 * 15;
        for (int i = 0; i < CALLS; i++) {
            String[] names = below(100) < changes ? CHANGES : QUESTIONS;
            String name = names[below(names.length)];
            int a = argument(name.equals("addLetter") ? 1 : takesEnvelope(name) ? 24 : letters);
            int b = argument(name.equals("write") ? signs : name.equals("firstOf") ? letters : places);
            int c = argument(name.equals("mend") ? signs : places);
            String what = "run " + run + ", call " + i + ": " + name + "(" + a + ", " + b + ", " + c + ")";
            String got = answer(() -> ask(desk, name, a, b, c));
            String due = answer(() -> reference.call(name, a, b, c));
            check.equal(what, got, due);
        }
        check.equal("run " + run + ", at its end: digest()", desk.digest(), (long) reference.call("digest", 0, 0, 0));
    }

    private interface Asked {
        Object answer();
    }

    private static String answer(Asked asked) {
        try {
            return asked.answer().toString();
        } catch (RuntimeException thrown) {
            return "throws." + thrown.getClass().getSimpleName();
        }
    }

    private static boolean takesEnvelope(String name) {
        return switch (name) {
            case "letterIn", "digestIn", "sealOf", "isWhole", "tornBlocks", "firstTorn", "changedPlace",
                "changedSign" -> true;
            default -> false;
        };
    }

    private int argument(int bound) {
        return below(25) == 0 ? ODD[below(ODD.length)] : below(bound);
    }

    private int below(int bound) {
        seed = seed * 6364136223846793005L + 1442695040888963407L;
        return (int) ((seed >>> 33) % bound);
    }

    private static Object ask(LetterSeals desk, String name, int a, int b, int c) {
        return switch (name) {
            case "addLetter" -> desk.addLetter();
            case "copyLetter" -> desk.copyLetter(a);
            case "write" -> desk.write(a, b);
            case "erase" -> desk.erase(a);
            case "forge" -> desk.forge(a, b);
            case "tear" -> desk.tear(a, b);
            case "mend" -> desk.mend(a, b, c);
            case "seal" -> desk.seal(a);
            case "unseal" -> desk.unseal();
            case "letters" -> desk.letters();
            case "signsOf" -> desk.signsOf(a);
            case "commasOf" -> desk.commasOf(a);
            case "tearsOf" -> desk.tearsOf(a);
            case "digestOf" -> desk.digestOf(a);
            case "signAt" -> desk.signAt(a, b);
            case "sumOf" -> desk.sumOf(a, b, c);
            case "sameSums" -> desk.sameSums(a, b);
            case "falseAlarms" -> desk.falseAlarms(a, b);
            case "firstOf" -> desk.firstOf(a, b);
            case "doubles" -> desk.doubles();
            case "envelopes" -> desk.envelopes();
            case "letterIn" -> desk.letterIn(a);
            case "digestIn" -> desk.digestIn(a);
            case "sealOf" -> desk.sealOf(a);
            case "isWhole" -> desk.isWhole(a);
            case "firstBroken" -> desk.firstBroken();
            case "tornBlocks" -> desk.tornBlocks(a);
            case "firstTorn" -> desk.firstTorn(a);
            case "changedPlace" -> desk.changedPlace(a);
            case "changedSign" -> desk.changedSign(a);
            case "wouldSeal" -> desk.wouldSeal(a);
            case "unnoticed" -> desk.unnoticed(a);
            case "worstTear" -> desk.worstTear(a);
            case "meanSigns" -> desk.meanSigns();
            case "digest" -> desk.digest();
            default -> throw new AssertionError(name);
        };
    }
}
