/** A call by its name; a method that takes fewer than three numbers leaves the others alone. */
record Call(String name, int a, int b, int c) {

    /** What the call answers, as a text; an exception is told by its very class. */
    String answerOf(LetterSeals desk) {
        try {
            return made(desk).toString();
        } catch (RuntimeException thrown) {
            return "throws." + thrown.getClass().getSimpleName();
        }
    }

    @Override
    public String toString() {
        return name + "(" + a + ", " + b + ", " + c + ")";
    }

    private Object made(LetterSeals desk) {
        return switch (name) {
            case "addLetter" -> desk.addLetter();
            case "copyLetter" -> desk.copyLetter(a);
            case "write" -> desk.write(a, b);
            case "erase" -> desk.erase(a);
            case "forge" -> desk.forge(a, b);
            case "tear" -> desk.tear(a, b);
            case "mend" -> desk.mend(a, b, c);
            case "seal" -> desk.seal(a);
            case "unseal" -> desk.unseal();
            case "letters" -> desk.letters();
            case "signsOf" -> desk.signsOf(a);
            case "commasOf" -> desk.commasOf(a);
            case "tearsOf" -> desk.tearsOf(a);
            case "digestOf" -> desk.digestOf(a);
            case "signAt" -> desk.signAt(a, b);
            case "sumOf" -> desk.sumOf(a, b, c);
            case "sameSums" -> desk.sameSums(a, b);
            case "falseAlarms" -> desk.falseAlarms(a, b);
            case "firstOf" -> desk.firstOf(a, b);
            case "doubles" -> desk.doubles();
            case "envelopes" -> desk.envelopes();
            case "letterIn" -> desk.letterIn(a);
            case "digestIn" -> desk.digestIn(a);
            case "sealOf" -> desk.sealOf(a);
            case "isWhole" -> desk.isWhole(a);
            case "firstBroken" -> desk.firstBroken();
            case "tornBlocks" -> desk.tornBlocks(a);
            case "firstTorn" -> desk.firstTorn(a);
            case "changedPlace" -> desk.changedPlace(a);
            case "changedSign" -> desk.changedSign(a);
            case "wouldSeal" -> desk.wouldSeal(a);
            case "unnoticed" -> desk.unnoticed(a);
            case "worstTear" -> desk.worstTear(a);
            case "meanSigns" -> desk.meanSigns();
            case "digest" -> desk.digest();
            default -> throw new AssertionError("there is no call " + name);
        };
    }
}
