/** A call by its name; a method that takes fewer than three numbers leaves the others alone. */
record Call(String name, int a, int b, int c) {

    static Call of(String name, int... numbers) {
        int[] all = java.util.Arrays.copyOf(numbers, 3);
        return new Call(name, all[0], all[1], all[2]);
    }

    @Override
    public String toString() {
        return name + "(" + a + ", " + b + ", " + c + ")";
    }

    Object made(LetterSeals desk) {
        return switch (name) {
            case "addLetter" -> desk.addLetter();
            case "copyLetter" -> desk.copyLetter(a);
            case "write" -> desk.write(a, b);
            case "erase" -> desk.erase(a);
            case "forge" -> desk.forge(a, b);
            case "tear" -> desk.tear(a, b);
            case "mend" -> desk.mend(a, b, c);
            case "seal" -> desk.seal(a);
            case "unseal" -> desk.unseal();
            case "letters" -> desk.letters();
            case "signsOf" -> desk.signsOf(a);
            case "commasOf" -> desk.commasOf(a);
            case "tearsOf" -> desk.tearsOf(a);
            case "digestOf" -> desk.digestOf(a);
            case "signAt" -> desk.signAt(a, b);
            case "sumOf" -> desk.sumOf(a, b, c);
            case "sameSums" -> desk.sameSums(a, b);
            case "falseAlarms" -> desk.falseAlarms(a, b);
            case "firstOf" -> desk.firstOf(a, b);
            case "doubles" -> desk.doubles();
            case "envelopes" -> desk.envelopes();
            case "letterIn" -> desk.letterIn(a);
            case "digestIn" -> desk.digestIn(a);
            case "sealOf" -> desk.sealOf(a);
            case "isWhole" -> desk.isWhole(a);
            case "firstBroken" -> desk.firstBroken();
            case "tornBlocks" -> desk.tornBlocks(a);
            case "firstTorn" -> desk.firstTorn(a);
            case "changedPlace" -> desk.changedPlace(a);
            case "changedSign" -> desk.changedSign(a);
            case "wouldSeal" -> desk.wouldSeal(a);
            case "unnoticed" -> desk.unnoticed(a);
            case "worstTear" -> desk.worstTear(a);
            case "meanSigns" -> desk.meanSigns();
            case "digest" -> desk.digest();
            default -> throw new AssertionError("there is no call " + name);
        };
    }
}
