/** Makes desks with letters, and tells all that can be asked of one. */
final class Desks {
    private Desks() {
    }

    static LetterSeals with(int[]... letters) {
        LetterSeals desk = new LetterSeals();
        for (int[] signs : letters) {
            add(desk, signs);
        }
        return desk;
    }

    /** Adds a letter; the sign 30 is written and blurred then, as it can't be written. */
    static int add(LetterSeals desk, int... signs) {
        int letter = desk.addLetter();
        append(desk, letter, signs);
        return letter;
    }

    static void append(LetterSeals desk, int letter, int... signs) {
        for (int sign : signs) {
            int count = desk.write(letter, sign == 30 ? 0 : sign);
            if (sign == 30) {
                desk.tear(letter, count - 1);
            }
        }
    }

    /** Puts other signs in the place of all that the letter has. */
    static void rewrite(LetterSeals desk, int letter, int... signs) {
        while (desk.signsOf(letter) > 0) {
            desk.erase(letter);
        }
        append(desk, letter, signs);
    }

    static int[] signs(int... signs) {
        return signs;
    }

    static int[] repeated(int sign, int times) {
        int[] signs = new int[times];
        java.util.Arrays.fill(signs, sign);
        return signs;
    }

    static String signsIn(LetterSeals desk, int letter) {
        StringBuilder text = new StringBuilder();
        for (int place = 0; place < desk.signsOf(letter); place++) {
            text.append(place == 0 ? "" : " ").append(desk.signAt(letter, place));
        }
        return text.toString();
    }

    static String picture(LetterSeals desk) {
        StringBuilder text = new StringBuilder();
        for (int letter = 0; letter < desk.letters(); letter++) {
            text.append("letter ").append(letter).append(": ").append(signsIn(desk, letter)).append('\n');
        }
        for (int envelope = 0; envelope < desk.envelopes(); envelope++) {
            text.append("envelope ").append(envelope).append(": of ").append(desk.letterIn(envelope))
                .append(", digest ").append(desk.digestIn(envelope))
                .append(", seal ").append(desk.sealOf(envelope))
                .append(desk.isWhole(envelope) ? ", whole" : ", broken")
                .append(", torn ").append(desk.tornBlocks(envelope))
                .append(" from ").append(desk.firstTorn(envelope))
                .append(", changed ").append(desk.changedPlace(envelope)).append('\n');
        }
        return text.append("checksum ").append(desk.digest()).append('\n').toString();
    }
}
