/** Makes desks with letters, and changes and tells the signs of a letter. */
final class Desks {
    private Desks() {
    }

    static CountedDesk with(int[]... letters) {
        CountedDesk desk = new CountedDesk();
        for (int[] signs : letters) {
            add(desk, signs);
        }
        return desk;
    }

    /** Adds a letter; the sign 30 is written and blurred then, as it can't be written. */
    static int add(CountedDesk desk, int... signs) {
        int letter = desk.addLetter();
        append(desk, letter, signs);
        return letter;
    }

    static void append(CountedDesk desk, int letter, int... signs) {
        for (int sign : signs) {
            int count = desk.write(letter, sign == 30 ? 0 : sign);
            if (sign == 30) {
                desk.tear(letter, count - 1);
            }
        }
    }

    /** Puts other signs in the place of all that the letter has. */
    static void rewrite(CountedDesk desk, int letter, int... signs) {
        for (int count = desk.signsOf(letter); count > 0; count--) {
            desk.erase(letter);
        }
        append(desk, letter, signs);
    }

    static int[] signs(int... signs) {
        return signs;
    }

    static int[] repeated(int sign, int times) {
        int[] signs = new int[times];
        java.util.Arrays.fill(signs, sign);
        return signs;
    }

    static String signsIn(CountedDesk desk, int letter) {
        StringBuilder text = new StringBuilder();
        int count = desk.signsOf(letter);
        for (int place = 0; place < count; place++) {
            text.append(place == 0 ? "" : " ").append(desk.signAt(letter, place));
        }
        return text.toString();
    }
}
