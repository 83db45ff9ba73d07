/** Promises 11 to 21: what is asked of letters. */
public final class OfLettersTest {
    private static final Class<IndexOutOfBoundsException> BOUNDS = IndexOutOfBoundsException.class;
    private static final Class<IllegalArgumentException> ARGUMENT = IllegalArgumentException.class;
    private static final Class<IllegalStateException> STATE = IllegalStateException.class;
    private static final int[] WRONG = {-1, 4, 12, Integer.MAX_VALUE, Integer.MIN_VALUE};

    private final Check check = new Check();

    public static void main(String[] args) {
        OfLettersTest test = new OfLettersTest();
        test.promise11Letters();
        test.promises12To14Counts();
        test.promise15DigestOf();
        test.promise16SignAt();
        test.promise17SumOf();
        test.promise18SameSums();
        test.promise19FalseAlarms();
        test.promises18And19WrongInputs();
        test.promise20FirstOf();
        test.promise21Doubles();
        test.check.end();
    }

    private void promise11Letters() {
        CountedDesk desk = new CountedDesk();
        check.equal("letters at first", desk.letters(), 0);
        desk.addLetter();
        check.equal("letters after addLetter", desk.letters(), 1);
        desk.copyLetter(0);
        check.equal("letters after copyLetter", desk.letters(), 2);
        desk.write(0, 1);
        desk.erase(0);
        check.equal("letters after other calls", desk.letters(), 2);
    }

    private void promises12To14Counts() {
        CountedDesk desk = Desks.with(Desks.signs(), Desks.signs(27, 30, 27, 26, 28, 29, 0), Desks.repeated(27, 40),
            Desks.repeated(30, 40));
        int[] signs = {0, 7, 40, 40};
        int[] commas = {0, 2, 40, 0};
        int[] tears = {0, 1, 0, 40};
        for (int letter = 0; letter < 4; letter++) {
            check.equal("signsOf", desk.signsOf(letter), signs[letter]);
            check.equal("commasOf", desk.commasOf(letter), commas[letter]);
            check.equal("tearsOf", desk.tearsOf(letter), tears[letter]);
        }
        desk.forge(1, 1);
        check.equal("commas after forging", desk.commasOf(1), 3);
        check.equal("tears after forging over one", desk.tearsOf(1), 0);
        desk.tear(1, 0);
        check.equal("commas after a tear", desk.commasOf(1), 2);
        check.equal("tears after a tear", desk.tearsOf(1), 1);
        desk.erase(2);
        check.equal("commas after an erased one", desk.commasOf(2), 39);
        desk.erase(3);
        check.equal("tears after an erased one", desk.tearsOf(3), 39);
        check.equal("signs after an erased one", desk.signsOf(3), 39);
        for (int letter : WRONG) {
            check.refuses("signsOf " + letter, desk, BOUNDS, () -> desk.signsOf(letter));
            check.refuses("commasOf " + letter, desk, BOUNDS, () -> desk.commasOf(letter));
            check.refuses("tearsOf " + letter, desk, BOUNDS, () -> desk.tearsOf(letter));
        }
    }

    private void promise15DigestOf() {
        CountedDesk desk = Desks.with(Desks.signs(), Desks.signs(0), Desks.signs(30), Desks.signs(11, 14, 21, 4));
        check.equal("digest of no signs", desk.digestOf(0), 5);
        check.equal("digest of a", desk.digestOf(1), 186);
        check.equal("digest of a blurred sign", desk.digestOf(2), 216);
        check.equal("digest of love", desk.digestOf(3), 6975);
        for (int letter : WRONG) {
            check.refuses("digestOf " + letter, desk, BOUNDS, () -> desk.digestOf(letter));
        }
        Desks.add(desk, Desks.repeated(29, 40));
        Desks.add(desk, Desks.repeated(0, 40));
        check.equal("digest of 40 hearts", desk.digestOf(4), 742);
        check.equal("digest of 40 a", desk.digestOf(5), 6998);
    }

    private void promise16SignAt() {
        CountedDesk desk = Desks.with(Desks.signs(29, 0, 30, 27), Desks.repeated(9, 40), Desks.signs(), Desks.signs(1));
        check.equal("the signs", Desks.signsIn(desk, 0), "29 0 30 27");
        check.equal("the last of 40", desk.signAt(1, 39), 9);
        for (int place : new int[] {-1, 4, 5, 39, 40, Integer.MAX_VALUE, Integer.MIN_VALUE}) {
            check.refuses("signAt " + place, desk, BOUNDS, () -> desk.signAt(0, place));
        }
        check.refuses("signAt 40 of 40", desk, BOUNDS, () -> desk.signAt(1, 40));
        check.refuses("signAt 0 of none", desk, BOUNDS, () -> desk.signAt(2, 0));
        for (int letter : WRONG) {
            check.refuses("signAt in letter " + letter, desk, BOUNDS, () -> desk.signAt(letter, 0));
        }
    }

    private void promise17SumOf() {
        CountedDesk desk = Desks.with(Desks.signs(11, 14, 21, 4), Desks.repeated(29, 40), Desks.signs(),
            Desks.repeated(30, 5));
        check.equal("sum of l", desk.sumOf(0, 0, 1), 12);
        check.equal("sum of ov", desk.sumOf(0, 1, 2), 30);
        check.equal("sum of love", desk.sumOf(0, 0, 4), 63);
        check.equal("sum of e", desk.sumOf(0, 3, 1), 5);
        check.equal("sum of 40 hearts", desk.sumOf(1, 0, 40), 12);
        check.equal("sum of two hearts", desk.sumOf(1, 38, 2), 46);
        check.equal("sum of blurred ones", desk.sumOf(3, 0, 5), 16);
        int[][] wrong = {{0, 0}, {0, -1}, {0, 5}, {1, 4}, {4, 1}, {3, 2}, {-1, 1}, {-1, 2}, {0, Integer.MAX_VALUE},
            {1, Integer.MAX_VALUE}, {Integer.MAX_VALUE, 1}, {Integer.MAX_VALUE, Integer.MAX_VALUE},
            {Integer.MIN_VALUE, 1}, {Integer.MIN_VALUE, Integer.MIN_VALUE}, {0, Integer.MIN_VALUE}, {4, 0}, {2, 0}};
        for (int[] window : wrong) {
            check.refuses("sumOf " + window[0] + " " + window[1], desk, ARGUMENT,
                () -> desk.sumOf(0, window[0], window[1]));
            check.refuses("sumOf in no letter", desk, BOUNDS, () -> desk.sumOf(4, window[0], window[1]));
        }
        check.refuses("sumOf in an empty letter", desk, ARGUMENT, () -> desk.sumOf(2, 0, 1));
        check.refuses("sumOf of 41", desk, ARGUMENT, () -> desk.sumOf(1, 0, 41));
        check.refuses("sumOf from 40", desk, ARGUMENT, () -> desk.sumOf(1, 40, 1));
        for (int letter : WRONG) {
            check.refuses("sumOf in letter " + letter, desk, BOUNDS, () -> desk.sumOf(letter, 0, 1));
        }
    }

    private void promise18SameSums() {
        CountedDesk desk = Desks.with(Desks.signs(0, 7, 1, 0), Desks.signs(0, 0, 13, 6),
            Desks.signs(0, 7, 0, 7, 1, 0), Desks.repeated(0, 40), Desks.signs());
        check.equal("0 7 and 1 0", desk.sameSums(0, 2), 1);
        check.equal("the two a", desk.sameSums(0, 1), 1);
        check.equal("all signs, one window", desk.sameSums(0, 4), 0);
        check.equal("more than all signs", desk.sameSums(0, 5), 0);
        check.equal("40 of four signs", desk.sameSums(0, 40), 0);
        check.equal("the same only divided by 97", desk.sameSums(1, 2), 1);
        check.equal("three windows with the same sum", desk.sameSums(2, 2), 3);
        check.equal("40 windows", desk.sameSums(3, 1), 780);
        check.equal("21 windows, one over the other", desk.sameSums(3, 20), 210);
        check.equal("two windows", desk.sameSums(3, 39), 1);
        check.equal("one window", desk.sameSums(3, 40), 0);
        check.equal("no signs", desk.sameSums(4, 1), 0);
        check.equal("no signs and 40", desk.sameSums(4, 40), 0);
    }

    private void promise19FalseAlarms() {
        CountedDesk desk = Desks.with(Desks.signs(0, 7, 1, 0), Desks.signs(0, 0, 13, 6),
            Desks.signs(0, 7, 0, 7, 1, 0), Desks.repeated(0, 40), Desks.signs());
        check.equal("0 7 and 1 0", desk.falseAlarms(0, 2), 1);
        check.equal("the two a", desk.falseAlarms(0, 1), 0);
        check.equal("more than all signs", desk.falseAlarms(0, 5), 0);
        check.equal("40 of four signs", desk.falseAlarms(0, 40), 0);
        check.equal("the same only divided by 97", desk.falseAlarms(1, 2), 1);
        check.equal("two of three windows", desk.falseAlarms(2, 2), 2);
        check.equal("all signs the same", desk.falseAlarms(3, 20), 0);
        check.equal("no signs", desk.falseAlarms(4, 1), 0);
        check.equal("40 windows", desk.falseAlarms(3, 1), 0);
        desk.sameSums(3, 20);
        check.equal("after another letter was asked", desk.falseAlarms(2, 2), 2);
        Desks.rewrite(desk, 0, 1, 0, 7);
        check.equal("windows one over the other", desk.falseAlarms(0, 2), 1);
        desk.erase(0);
        check.equal("after one of both is gone", desk.falseAlarms(0, 2), 0);
        check.equal("same sums after one of both is gone", desk.sameSums(0, 2), 0);
    }

    private void promises18And19WrongInputs() {
        CountedDesk desk = Desks.with(Desks.signs(0, 7, 1, 0), Desks.signs(), Desks.signs(1), Desks.signs(2));
        for (int length : new int[] {0, -1, 41, Integer.MAX_VALUE, Integer.MIN_VALUE}) {
            check.refuses("sameSums " + length, desk, ARGUMENT, () -> desk.sameSums(0, length));
            check.refuses("falseAlarms " + length, desk, ARGUMENT, () -> desk.falseAlarms(0, length));
            check.refuses("sameSums of no letter", desk, BOUNDS, () -> desk.sameSums(4, length));
            check.refuses("falseAlarms of no letter", desk, BOUNDS, () -> desk.falseAlarms(4, length));
        }
        for (int letter : WRONG) {
            check.refuses("sameSums of letter " + letter, desk, BOUNDS, () -> desk.sameSums(letter, 1));
            check.refuses("falseAlarms of letter " + letter, desk, BOUNDS, () -> desk.falseAlarms(letter, 1));
        }
    }

    private void promise20FirstOf() {
        CountedDesk desk = Desks.with(Desks.signs(0, 1, 2, 0, 1, 3), Desks.signs(0, 1, 3), Desks.signs(),
            Desks.signs(3));
        check.equal("at the end", desk.firstOf(0, 1), 3);
        check.equal("in itself", desk.firstOf(0, 0), 0);
        check.equal("the last sign", desk.firstOf(0, 3), 5);
        check.equal("of a longer one", desk.firstOf(1, 0), -1);
        check.equal("in one without signs", desk.firstOf(2, 0), -1);
        check.equal("in a shorter one", desk.firstOf(3, 1), -1);
        check.refuses("of one without signs", desk, STATE, () -> desk.firstOf(0, 2));
        check.refuses("of one without signs in itself", desk, STATE, () -> desk.firstOf(2, 2));
        for (int letter : WRONG) {
            check.refuses("firstOf in " + letter, desk, BOUNDS, () -> desk.firstOf(letter, 1));
            check.refuses("firstOf of " + letter, desk, BOUNDS, () -> desk.firstOf(0, letter));
            check.refuses("firstOf of an empty one in " + letter, desk, BOUNDS, () -> desk.firstOf(letter, 2));
        }
        CountedDesk other = Desks.with(Desks.signs(5, 5, 5, 6, 5, 5, 6), Desks.signs(5, 5, 6),
            Desks.signs(6, 5, 5, 6, 5), Desks.signs(5));
        check.equal("the first of two, begun in a wrong one", other.firstOf(0, 1), 1);
        check.equal("only its beginning is there", other.firstOf(0, 2), -1);
        check.equal("at place 0", other.firstOf(0, 3), 0);
        other.erase(2);
        check.equal("erased signs are not sought", other.firstOf(0, 2), 3);
        other.erase(0);
        check.equal("erased signs are not found", other.firstOf(0, 2), -1);
    }

    private void promise21Doubles() {
        CountedDesk desk = new CountedDesk();
        check.equal("doubles without letters", desk.doubles(), 0);
        Desks.add(desk, 0, 0, 23);
        check.equal("doubles of one letter", desk.doubles(), 0);
        Desks.add(desk, 6, 0, 0);
        check.equal("digests of both", desk.digestOf(0), desk.digestOf(1));
        check.equal("doubles of two", desk.doubles(), 1);
        desk.copyLetter(0);
        check.equal("doubles with a copy", desk.doubles(), 2);
        desk.addLetter();
        desk.addLetter();
        check.equal("two empty ones are the same", desk.doubles(), 2);
        Desks.add(desk, 5, 16, 8);
        check.equal("one with the digest of no signs", desk.doubles(), 4);
        desk.forge(1, 0);
        check.equal("doubles after forging", desk.doubles(), 2);
        CountedDesk lengths = Desks.with(Desks.signs(0, 10), Desks.signs(4, 18, 0));
        check.equal("doubles of two lengths", lengths.doubles(), 1);
        CountedDesk many = new CountedDesk();
        for (int i = 0; i < 6; i++) {
            Desks.add(many, 0, 0, 23);
            Desks.add(many, 6, 0, 0);
        }
        check.equal("doubles of six and six", many.doubles(), 36);
    }
}
