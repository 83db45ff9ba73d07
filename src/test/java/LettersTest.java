/** Promises 1 to 8: the new object, and the calls on letters. */
public final class LettersTest {
    private static final Class<IndexOutOfBoundsException> BOUNDS = IndexOutOfBoundsException.class;
    private static final Class<IllegalArgumentException> ARGUMENT = IllegalArgumentException.class;
    private static final Class<IllegalStateException> STATE = IllegalStateException.class;
    private static final int[] WRONG = {-1, 1, 12, Integer.MAX_VALUE, Integer.MIN_VALUE};

    private final Check check = new Check();

    public static void main(String[] args) {
        LettersTest test = new LettersTest();
        test.promise1NewObject();
        test.promise2AddLetter();
        test.promise3CopyLetter();
        test.promise4Write();
        test.promise5Erase();
        test.promise6Forge();
        test.promise7Tear();
        test.promise8Mend();
        test.check.end();
    }

    private void promise1NewObject() {
        CountedDesk desk = new CountedDesk();
        check.equal("letters of a new desk", desk.letters(), 0);
        check.equal("envelopes of a new desk", desk.envelopes(), 0);
        CountedDesk used = Desks.with(Desks.signs(1, 2));
        used.seal(0);
        CountedDesk other = new CountedDesk();
        check.equal("letters of another new desk", other.letters(), 0);
        check.equal("envelopes of another new desk", other.envelopes(), 0);
        check.equal("letters of the used desk", used.letters(), 1);
    }

    private void promise2AddLetter() {
        CountedDesk desk = new CountedDesk();
        for (int i = 0; i < 12; i++) {
            check.equal("addLetter", desk.addLetter(), i);
            check.equal("letters after addLetter", desk.letters(), i + 1);
            check.equal("signs of a new letter", desk.signsOf(i), 0);
            desk.write(i, i);
        }
        check.refuses("a 13th letter", desk, STATE, desk::addLetter);
        check.equal("letters after 13 calls", desk.letters(), 12);
    }

    private void promise3CopyLetter() {
        CountedDesk desk = Desks.with(Desks.signs(3, 30, 27, 29));
        check.equal("copyLetter", desk.copyLetter(0), 1);
        check.equal("letters", desk.letters(), 2);
        check.equal("the copy", Desks.signsIn(desk, 1), "3 30 27 29");
        desk.write(1, 5);
        desk.forge(1, 0);
        check.equal("the original after the copy changed", Desks.signsIn(desk, 0), "3 30 27 29");
        desk.erase(0);
        check.equal("the copy after the original changed", Desks.signsIn(desk, 1), "27 30 27 29 5");
        for (int letter : new int[] {-1, 2, 12, Integer.MAX_VALUE, Integer.MIN_VALUE}) {
            check.refuses("copy of letter " + letter, desk, BOUNDS, () -> desk.copyLetter(letter));
        }
        int empty = desk.addLetter();
        check.equal("signs of the copy of an empty one", desk.signsOf(desk.copyLetter(empty)), 0);
        int full = Desks.add(desk, Desks.repeated(7, 40));
        check.equal("signs of the copy of a full one", desk.signsOf(desk.copyLetter(full)), 40);
        while (desk.letters() < 12) {
            desk.copyLetter(1);
        }
        check.equal("the last copy", Desks.signsIn(desk, 11), "27 30 27 29 5");
        check.refuses("a 13th letter by copy", desk, STATE, () -> desk.copyLetter(0));
        check.refuses("a copy of none at 12", desk, BOUNDS, () -> desk.copyLetter(12));
        check.refuses("a copy of -1 at 12", desk, BOUNDS, () -> desk.copyLetter(-1));
    }

    private void promise4Write() {
        CountedDesk desk = Desks.with(Desks.signs(), Desks.signs(8));
        for (int i = 0; i < 40; i++) {
            int sign = i % 30;
            check.equal("write", desk.write(0, sign), i + 1);
            check.equal("the sign written", desk.signAt(0, i), sign);
            if (i < 39) {
                check.refuses("write 30", desk, ARGUMENT, () -> desk.write(0, 30));
            }
        }
        check.equal("the other letter", Desks.signsIn(desk, 1), "8");
        check.refuses("a 41st sign", desk, STATE, () -> desk.write(0, 0));
        for (int sign : new int[] {30, 31, -1, Integer.MAX_VALUE, Integer.MIN_VALUE}) {
            check.refuses("write " + sign, desk, ARGUMENT, () -> desk.write(1, sign));
            check.refuses("write " + sign + " in a full one", desk, ARGUMENT, () -> desk.write(0, sign));
            check.refuses("write " + sign + " in none", desk, BOUNDS, () -> desk.write(2, sign));
        }
        for (int letter : new int[] {-1, 2, 12, Integer.MAX_VALUE, Integer.MIN_VALUE}) {
            check.refuses("write in letter " + letter, desk, BOUNDS, () -> desk.write(letter, 0));
        }
        CountedDesk none = new CountedDesk();
        check.refuses("write without letters", none, BOUNDS, () -> none.write(0, 0));
    }

    private void promise5Erase() {
        CountedDesk desk = Desks.with(Desks.signs(4, 30, 9), Desks.signs(6));
        check.equal("erase a letter's sign", desk.erase(0), 9);
        check.equal("signs after erase", Desks.signsIn(desk, 0), "4 30");
        check.equal("erase a blurred one", desk.erase(0), 30);
        check.equal("erase the first", desk.erase(0), 4);
        check.equal("signs after all are erased", desk.signsOf(0), 0);
        check.refuses("erase of none", desk, STATE, () -> desk.erase(0));
        check.equal("the other letter", Desks.signsIn(desk, 1), "6");
        check.equal("write after erase", desk.write(0, 2), 1);
        check.equal("what was written", Desks.signsIn(desk, 0), "2");
        for (int letter : new int[] {-1, 2, 12, Integer.MAX_VALUE, Integer.MIN_VALUE}) {
            check.refuses("erase in letter " + letter, desk, BOUNDS, () -> desk.erase(letter));
        }
    }

    private void promise6Forge() {
        CountedDesk desk = Desks.with(Desks.signs(4, 30, 27, 29));
        check.equal("forge the first", desk.forge(0, 0), 4);
        check.equal("forge a blurred one", desk.forge(0, 1), 30);
        check.equal("forge the last", desk.forge(0, 3), 29);
        check.equal("signs after forging", Desks.signsIn(desk, 0), "27 27 27 27");
        check.equal("blurred ones after forging", desk.tearsOf(0), 0);
        for (int place = 0; place < 4; place++) {
            int forged = place;
            check.refuses("forge a comma", desk, STATE, () -> desk.forge(0, forged));
        }
        for (int place : new int[] {-1, 4, 40, Integer.MAX_VALUE, Integer.MIN_VALUE}) {
            check.refuses("forge at " + place, desk, BOUNDS, () -> desk.forge(0, place));
        }
        for (int letter : WRONG) {
            check.refuses("forge in letter " + letter, desk, BOUNDS, () -> desk.forge(letter, 0));
        }
        desk.erase(0);
        check.refuses("forge at an erased place", desk, BOUNDS, () -> desk.forge(0, 3));
    }

    private void promise7Tear() {
        CountedDesk desk = Desks.with(Desks.signs(4, 27, 0, 29));
        check.equal("tear the first", desk.tear(0, 0), 4);
        check.equal("tear a comma", desk.tear(0, 1), 27);
        check.equal("tear the last", desk.tear(0, 3), 29);
        check.equal("signs after tears", Desks.signsIn(desk, 0), "30 30 0 30");
        check.refuses("tear a blurred one", desk, STATE, () -> desk.tear(0, 0));
        check.refuses("tear the blurred last", desk, STATE, () -> desk.tear(0, 3));
        for (int place : new int[] {-1, 4, 40, Integer.MAX_VALUE, Integer.MIN_VALUE}) {
            check.refuses("tear at " + place, desk, BOUNDS, () -> desk.tear(0, place));
        }
        for (int letter : WRONG) {
            check.refuses("tear in letter " + letter, desk, BOUNDS, () -> desk.tear(letter, 0));
        }
        desk.erase(0);
        check.refuses("tear at an erased place", desk, BOUNDS, () -> desk.tear(0, 3));
    }

    private void promise8Mend() {
        CountedDesk desk = Desks.with(Desks.signs(30, 4, 30, 30));
        check.equal("mend the first", desk.mend(0, 0, 29), 2);
        check.equal("mend with a comma", desk.mend(0, 2, 27), 1);
        check.refuses("mend what is not blurred", desk, STATE, () -> desk.mend(0, 1, 4));
        check.refuses("mend what is mended", desk, STATE, () -> desk.mend(0, 0, 29));
        for (int sign : new int[] {30, 31, -1, Integer.MAX_VALUE, Integer.MIN_VALUE}) {
            check.refuses("mend with " + sign, desk, ARGUMENT, () -> desk.mend(0, 3, sign));
            check.refuses("mend a whole sign with " + sign, desk, ARGUMENT, () -> desk.mend(0, 1, sign));
            check.refuses("mend no sign with " + sign, desk, BOUNDS, () -> desk.mend(0, 4, sign));
            check.refuses("mend in no letter with " + sign, desk, BOUNDS, () -> desk.mend(1, 0, sign));
        }
        check.equal("mend the last", desk.mend(0, 3, 0), 0);
        check.equal("signs after mending", Desks.signsIn(desk, 0), "29 4 27 0");
        for (int place : new int[] {-1, 4, 40, Integer.MAX_VALUE, Integer.MIN_VALUE}) {
            check.refuses("mend at " + place, desk, BOUNDS, () -> desk.mend(0, place, 0));
        }
        for (int letter : WRONG) {
            check.refuses("mend in letter " + letter, desk, BOUNDS, () -> desk.mend(letter, 0, 0));
        }
    }
}
