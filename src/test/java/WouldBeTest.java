/** Promises 32 to 36: what would be, the mean and the checksum. */
public final class WouldBeTest {
    private static final Class<IndexOutOfBoundsException> BOUNDS = IndexOutOfBoundsException.class;
    private static final Class<IllegalStateException> STATE = IllegalStateException.class;
    private static final int[] WRONG = {-1, 2, 12, Integer.MAX_VALUE, Integer.MIN_VALUE};

    private final Check check = new Check();

    public static void main(String[] args) {
        WouldBeTest test = new WouldBeTest();
        test.promise32WouldSeal();
        test.promise33Unnoticed();
        test.promise34WorstTear();
        test.promise35MeanSigns();
        test.promise36Digest();
        test.check.end();
    }

    private void promise32WouldSeal() {
        CountedDesk desk = Desks.with(Desks.signs(0), Desks.signs());
        check.equal("wouldSeal of the first", desk.wouldSeal(0), 239);
        check.equal("envelopes after wouldSeal", desk.envelopes(), 0);
        check.refuses("wouldSeal without signs", desk, STATE, () -> desk.wouldSeal(1));
        for (int i = 0; i < 24; i++) {
            int due = desk.wouldSeal(0);
            desk.seal(0);
            check.equal("the seal that would be", desk.sealOf(i), due);
        }
        check.equal("wouldSeal at 24", desk.wouldSeal(0), (53 * desk.sealOf(23) + 186) % 65521);
        check.equal("envelopes after wouldSeal at 24", desk.envelopes(), 24);
        check.refuses("wouldSeal without signs at 24", desk, STATE, () -> desk.wouldSeal(1));
        for (int letter : WRONG) {
            check.refuses("wouldSeal of letter " + letter, desk, BOUNDS, () -> desk.wouldSeal(letter));
        }
        desk.unseal();
        check.equal("wouldSeal after unseal", desk.wouldSeal(0), (53 * desk.sealOf(22) + 186) % 65521);
    }

    private void promise33Unnoticed() {
        CountedDesk desk = Desks.with(Desks.signs(), Desks.signs(27, 27, 27, 27, 27));
        check.equal("unnoticed without signs", desk.unnoticed(0), 0);
        check.equal("unnoticed among commas", desk.unnoticed(1), 0);
        for (int place = 0; place < 10; place++) {
            for (int sign = 0; sign <= 30; sign++) {
                int[] signs = Desks.repeated(0, 10);
                signs[place] = sign;
                boolean second = place % 5 == 1 && sign == 11;
                boolean fourth = place % 5 == 3 && (sign == 3 || sign == 11 || sign == 19);
                check.equal("unnoticed of " + sign + " at " + place, Desks.with(signs).unnoticed(0),
                    second || fourth ? 1 : 0);
            }
        }
        Desks.rewrite(desk, 0, Desks.repeated(11, 40));
        check.equal("unnoticed in eight blocks", desk.unnoticed(0), 16);
        check.equal("the signs are as before", desk.commasOf(0), 0);
        for (int letter : WRONG) {
            check.refuses("unnoticed in letter " + letter, desk, BOUNDS, () -> desk.unnoticed(letter));
        }
    }

    private void promise34WorstTear() {
        CountedDesk desk = Desks.with(Desks.signs(), Desks.signs(30, 30, 30));
        check.equal("worstTear without signs", desk.worstTear(0), -1);
        check.equal("worstTear of blurred ones", desk.worstTear(1), -1);
        worst(desk, 0, 0);
        worst(desk, 0, 29);
        worst(desk, 0, 29, 30);
        worst(desk, 1, 30, 29);
        worst(desk, 1, 0, 0, 0);
        // Down, where another place would change it the most up.
        worst(desk, 1, 15, 27, 7, 12);
        worst(desk, 1, 30, 6, 17, 28);
        worst(desk, 0, 26, 19, 18, 0);
        worst(desk, 2, 8, 24, 14, 3, 18);
        // Up, where another place would change it the most down.
        worst(desk, 2, 24, 25, 11, 27, 9);
        worst(desk, 2, 19, 11, 26, 8, 14);
        // Both tears lead to the same digest.
        worst(desk, 0, 24, 30, 7);
        check.equal("the signs are as before", Desks.signsIn(desk, 0), "24 30 7");
        for (int letter : WRONG) {
            check.refuses("worstTear of letter " + letter, desk, BOUNDS, () -> desk.worstTear(letter));
        }
    }

    private void worst(CountedDesk desk, int due, int... signs) {
        Desks.rewrite(desk, 0, signs);
        check.equal("worstTear of " + Desks.signsIn(desk, 0), desk.worstTear(0), due);
    }

    private void promise35MeanSigns() {
        CountedDesk desk = new CountedDesk();
        check.equal("mean without letters", desk.meanSigns(), 0.0);
        desk.addLetter();
        check.equal("mean without signs", desk.meanSigns(), 0.0);
        Desks.append(desk, 0, 1, 2, 3);
        check.equal("mean of one", desk.meanSigns(), 3.0);
        desk.addLetter();
        check.equal("mean of 3 and 0", desk.meanSigns(), 1.5);
        desk.addLetter();
        desk.write(2, 30 - 1);
        check.equal("mean of 3, 0 and 1", desk.meanSigns(), 4.0 / 3.0);
        desk.tear(2, 0);
        check.equal("mean with a blurred sign", desk.meanSigns(), 4.0 / 3.0);
        CountedDesk full = new CountedDesk();
        for (int i = 0; i < 12; i++) {
            Desks.add(full, Desks.repeated(i, 40));
        }
        check.equal("mean of full ones", full.meanSigns(), 40.0);
    }

    private void promise36Digest() {
        check.equal("checksum of a new desk", new CountedDesk().digest(), 1827648058L);
        CountedDesk desk = Desks.with(Desks.signs(0, 0, 23), Desks.signs(6, 0, 0), Desks.signs());
        check.equal("checksum of three letters", desk.digest(), 7603750797561726018L);
        Desks.add(desk, 0, 7, 0, 7, 1, 0);
        Desks.add(desk, 27, 11, 30, 3, 2, 9, 27);
        desk.seal(3);
        desk.seal(0);
        desk.seal(4);
        desk.seal(3);
        desk.tear(3, 1);
        Desks.rewrite(desk, 0, 6, 0, 0);
        desk.erase(4);
        desk.erase(4);
        check.equal("checksum of five letters and four envelopes", desk.digest(), 1035020694595584069L);
        check.equal("asked again", desk.digest(), 1035020694595584069L);
    }
}
