/** Promises 9, 10 and 22 to 31: the calls on envelopes, and what is asked of them. */
public final class EnvelopesTest {
    private static final Class<IndexOutOfBoundsException> BOUNDS = IndexOutOfBoundsException.class;
    private static final Class<IllegalStateException> STATE = IllegalStateException.class;
    private static final int[] WRONG = {-1, 1, 24, Integer.MAX_VALUE, Integer.MIN_VALUE};

    private final Check check = new Check();

    public static void main(String[] args) {
        EnvelopesTest test = new EnvelopesTest();
        test.promise9Seal();
        test.promise10Unseal();
        test.promises22To25WhatIsWritten();
        test.promise25SealOf();
        test.promise26IsWhole();
        test.promise27FirstBroken();
        test.promises28And29TornBlocks();
        test.promises28And29OtherLengths();
        test.promises30And31Changed();
        test.promises30And31NoPlace();
        test.promises30And31Bounds();
        test.promises22To31WrongInputs();
        test.check.end();
    }

    private void promise9Seal() {
        CountedDesk desk = Desks.with(Desks.signs(1, 2), Desks.signs(), Desks.signs(3));
        check.refuses("seal without signs", desk, STATE, () -> desk.seal(1));
        for (int letter : new int[] {-1, 3, 12, Integer.MAX_VALUE, Integer.MIN_VALUE}) {
            check.refuses("seal letter " + letter, desk, BOUNDS, () -> desk.seal(letter));
        }
        for (int i = 0; i < 24; i++) {
            check.equal("seal", desk.seal(i % 2 * 2), i);
            check.equal("envelopes", desk.envelopes(), i + 1);
        }
        check.refuses("a 25th envelope", desk, STATE, () -> desk.seal(0));
        check.refuses("a 25th envelope without signs", desk, STATE, () -> desk.seal(1));
        check.refuses("a 25th envelope of no letter", desk, BOUNDS, () -> desk.seal(3));
        check.equal("write in a sealed letter", desk.write(0, 5), 3);
        check.equal("the letter", Desks.signsIn(desk, 0), "1 2 5");
    }

    private void promise10Unseal() {
        CountedDesk desk = Desks.with(Desks.signs(0), Desks.repeated(9, 40), Desks.signs(7, 7));
        check.refuses("unseal of none", desk, STATE, desk::unseal);
        desk.seal(0);
        desk.seal(0);
        desk.seal(0);
        check.equal("the last seal", desk.unseal(), 26185);
        check.equal("envelopes", desk.envelopes(), 2);
        desk.write(0, 4);
        check.equal("the second seal, its letter changed", desk.unseal(), 12853);
        check.equal("the first seal", desk.unseal(), 239);
        check.equal("envelopes", desk.envelopes(), 0);
        check.refuses("unseal of none any more", desk, STATE, desk::unseal);
        desk.seal(1);
        desk.unseal();
        check.equal("a new envelope", desk.seal(2), 0);
        check.equal("its letter", desk.letterIn(0), 2);
        check.yes("it is whole", desk.isWhole(0));
        check.equal("nothing is left of the one before", desk.tornBlocks(0), 0);
        check.equal("nothing is left of the one before", desk.firstTorn(0), -1);
        desk.tear(2, 1);
        check.equal("nothing is left of the one before", desk.changedPlace(0), 1);
        check.refuses("the second one is gone", desk, BOUNDS, () -> desk.sealOf(1));
        check.equal("letters", desk.letters(), 3);
    }

    private void promises22To25WhatIsWritten() {
        CountedDesk desk = Desks.with(Desks.signs(11, 14, 21, 4), Desks.signs(0));
        check.equal("envelopes at first", desk.envelopes(), 0);
        desk.seal(1);
        desk.seal(0);
        check.equal("envelopes", desk.envelopes(), 2);
        check.equal("letter in the first", desk.letterIn(0), 1);
        check.equal("letter in the second", desk.letterIn(1), 0);
        check.equal("digest in the first", desk.digestIn(0), 186);
        check.equal("digest in the second", desk.digestIn(1), 6975);
        check.equal("seal of the first", desk.sealOf(0), 53 + 186);
        check.equal("seal of the second", desk.sealOf(1), 53 * 239 + 6975);
        desk.write(0, 1);
        desk.forge(1, 0);
        check.equal("digest in the first, its letter changed", desk.digestIn(0), 186);
        check.equal("digest in the second, its letter changed", desk.digestIn(1), 6975);
        check.equal("seal of the second, both letters changed", desk.sealOf(1), 53 * 239 + 6975);
    }

    private void promise25SealOf() {
        CountedDesk desk = Desks.with(Desks.signs(0));
        int before = 1;
        for (int i = 0; i < 24; i++) {
            desk.seal(0);
            before = (53 * before + 186) % 65521;
            check.equal("seal of " + i, desk.sealOf(i), before);
        }
        check.equal("the third seal", desk.sealOf(2), 26185);
    }

    private void promise26IsWhole() {
        CountedDesk desk = Desks.with(Desks.signs(0, 0, 23));
        desk.seal(0);
        check.yes("whole as sealed", desk.isWhole(0));
        desk.write(0, 1);
        check.no("whole with one sign more", desk.isWhole(0));
        desk.seal(0);
        check.yes("the later one is whole", desk.isWhole(1));
        desk.erase(0);
        check.yes("whole with the sign erased", desk.isWhole(0));
        check.no("the later one is whole", desk.isWhole(1));
        Desks.rewrite(desk, 0, 6, 0, 0);
        check.yes("whole with other signs of the same digest", desk.isWhole(0));
        check.equal("a whole one's torn blocks", desk.tornBlocks(0), 1);
        check.equal("a whole one's first torn block", desk.firstTorn(0), 0);
        check.equal("a whole one's changed place", desk.changedPlace(0), -1);
        desk.tear(0, 1);
        check.no("whole with a tear", desk.isWhole(0));
    }

    private void promise27FirstBroken() {
        CountedDesk desk = Desks.with(Desks.signs(1), Desks.signs(2));
        check.equal("firstBroken of none", desk.firstBroken(), -1);
        desk.seal(0);
        desk.seal(1);
        desk.seal(0);
        check.equal("firstBroken of whole ones", desk.firstBroken(), -1);
        desk.tear(1, 0);
        check.equal("the second one is broken", desk.firstBroken(), 1);
        desk.tear(0, 0);
        check.equal("all are broken", desk.firstBroken(), 0);
        desk.mend(1, 0, 2);
        desk.mend(0, 0, 1);
        check.equal("all are mended", desk.firstBroken(), -1);
        desk.write(1, 3);
        desk.seal(0);
        desk.unseal();
        check.equal("the second one is broken again", desk.firstBroken(), 1);
        desk.unseal();
        desk.unseal();
        check.equal("the broken one is thrown away", desk.firstBroken(), -1);
    }

    private void promises28And29TornBlocks() {
        CountedDesk desk = Desks.with(Desks.signs(0, 0, 0, 0, 0, 1, 2, 0, 0, 0, 5));
        desk.seal(0);
        torn(desk, 0, -1);
        Desks.rewrite(desk, 0, 0, 0, 0, 0, 0, 2, 1, 0, 0, 0, 5);
        torn(desk, 1, 1);
        Desks.rewrite(desk, 0, 0, 0, 0, 0, 0, 17, 2, 0, 0, 0, 5);
        torn(desk, 1, 1);
        Desks.rewrite(desk, 0, 0, 0, 0, 0, 0, 1, 18, 0, 0, 0, 5);
        check.no("16 more at a second sign", desk.isWhole(0));
        torn(desk, 0, -1);
        Desks.rewrite(desk, 0, 0, 0, 0, 8, 0, 1, 2, 0, 24, 0, 5);
        check.no("8 and 24 more at a fourth sign", desk.isWhole(0));
        torn(desk, 0, -1);
        Desks.rewrite(desk, 0, 0, 0, 0, 0, 1, 1, 2, 0, 0, 0, 6);
        torn(desk, 2, 0);
        Desks.rewrite(desk, 0, 0, 0, 1, 0, 0, 0, 2, 0, 0, 0, 5);
        torn(desk, 2, 0);
        Desks.rewrite(desk, 0, 0, 0, 0, 0, 0, 1, 2, 0, 0, 0, 30);
        torn(desk, 1, 2);
    }

    private void promises28And29OtherLengths() {
        CountedDesk desk = Desks.with(Desks.repeated(0, 6));
        desk.seal(0);
        desk.write(0, 0);
        check.no("one sign more", desk.isWhole(0));
        torn(desk, 0, -1);
        Desks.append(desk, 0, 0, 0, 0);
        torn(desk, 0, -1);
        desk.write(0, 0);
        torn(desk, 1, 2);
        Desks.rewrite(desk, 0, Desks.repeated(0, 40));
        torn(desk, 6, 2);
        desk.forge(0, 0);
        torn(desk, 7, 0);
        Desks.rewrite(desk, 0, Desks.repeated(0, 5));
        torn(desk, 1, 1);
        Desks.rewrite(desk, 0);
        torn(desk, 2, 0);
        CountedDesk erased = Desks.with(Desks.signs(1, 2));
        erased.seal(0);
        erased.write(0, 9);
        erased.erase(0);
        torn(erased, 0, -1);
        Desks.rewrite(erased, 0, 1, 2, 0, 0, 0, 4);
        erased.unseal();
        erased.seal(0);
        erased.write(0, 9);
        erased.erase(0);
        torn(erased, 0, -1);
        CountedDesk full = Desks.with(Desks.repeated(0, 40));
        full.seal(0);
        Desks.rewrite(full, 0);
        torn(full, 8, 0);
        Desks.rewrite(full, 0, Desks.repeated(0, 36));
        torn(full, 0, -1);
        Desks.rewrite(full, 0, Desks.repeated(0, 35));
        torn(full, 1, 7);
        Desks.rewrite(full, 0, Desks.repeated(1, 39));
        torn(full, 8, 0);
    }

    private void promises30And31Changed() {
        CountedDesk desk = Desks.with(Desks.signs(11, 30, 21, 4, 26, 11));
        desk.seal(0);
        changed(desk, -1, 0);
        check.equal("mend", desk.mend(0, 1, 14), 0);
        changed(desk, 1, 30);
        desk.tear(0, 1);
        changed(desk, -1, 0);
        desk.forge(0, 0);
        changed(desk, 0, 11);
        Desks.rewrite(desk, 0, 11, 30, 21, 4, 26, 0);
        changed(desk, 5, 11);
        Desks.rewrite(desk, 0, 11, 30, 0, 4, 26, 11);
        changed(desk, 2, 21);
        desk.tear(0, 2);
        changed(desk, 2, 21);
        desk.seal(0);
        check.equal("changed since the second seal", desk.changedPlace(1), -1);
        changed(desk, 2, 21);
    }

    private void promises30And31NoPlace() {
        CountedDesk desk = Desks.with(Desks.signs(5, 5, 5, 5));
        desk.seal(0);
        Desks.rewrite(desk, 0, 6, 5, 6, 5);
        // Two signs were changed, but one, 7 in the place of 5 between them, would make both sums.
        changed(desk, 1, 3);
        Desks.rewrite(desk, 0, 6, 6, 5, 5);
        changed(desk, -1, 0);
        Desks.rewrite(desk, 0, 6, 3, 6, 5);
        check.no("the same sums", desk.isWhole(0));
        changed(desk, -1, 0);
        Desks.rewrite(desk, 0, 6, 4, 5, 5);
        changed(desk, -1, 0);
        Desks.rewrite(desk, 0, 5, 5, 5, 4, 0);
        changed(desk, -1, 0);
        Desks.rewrite(desk, 0, 5, 5, 5);
        changed(desk, -1, 0);
        Desks.rewrite(desk, 0);
        changed(desk, -1, 0);
        CountedDesk zeros = Desks.with(Desks.signs(3, 0));
        zeros.seal(0);
        Desks.rewrite(zeros, 0, 3);
        // Both sums are as written, but there are fewer signs.
        check.no("the same sums of fewer signs", zeros.isWhole(0));
        changed(zeros, -1, 0);
        Desks.rewrite(zeros, 0, 4);
        changed(zeros, -1, 0);
        CountedDesk whole = Desks.with(Desks.signs(10, 10, 2, 17));
        whole.seal(0);
        Desks.rewrite(whole, 0, 7, 7, 14, 10);
        check.yes("other signs of the same digest", whole.isWhole(0));
        // Another sign at place 0 would make both sums, but the envelope is whole.
        changed(whole, -1, 0);
    }

    private void promises30And31Bounds() {
        CountedDesk high = Desks.with(Desks.signs(29, 28, 29));
        high.seal(0);
        Desks.rewrite(high, 0, 28, 28, 28);
        changed(high, 1, 30);
        CountedDesk above = Desks.with(Desks.signs(29, 29, 29));
        above.seal(0);
        Desks.rewrite(above, 0, 28, 29, 28);
        changed(above, -1, 0);
        CountedDesk low = Desks.with(Desks.signs(1, 2, 1));
        low.seal(0);
        Desks.rewrite(low, 0, 2, 2, 2);
        changed(low, 1, 0);
        CountedDesk below = Desks.with(Desks.signs(1, 1, 1));
        below.seal(0);
        Desks.rewrite(below, 0, 2, 1, 2);
        changed(below, -1, 0);
        CountedDesk behind = Desks.with(Desks.signs(9, 9, 9));
        behind.seal(0);
        Desks.rewrite(behind, 0, 8, 9, 11);
        // One was added, five by place: it would be place 4, where no sign stands.
        changed(behind, -1, 0);
        Desks.rewrite(behind, 0, 9, 8, 11);
        // One was added, four by place: it would be place 3, right behind the last sign.
        changed(behind, -1, 0);
        behind.write(0, 9);
        behind.erase(0);
        changed(behind, -1, 0);
        CountedDesk full = Desks.with(Desks.repeated(9, 40));
        full.seal(0);
        full.erase(0);
        full.erase(0);
        Desks.append(full, 0, 8, 11);
        changed(full, -1, 0);
        CountedDesk last = Desks.with(Desks.repeated(0, 40));
        last.seal(0);
        last.tear(0, 39);
        changed(last, 39, 0);
    }

    private void promises22To31WrongInputs() {
        CountedDesk desk = Desks.with(Desks.signs(1, 2, 3), Desks.signs(4));
        desk.seal(0);
        desk.tear(0, 0);
        for (int envelope : WRONG) {
            refusesAll(desk, envelope);
        }
        CountedDesk none = new CountedDesk();
        refusesAll(none, 0);
        refusesAll(none, -1);
        CountedDesk full = Desks.with(Desks.signs(1));
        for (int i = 0; i < 24; i++) {
            full.seal(0);
        }
        refusesAll(full, 24);
        full.unseal();
        refusesAll(full, 23);
    }

    private void refusesAll(CountedDesk desk, int envelope) {
        check.refuses("letterIn " + envelope, desk, BOUNDS, () -> desk.letterIn(envelope));
        check.refuses("digestIn " + envelope, desk, BOUNDS, () -> desk.digestIn(envelope));
        check.refuses("sealOf " + envelope, desk, BOUNDS, () -> desk.sealOf(envelope));
        check.refuses("isWhole " + envelope, desk, BOUNDS, () -> desk.isWhole(envelope));
        check.refuses("tornBlocks " + envelope, desk, BOUNDS, () -> desk.tornBlocks(envelope));
        check.refuses("firstTorn " + envelope, desk, BOUNDS, () -> desk.firstTorn(envelope));
        check.refuses("changedPlace " + envelope, desk, BOUNDS, () -> desk.changedPlace(envelope));
        check.refuses("changedSign " + envelope, desk, BOUNDS, () -> desk.changedSign(envelope));
    }

    private void torn(CountedDesk desk, int blocks, int first) {
        String signs = Desks.signsIn(desk, 0);
        check.equal("torn blocks of " + signs, desk.tornBlocks(0), blocks);
        check.equal("first torn block of " + signs, desk.firstTorn(0), first);
    }

    private void changed(CountedDesk desk, int place, int sign) {
        String signs = Desks.signsIn(desk, 0);
        check.equal("changed place of " + signs, desk.changedPlace(0), place);
        if (place < 0) {
            check.refuses("changed sign of " + signs, desk, STATE, () -> desk.changedSign(0));
        } else {
            check.equal("changed sign of " + signs, desk.changedSign(0), sign);
        }
    }
}
