/**
 * A desk of sealed love letters: what each method promises, shared/DOC.md says.
 *
 * All calls of a run share one room, so all rows are made with the desk and used again:
 * no call makes an object, but for the exception that it throws.
 */
public final class LetterSeals {
    private static final int LETTER_LIMIT = 12;
    private static final int SIGN_LIMIT = 40;
    private static final int ENVELOPE_LIMIT = 24;
    private static final int BLOCK_SIZE = 5;
    private static final int BLOCK_LIMIT = SIGN_LIMIT / BLOCK_SIZE;

    private static final int LAST_WRITTEN_SIGN = 29;
    private static final int COMMA = 27;
    private static final int BLURRED = 30;

    private static final int DIGEST_START = 5;
    private static final int DIGEST_FACTOR = 37;
    private static final int DIGEST_DIVISOR = 8191;
    private static final int WINDOW_FACTOR = 7;
    private static final int WINDOW_DIVISOR = 97;
    private static final int BLOCK_DIVISOR = 32;
    private static final int SEAL_START = 1;
    private static final int SEAL_FACTOR = 53;
    private static final int SEAL_DIVISOR = 65521;

    private static final int CHECKSUM_START = 1979;
    private static final int CHECKSUM_FACTOR = 31;
    private static final int CHECKSUM_WINDOW = 2;

    private static final int NONE = -1;

    private final Letter[] letterRow = new Letter[LETTER_LIMIT];
    private final Envelope[] envelopeRow = new Envelope[ENVELOPE_LIMIT];
    private int letterCount;
    private int envelopeCount;

    public LetterSeals() {
        for (int i = 0; i < LETTER_LIMIT; i++) {
            letterRow[i] = new Letter();
        }
        for (int i = 0; i < ENVELOPE_LIMIT; i++) {
            envelopeRow[i] = new Envelope();
        }
    }

    // ---- letters

    public int addLetter() throws IllegalStateException {
        requireRoomForLetter();
        letterCount++;
        return letterCount - 1;
    }

    public int copyLetter(int letter) throws IndexOutOfBoundsException, IllegalStateException {
        Letter original = requireLetter(letter);
        requireRoomForLetter();
        letterRow[letterCount].copySigns(original);
        letterCount++;
        return letterCount - 1;
    }

    public int write(int letter, int sign)
            throws IndexOutOfBoundsException, IllegalArgumentException, IllegalStateException {
        Letter written = requireLetter(letter);
        requireWrittenSign(sign);
        if (written.count >= SIGN_LIMIT) {
            throw new IllegalStateException("the letter is full");
        }
        written.append(sign);
        return written.count;
    }

    public int erase(int letter) throws IndexOutOfBoundsException, IllegalStateException {
        Letter erased = requireLetter(letter);
        requireSigns(erased);
        return erased.removeLast();
    }

    public int forge(int letter, int place) throws IndexOutOfBoundsException, IllegalStateException {
        Letter forged = requireLetterWithPlace(letter, place);
        if (forged.signs[place] == COMMA) {
            throw new IllegalStateException("a comma is there");
        }
        return forged.replace(place, COMMA);
    }

    public int tear(int letter, int place) throws IndexOutOfBoundsException, IllegalStateException {
        Letter torn = requireLetterWithPlace(letter, place);
        if (torn.signs[place] == BLURRED) {
            throw new IllegalStateException("the sign is blurred");
        }
        return torn.replace(place, BLURRED);
    }

    public int mend(int letter, int place, int sign)
            throws IndexOutOfBoundsException, IllegalArgumentException, IllegalStateException {
        Letter mended = requireLetterWithPlace(letter, place);
        requireWrittenSign(sign);
        if (mended.signs[place] != BLURRED) {
            throw new IllegalStateException("the sign is not blurred");
        }
        mended.replace(place, sign);
        return mended.countOf(BLURRED);
    }

    // ---- envelopes

    public int seal(int letter) throws IndexOutOfBoundsException, IllegalStateException {
        Letter sealed = requireLetter(letter);
        if (envelopeCount >= ENVELOPE_LIMIT) {
            throw new IllegalStateException("there are 24 envelopes");
        }
        requireSigns(sealed);
        envelopeRow[envelopeCount].fill(letter, sealed, lastSeal());
        envelopeCount++;
        return envelopeCount - 1;
    }

    public int unseal() throws IllegalStateException {
        if (envelopeCount <= 0) {
            throw new IllegalStateException("there is no envelope");
        }
        envelopeCount--;
        return envelopeRow[envelopeCount].seal;
    }

    // ---- of letters

    public int letters() {
        return letterCount;
    }

    public int signsOf(int letter) throws IndexOutOfBoundsException {
        return requireLetter(letter).count;
    }

    public int commasOf(int letter) throws IndexOutOfBoundsException {
        return requireLetter(letter).countOf(COMMA);
    }

    public int tearsOf(int letter) throws IndexOutOfBoundsException {
        return requireLetter(letter).countOf(BLURRED);
    }

    public int digestOf(int letter) throws IndexOutOfBoundsException {
        return requireLetter(letter).signDigest();
    }

    public int signAt(int letter, int place) throws IndexOutOfBoundsException {
        return requireLetterWithPlace(letter, place).signs[place];
    }

    public int sumOf(int letter, int from, int length) throws IndexOutOfBoundsException, IllegalArgumentException {
        Letter summed = requireLetter(letter);
        // Taken away, not added up: from + length could wrap around.
        if (length < 1 || from < 0 || length > summed.count - from) {
            throw new IllegalArgumentException("the letter has no such window");
        }
        return summed.windowSum(from, length);
    }

    public int sameSums(int letter, int length) throws IndexOutOfBoundsException, IllegalArgumentException {
        Letter searched = requireLetter(letter);
        requireWindowLength(length);
        return searched.sameSumPairs(length);
    }

    public int falseAlarms(int letter, int length) throws IndexOutOfBoundsException, IllegalArgumentException {
        Letter searched = requireLetter(letter);
        requireWindowLength(length);
        return searched.falseAlarmPairs(length);
    }

    public int firstOf(int letter, int other) throws IndexOutOfBoundsException, IllegalStateException {
        Letter searched = requireLetter(letter);
        Letter sought = requireLetter(other);
        requireSigns(sought);
        return searched.firstPlaceOf(sought);
    }

    public int doubles() {
        int pairs = 0;
        for (int one = 0; one < letterCount; one++) {
            int digest = letterRow[one].signDigest();
            for (int other = one + 1; other < letterCount; other++) {
                if (letterRow[other].signDigest() == digest && !letterRow[one].hasSameSigns(letterRow[other])) {
                    pairs++;
                }
            }
        }
        return pairs;
    }

    // ---- of envelopes

    public int envelopes() {
        return envelopeCount;
    }

    public int letterIn(int envelope) throws IndexOutOfBoundsException {
        return requireEnvelope(envelope).letterNumber;
    }

    public int digestIn(int envelope) throws IndexOutOfBoundsException {
        return requireEnvelope(envelope).digest;
    }

    public int sealOf(int envelope) throws IndexOutOfBoundsException {
        return requireEnvelope(envelope).seal;
    }

    public boolean isWhole(int envelope) throws IndexOutOfBoundsException {
        Envelope asked = requireEnvelope(envelope);
        return asked.fits(letterRow[asked.letterNumber]);
    }

    public int firstBroken() {
        for (int i = 0; i < envelopeCount; i++) {
            Envelope asked = envelopeRow[i];
            if (!asked.fits(letterRow[asked.letterNumber])) {
                return i;
            }
        }
        return NONE;
    }

    public int tornBlocks(int envelope) throws IndexOutOfBoundsException {
        Envelope asked = requireEnvelope(envelope);
        return asked.tornBlockCount(letterRow[asked.letterNumber]);
    }

    public int firstTorn(int envelope) throws IndexOutOfBoundsException {
        Envelope asked = requireEnvelope(envelope);
        return asked.firstTornBlock(letterRow[asked.letterNumber]);
    }

    public int changedPlace(int envelope) throws IndexOutOfBoundsException {
        Envelope asked = requireEnvelope(envelope);
        return asked.placeOfChange(letterRow[asked.letterNumber]);
    }

    public int changedSign(int envelope) throws IndexOutOfBoundsException, IllegalStateException {
        Envelope asked = requireEnvelope(envelope);
        Letter now = letterRow[asked.letterNumber];
        int place = asked.placeOfChange(now);
        if (place < 0) {
            throw new IllegalStateException("no one sign was changed");
        }
        return now.signs[place] + asked.lostInSum(now);
    }

    // ---- what would be

    public int wouldSeal(int letter) throws IndexOutOfBoundsException, IllegalStateException {
        Letter sealed = requireLetter(letter);
        requireSigns(sealed);
        return chainedSeal(lastSeal(), sealed.signDigest());
    }

    public int unnoticed(int letter) throws IndexOutOfBoundsException {
        return requireLetter(letter).unnoticedPlaces();
    }

    public int worstTear(int letter) throws IndexOutOfBoundsException {
        return requireLetter(letter).worstPlace();
    }

    public double meanSigns() {
        if (letterCount == 0) {
            return 0;
        }
        int total = 0;
        for (int i = 0; i < letterCount; i++) {
            total += letterRow[i].count;
        }
        return (double) total / letterCount;
    }

    public long digest() {
        long d = CHECKSUM_START;
        d = d * CHECKSUM_FACTOR + letterCount;
        d = d * CHECKSUM_FACTOR + envelopeCount;
        d = d * CHECKSUM_FACTOR + doubles();
        d = d * CHECKSUM_FACTOR + firstBroken();
        for (int i = 0; i < letterCount; i++) {
            d = withLetter(d, letterRow[i]);
        }
        for (int i = 0; i < envelopeCount; i++) {
            d = withEnvelope(d, envelopeRow[i]);
        }
        return d;
    }

    private static long withLetter(long before, Letter letter) {
        long d = before;
        d = d * CHECKSUM_FACTOR + letter.count;
        d = d * CHECKSUM_FACTOR + letter.countOf(COMMA);
        d = d * CHECKSUM_FACTOR + letter.countOf(BLURRED);
        d = d * CHECKSUM_FACTOR + letter.signDigest();
        d = d * CHECKSUM_FACTOR + letter.sameSumPairs(CHECKSUM_WINDOW);
        d = d * CHECKSUM_FACTOR + letter.falseAlarmPairs(CHECKSUM_WINDOW);
        d = d * CHECKSUM_FACTOR + letter.unnoticedPlaces();
        d = d * CHECKSUM_FACTOR + letter.worstPlace();
        return d;
    }

    private long withEnvelope(long before, Envelope envelope) {
        Letter now = letterRow[envelope.letterNumber];
        long d = before;
        d = d * CHECKSUM_FACTOR + envelope.letterNumber;
        d = d * CHECKSUM_FACTOR + envelope.digest;
        d = d * CHECKSUM_FACTOR + envelope.seal;
        d = d * CHECKSUM_FACTOR + (envelope.fits(now) ? 1 : 0);
        d = d * CHECKSUM_FACTOR + envelope.tornBlockCount(now);
        d = d * CHECKSUM_FACTOR + envelope.firstTornBlock(now);
        d = d * CHECKSUM_FACTOR + envelope.placeOfChange(now);
        return d;
    }

    private int lastSeal() {
        return envelopeCount > 0 ? envelopeRow[envelopeCount - 1].seal : SEAL_START;
    }

    private static int chainedSeal(int sealBefore, int digest) {
        return (sealBefore * SEAL_FACTOR + digest) % SEAL_DIVISOR;
    }

    private Letter requireLetter(int letter) {
        if (letter < 0 || letter >= letterCount) {
            throw new IndexOutOfBoundsException("there is no such letter");
        }
        return letterRow[letter];
    }

    private Letter requireLetterWithPlace(int letter, int place) {
        Letter found = requireLetter(letter);
        if (place < 0 || place >= found.count) {
            throw new IndexOutOfBoundsException("there is no sign at this place");
        }
        return found;
    }

    private Envelope requireEnvelope(int envelope) {
        if (envelope < 0 || envelope >= envelopeCount) {
            throw new IndexOutOfBoundsException("there is no such envelope");
        }
        return envelopeRow[envelope];
    }

    private void requireRoomForLetter() {
        if (letterCount >= LETTER_LIMIT) {
            throw new IllegalStateException("there are 12 letters");
        }
    }

    private static void requireWrittenSign(int sign) {
        if (sign < 0 || sign > LAST_WRITTEN_SIGN) {
            throw new IllegalArgumentException("a sign is 0 to 29");
        }
    }

    private static void requireWindowLength(int length) {
        if (length < 1 || length > SIGN_LIMIT) {
            throw new IllegalArgumentException("a length is 1 to 40");
        }
    }

    private static void requireSigns(Letter letter) {
        if (letter.count <= 0) {
            throw new IllegalStateException("the letter has no signs");
        }
    }

    /** Its callers look at places and lengths before they pass them, so its methods do not look again. */
    private static final class Letter {
        private final int[] signs = new int[SIGN_LIMIT];
        private final int[] windowSums = new int[SIGN_LIMIT];
        private int count;

        void copySigns(Letter original) {
            for (int place = 0; place < original.count; place++) {
                signs[place] = original.signs[place];
            }
            count = original.count;
        }

        void append(int sign) {
            signs[count] = sign;
            count++;
        }

        int removeLast() {
            count--;
            return signs[count];
        }

        int replace(int place, int sign) {
            int before = signs[place];
            signs[place] = sign;
            return before;
        }

        int countOf(int sign) {
            int found = 0;
            for (int place = 0; place < count; place++) {
                if (signs[place] == sign) {
                    found++;
                }
            }
            return found;
        }

        int signDigest() {
            int digest = DIGEST_START;
            for (int place = 0; place < count; place++) {
                digest = (digest * DIGEST_FACTOR + signs[place] + 1) % DIGEST_DIVISOR;
            }
            return digest;
        }

        int windowSum(int from, int length) {
            int sum = 0;
            for (int step = 0; step < length; step++) {
                sum = (sum * WINDOW_FACTOR + signs[from + step] + 1) % WINDOW_DIVISOR;
            }
            return sum;
        }

        int sameSumPairs(int length) {
            int windows = fillWindowSums(length);
            int pairs = 0;
            for (int one = 0; one < windows; one++) {
                for (int other = one + 1; other < windows; other++) {
                    if (windowSums[one] == windowSums[other]) {
                        pairs++;
                    }
                }
            }
            return pairs;
        }

        int falseAlarmPairs(int length) {
            int windows = fillWindowSums(length);
            int pairs = 0;
            for (int one = 0; one < windows; one++) {
                for (int other = one + 1; other < windows; other++) {
                    if (windowSums[one] == windowSums[other] && !sameRun(one, this, other, length)) {
                        pairs++;
                    }
                }
            }
            return pairs;
        }

        // For a letter that is shorter than a window the number is 0 or less, which ends the loops over pairs.
        private int fillWindowSums(int length) {
            int windows = count - length + 1;
            for (int from = 0; from < windows; from++) {
                windowSums[from] = windowSum(from, length);
            }
            return windows;
        }

        int firstPlaceOf(Letter sought) {
            for (int from = 0; from + sought.count <= count; from++) {
                if (sameRun(from, sought, 0, sought.count)) {
                    return from;
                }
            }
            return NONE;
        }

        boolean hasSameSigns(Letter other) {
            return count == other.count && sameRun(0, other, 0, count);
        }

        private boolean sameRun(int from, Letter other, int otherFrom, int length) {
            for (int step = 0; step < length; step++) {
                if (signs[from + step] != other.signs[otherFrom + step]) {
                    return false;
                }
            }
            return true;
        }

        int blockCount() {
            return (count + BLOCK_SIZE - 1) / BLOCK_SIZE;
        }

        int blockSum(int block) {
            int first = block * BLOCK_SIZE;
            int sum = 0;
            for (int step = 0; step < BLOCK_SIZE && first + step < count; step++) {
                sum += (step + 1) * signs[first + step];
            }
            return sum % BLOCK_DIVISOR;
        }

        int signSum() {
            int sum = 0;
            for (int place = 0; place < count; place++) {
                sum += signs[place];
            }
            return sum;
        }

        int weightedSum() {
            int sum = 0;
            for (int place = 0; place < count; place++) {
                sum += signs[place] * (place + 1);
            }
            return sum;
        }

        int unnoticedPlaces() {
            int places = 0;
            for (int place = 0; place < count; place++) {
                int change = (place % BLOCK_SIZE + 1) * (COMMA - signs[place]);
                // Where a comma is already, none can be forged.
                if (signs[place] != COMMA && change % BLOCK_DIVISOR == 0) {
                    places++;
                }
            }
            return places;
        }

        int worstPlace() {
            int now = signDigest();
            int worst = NONE;
            int most = 0;
            // From the last place on, as each sign counts 37 times as much in the digest as the one behind it.
            int weight = 1;
            for (int place = count - 1; place >= 0; place--) {
                int torn = (now + (BLURRED - signs[place]) * weight) % DIGEST_DIVISOR;
                int change = Math.abs(torn - now);
                // An equal change counts too: the first of the places is asked for, and they come backwards.
                if (signs[place] != BLURRED && change >= most) {
                    most = change;
                    worst = place;
                }
                weight = weight * DIGEST_FACTOR % DIGEST_DIVISOR;
            }
            return worst;
        }
    }

    /** Keeps sums instead of the letter, which can be changed after it was sealed. */
    private static final class Envelope {
        private final int[] blockSums = new int[BLOCK_LIMIT];
        private int letterNumber;
        private int digest;
        private int signCount;
        private int blockCount;
        private int signSum;
        private int weightedSum;
        private int seal;

        void fill(int number, Letter letter, int sealBefore) {
            letterNumber = number;
            digest = letter.signDigest();
            signCount = letter.count;
            blockCount = letter.blockCount();
            for (int block = 0; block < blockCount; block++) {
                blockSums[block] = letter.blockSum(block);
            }
            signSum = letter.signSum();
            weightedSum = letter.weightedSum();
            seal = chainedSeal(sealBefore, digest);
        }

        boolean fits(Letter now) {
            return now.signDigest() == digest;
        }

        int tornBlockCount(Letter now) {
            int torn = 0;
            for (int block = 0; block < BLOCK_LIMIT; block++) {
                if (isTorn(now, block)) {
                    torn++;
                }
            }
            return torn;
        }

        int firstTornBlock(Letter now) {
            for (int block = 0; block < BLOCK_LIMIT; block++) {
                if (isTorn(now, block)) {
                    return block;
                }
            }
            return NONE;
        }

        private boolean isTorn(Letter now, int block) {
            boolean wasThere = block < blockCount;
            boolean isThere = block < now.blockCount();
            if (wasThere != isThere) {
                return true;
            }
            return isThere && now.blockSum(block) != blockSums[block];
        }

        int lostInSum(Letter now) {
            return signSum - now.signSum();
        }

        int placeOfChange(Letter now) {
            int lost = lostInSum(now);
            // With nothing lost no other sign, but only the same one, would make the sum that is written.
            if (fits(now) || now.count != signCount || lost == 0) {
                return NONE;
            }
            int lostWeighted = weightedSum - now.weightedSum();
            for (int place = 0; place < now.count; place++) {
                int before = now.signs[place] + lost;
                if (before >= 0 && before <= BLURRED && lost * (place + 1) == lostWeighted) {
                    return place;
                }
            }
            return NONE;
        }
    }
}
