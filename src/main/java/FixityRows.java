/**
 * Files kept with their digests, checked by schedules, mended from copies, and
 * a chain of rows about them in which each row has the digest of the one before.
 */
public final class FixityRows {
    public static final int NONE = -1;
    public static final int RANGE = -2;
    public static final int STATE = -3;
    public static final int FULL = -4;

    private static final int NO_COPY = -10;
    private static final int SOME_LEFT = -10;

    private static final int MOST_FILES = 20;
    private static final int MOST_OCTETS = 200;
    private static final int MOST_ROWS = 200;
    private static final int MOST_SPAN = 1000;
    private static final int LAST_DAY = 1000000;

    private static final int WORDS = 8;
    private static final int LONG_DIGEST = 32;
    private static final int SHORT_DIGEST = 4;
    private static final int BIT_OF_LONG = 1;
    private static final int BIT_OF_SHORT = 2;

    private static final int CAME = 0;
    private static final int FITTED = 1;
    private static final int FAILED = 2;
    private static final int MENDED = 3;

    private final int capacity;
    private final LongDigest longDigest;
    private final ShortDigest shortDigest;
    private final Octets collected;
    private final int[] latestDigest;
    private int latestLength;
    private final KeptFile[] files;
    private int fileCount;
    private final RowChain rows;
    private final int[] checkedFiles;
    private final boolean[] checkedFits;
    private int checkedCount;
    private int workedDay;

    public FixityRows(int capacity) {
        this.capacity = Math.max(1, Math.min(MOST_FILES, capacity));
        longDigest = new LongDigest();
        shortDigest = new ShortDigest();
        collected = new Octets();
        latestDigest = new int[WORDS];
        files = new KeptFile[MOST_FILES];
        for (int i = 0; i < MOST_FILES; i++) {
            files[i] = new KeptFile();
        }
        rows = new RowChain();
        checkedFiles = new int[MOST_FILES];
        checkedFits = new boolean[MOST_FILES];
        // Below every day, so that the first day worked may be any.
        workedDay = -1;
    }

    public void octet(int b) {
        collected.push(b);
    }

    public int digest(int algorithm) {
        if (algorithm == 0) {
            longDigest.compute(collected);
            longDigest.copyTo(latestDigest);
            latestLength = LONG_DIGEST;
            return LONG_DIGEST;
        }
        if (algorithm == 1) {
            latestDigest[0] = shortDigest.compute(collected);
            latestLength = SHORT_DIGEST;
            return SHORT_DIGEST;
        }
        return RANGE;
    }

    public int at(int i) throws ArrayIndexOutOfBoundsException {
        if (i < 0 || i >= latestLength) {
            throw new ArrayIndexOutOfBoundsException("no such byte of a digest");
        }
        return latestDigest[i >> 2] >>> (24 - 8 * (i & 3)) & 255;
    }

    public int file(int algorithms, int day) {
        if (algorithms < 1 || algorithms > 3 || !isDay(day)) {
            return RANGE;
        }
        if (fileCount >= MOST_FILES) {
            return FULL;
        }
        int number = fileCount;
        KeptFile kept = files[number];
        kept.octets.copyFrom(collected);
        kept.algorithms = algorithms;
        longDigest.compute(collected);
        longDigest.copyTo(kept.longWords);
        kept.shortWord = shortDigest.compute(collected);
        fileCount++;
        collected.shorten(0);
        rows.append(CAME, number, day);
        return number;
    }

    public int alter(int file, int i, int b) {
        if (!isFile(file)) {
            return NONE;
        }
        Octets octets = files[file].octets;
        if (!octets.has(i)) {
            return NONE;
        }
        int before = octets.value(i);
        octets.replace(i, b);
        return before;
    }

    public int cut(int file, int size) {
        if (!isFile(file)) {
            return NONE;
        }
        Octets octets = files[file].octets;
        int before = octets.count();
        if (size < 0 || size > before) {
            return RANGE;
        }
        octets.shorten(size);
        return before - size;
    }

    public int read(int file, int day) {
        if (!isFile(file)) {
            return NONE;
        }
        if (!isDay(day)) {
            return RANGE;
        }
        return check(file, day) ? 1 : 0;
    }

    public int schedule(int file, int day, int span) {
        if (!isFile(file)) {
            return NONE;
        }
        if (!isDay(day) || span < 1 || span > MOST_SPAN) {
            return RANGE;
        }
        files[file].plan(day, span);
        return 1;
    }

    public int due(int day) {
        if (!isDay(day)) {
            return RANGE;
        }
        if (day < workedDay) {
            return STATE;
        }
        workedDay = day;
        checkedCount = 0;
        for (int n = 0; n < capacity; n++) {
            int next = longestWaiting(day);
            if (next == NONE) {
                break;
            }
            checkedFiles[n] = next;
            checkedFits[n] = check(next, day);
            checkedCount = n + 1;
            files[next].planBehind(day);
        }
        int left = countWaiting(day);
        return left == 0 ? checkedCount : SOME_LEFT - left;
    }

    public int told(int i, int what) {
        if (i < 0 || i >= checkedCount) {
            return NONE;
        }
        switch (what) {
            case 0:
                return checkedFiles[i];
            case 1:
                return checkedFits[i] ? 1 : 0;
            default:
                return NONE;
        }
    }

    public int mend(int file, int day) {
        if (!isFile(file)) {
            return NONE;
        }
        if (!isDay(day)) {
            return RANGE;
        }
        KeptFile kept = files[file];
        if (matches(kept.octets, kept)) {
            return STATE;
        }
        int source = firstCopyFor(kept);
        if (source == NONE) {
            return NO_COPY;
        }
        kept.octets.copyFrom(files[source].octets);
        kept.mendings++;
        rows.append(MENDED, file, day);
        return source;
    }

    public int about(int file, int what) {
        if (!isFile(file)) {
            return NONE;
        }
        KeptFile kept = files[file];
        switch (what) {
            case 0:
                return kept.octets.count();
            case 1:
                return kept.fittedDay;
            case 2:
                return kept.nextDay;
            case 3:
                return kept.mendings;
            default:
                return NONE;
        }
    }

    public int row(int i, int what) {
        if (!rows.has(i)) {
            return NONE;
        }
        switch (what) {
            case 0:
                return rows.kindOf(i);
            case 1:
                return rows.fileOf(i);
            case 2:
                return rows.dayOf(i);
            case 3:
                return rows.firstWordOf(i);
            default:
                return NONE;
        }
    }

    public int spoil(int i, int mask) {
        if (!rows.has(i)) {
            return NONE;
        }
        if (mask == 0) {
            rows.remove(i);
            return 0;
        }
        rows.changeDay(i, mask);
        return 1;
    }

    public int chain() {
        return rows.firstBroken();
    }

    private static boolean isDay(int day) {
        return day >= 0 && day <= LAST_DAY;
    }

    private boolean isFile(int file) {
        return file >= 0 && file < fileCount;
    }

    /** Whether the octets have all DIGESTS of a file, be they its own or another's. */
    private boolean matches(Octets octets, KeptFile kept) {
        if ((kept.algorithms & BIT_OF_SHORT) != 0 && shortDigest.compute(octets) != kept.shortWord) {
            return false;
        }
        if ((kept.algorithms & BIT_OF_LONG) == 0) {
            return true;
        }
        longDigest.compute(octets);
        return longDigest.equalTo(kept.longWords);
    }

    /** Asked only for files that there are: each caller has looked. */
    private boolean check(int file, int day) {
        KeptFile kept = files[file];
        boolean fits = matches(kept.octets, kept);
        if (fits) {
            kept.fittedDay = day;
        }
        rows.append(fits ? FITTED : FAILED, file, day);
        return fits;
    }

    private int longestWaiting(int day) {
        int found = NONE;
        int foundDay = day;
        for (int i = 0; i < fileCount; i++) {
            KeptFile kept = files[i];
            // Strictly earlier, so that among equal days the lowest number stays.
            if (kept.isWaiting(day) && (found == NONE || kept.nextDay < foundDay)) {
                found = i;
                foundDay = kept.nextDay;
            }
        }
        return found;
    }

    private int countWaiting(int day) {
        int waiting = 0;
        for (int i = 0; i < fileCount; i++) {
            if (files[i].isWaiting(day)) {
                waiting++;
            }
        }
        return waiting;
    }

    /** Asked only for a file that does not FIT, so it never finds that file itself. */
    private int firstCopyFor(KeptFile broken) {
        for (int i = 0; i < fileCount; i++) {
            KeptFile other = files[i];
            if (matches(other.octets, other) && matches(other.octets, broken)) {
                return i;
            }
        }
        return NONE;
    }

    /** At most MOST_OCTETS bytes, each 0 .. 255. */
    private static final class Octets {
        private final int[] values = new int[MOST_OCTETS];
        private int size;

        int count() {
            return size;
        }

        boolean has(int i) {
            return i >= 0 && i < size;
        }

        int value(int i) {
            return i >= 0 && i < size ? values[i] : 0;
        }

        void push(int b) {
            if (size < MOST_OCTETS) {
                values[size] = b & 255;
                size++;
            }
        }

        void pushWord(int word) {
            for (int shift = 24; shift >= 0; shift -= 8) {
                push(word >>> shift);
            }
        }

        void replace(int i, int b) {
            if (has(i)) {
                values[i] = b & 255;
            }
        }

        void shorten(int newSize) {
            if (newSize >= 0 && newSize < size) {
                size = newSize;
            }
        }

        void copyFrom(Octets other) {
            size = other.size;
            for (int i = 0; i < size; i++) {
                values[i] = other.values[i];
            }
        }
    }

    /** ALGORITHM 0. Its rows of words are used again for each digest. */
    private static final class LongDigest {
        private static final int BLOCK = 64;
        private static final int BLOCK_WORDS = 16;
        private static final int LENGTH_OCTETS = 8;
        private static final int ROUNDS = 64;

        private static final int[] ROOTS = {
            0x6a09e667, 0xbb67ae85, 0x3c6ef372, 0xa54ff53a,
            0x510e527f, 0x9b05688c, 0x1f83d9ab, 0x5be0cd19,
        };

        private static final int[] K = {
            0x428a2f98, 0x71374491, 0xb5c0fbcf, 0xe9b5dba5,
            0x3956c25b, 0x59f111f1, 0x923f82a4, 0xab1c5ed5,
            0xd807aa98, 0x12835b01, 0x243185be, 0x550c7dc3,
            0x72be5d74, 0x80deb1fe, 0x9bdc06a7, 0xc19bf174,
            0xe49b69c1, 0xefbe4786, 0x0fc19dc6, 0x240ca1cc,
            0x2de92c6f, 0x4a7484aa, 0x5cb0a9dc, 0x76f988da,
            0x983e5152, 0xa831c66d, 0xb00327c8, 0xbf597fc7,
            0xc6e00bf3, 0xd5a79147, 0x06ca6351, 0x14292967,
            0x27b70a85, 0x2e1b2138, 0x4d2c6dfc, 0x53380d13,
            0x650a7354, 0x766a0abb, 0x81c2c92e, 0x92722c85,
            0xa2bfe8a1, 0xa81a664b, 0xc24b8b70, 0xc76c51a3,
            0xd192e819, 0xd6990624, 0xf40e3585, 0x106aa070,
            0x19a4c116, 0x1e376c08, 0x2748774c, 0x34b0bcb5,
            0x391c0cb3, 0x4ed8aa4a, 0x5b9cca4f, 0x682e6ff3,
            0x748f82ee, 0x78a5636f, 0x84c87814, 0x8cc70208,
            0x90befffa, 0xa4506ceb, 0xbef9a3f7, 0xc67178f2,
        };

        private final int[] eight = new int[WORDS];
        private final int[] w = new int[ROUNDS];

        void compute(Octets octets) {
            for (int k = 0; k < WORDS; k++) {
                eight[k] = ROOTS[k];
            }
            int size = octets.count();
            int blocks = (size + LENGTH_OCTETS) / BLOCK + 1;
            for (int block = 0; block < blocks; block++) {
                for (int t = 0; t < BLOCK_WORDS; t++) {
                    w[t] = paddedWord(octets, block * BLOCK + t * 4);
                }
                if (block == blocks - 1) {
                    // The bits fit one word; the word before it is left 0 by the padding.
                    w[BLOCK_WORDS - 1] = size * 8;
                }
                widen();
                mix();
            }
        }

        void copyTo(int[] words) {
            for (int k = 0; k < WORDS && k < words.length; k++) {
                words[k] = eight[k];
            }
        }

        boolean equalTo(int[] words) {
            for (int k = 0; k < WORDS && k < words.length; k++) {
                if (words[k] != eight[k]) {
                    return false;
                }
            }
            return true;
        }

        private static int paddedWord(Octets octets, int from) {
            int size = octets.count();
            int word = 0;
            for (int k = 0; k < 4; k++) {
                int i = from + k;
                word = word << 8 | (i == size ? 128 : octets.value(i));
            }
            return word;
        }

        private void widen() {
            for (int t = BLOCK_WORDS; t < ROUNDS; t++) {
                w[t] = w[t - 16] + smallSigma0(w[t - 15]) + w[t - 7] + smallSigma1(w[t - 2]);
            }
        }

        private void mix() {
            int a = eight[0];
            int b = eight[1];
            int c = eight[2];
            int d = eight[3];
            int e = eight[4];
            int f = eight[5];
            int g = eight[6];
            int h = eight[7];
            for (int t = 0; t < ROUNDS; t++) {
                int t1 = h + bigSigma1(e) + (e & f ^ ~e & g) + K[t] + w[t];
                int t2 = bigSigma0(a) + (a & b ^ a & c ^ b & c);
                h = g;
                g = f;
                f = e;
                e = d + t1;
                d = c;
                c = b;
                b = a;
                a = t1 + t2;
            }
            eight[0] += a;
            eight[1] += b;
            eight[2] += c;
            eight[3] += d;
            eight[4] += e;
            eight[5] += f;
            eight[6] += g;
            eight[7] += h;
        }

        // The rotations are written out in place to keep the calls few levels deep.

        private static int smallSigma0(int x) {
            return (x >>> 7 | x << 25) ^ (x >>> 18 | x << 14) ^ x >>> 3;
        }

        private static int smallSigma1(int x) {
            return (x >>> 17 | x << 15) ^ (x >>> 19 | x << 13) ^ x >>> 10;
        }

        private static int bigSigma0(int x) {
            return (x >>> 2 | x << 30) ^ (x >>> 13 | x << 19) ^ (x >>> 22 | x << 10);
        }

        private static int bigSigma1(int x) {
            return (x >>> 6 | x << 26) ^ (x >>> 11 | x << 21) ^ (x >>> 25 | x << 7);
        }
    }

    /** ALGORITHM 1. */
    private static final class ShortDigest {
        private static final int ENTRIES = 256;
        private static final int POLYNOMIAL = 0xEDB88320;

        private final int[] table = new int[ENTRIES];

        ShortDigest() {
            for (int n = 0; n < ENTRIES; n++) {
                table[n] = entry(n);
            }
        }

        int compute(Octets octets) {
            int r = -1;
            for (int i = 0; i < octets.count(); i++) {
                r = r >>> 8 ^ table[(r ^ octets.value(i)) & 255];
            }
            return ~r;
        }

        private static int entry(int n) {
            int word = n;
            for (int k = 0; k < 8; k++) {
                boolean odd = (word & 1) != 0;
                word = word >>> 1;
                if (odd) {
                    word = word ^ POLYNOMIAL;
                }
            }
            return word;
        }
    }

    /** A file with its DIGESTS, its SCHEDULE and what is told about it. */
    private static final class KeptFile {
        private final Octets octets = new Octets();
        private final int[] longWords = new int[WORDS];
        private int shortWord;
        private int algorithms;
        private int fittedDay = NONE;
        private int nextDay = NONE;
        private int span;
        private int mendings;

        void plan(int day, int newSpan) {
            nextDay = day;
            span = newSpan;
        }

        boolean isWaiting(int day) {
            return span > 0 && nextDay <= day;
        }

        void planBehind(int day) {
            if (isWaiting(day)) {
                // In one step, as a short SPAN may have been missed a million times.
                nextDay += ((day - nextDay) / span + 1) * span;
            }
        }
    }

    /** THE CHAIN: what, file, day and digest of each row, number by number. */
    private static final class RowChain {
        private final LongDigest longDigest = new LongDigest();
        private final Octets sealed = new Octets();
        private final int[] kinds = new int[MOST_ROWS];
        private final int[] fileNumbers = new int[MOST_ROWS];
        private final int[] days = new int[MOST_ROWS];
        private final int[][] digests = new int[MOST_ROWS][WORDS];
        private int count;

        boolean has(int i) {
            return i >= 0 && i < count;
        }

        int kindOf(int i) {
            return has(i) ? kinds[i] : NONE;
        }

        int fileOf(int i) {
            return has(i) ? fileNumbers[i] : NONE;
        }

        int dayOf(int i) {
            return has(i) ? days[i] : NONE;
        }

        int firstWordOf(int i) {
            return has(i) ? digests[i][0] : NONE;
        }

        void append(int kind, int file, int day) {
            if (count >= MOST_ROWS) {
                return;
            }
            int i = count;
            kinds[i] = kind;
            fileNumbers[i] = file;
            days[i] = day;
            count++;
            computeDigestOf(i);
            longDigest.copyTo(digests[i]);
        }

        void changeDay(int i, int mask) {
            if (has(i)) {
                days[i] ^= mask;
            }
        }

        void remove(int i) {
            if (!has(i)) {
                return;
            }
            for (int k = i; k < count - 1; k++) {
                kinds[k] = kinds[k + 1];
                fileNumbers[k] = fileNumbers[k + 1];
                days[k] = days[k + 1];
                for (int n = 0; n < WORDS; n++) {
                    digests[k][n] = digests[k + 1][n];
                }
            }
            count--;
        }

        int firstBroken() {
            for (int i = 0; i < count; i++) {
                computeDigestOf(i);
                if (!longDigest.equalTo(digests[i])) {
                    return i;
                }
            }
            return NONE;
        }

        private void computeDigestOf(int i) {
            sealed.shorten(0);
            for (int k = 0; k < WORDS; k++) {
                sealed.pushWord(has(i - 1) ? digests[i - 1][k] : 0);
            }
            sealed.pushWord(kindOf(i));
            sealed.pushWord(fileOf(i));
            sealed.pushWord(dayOf(i));
            longDigest.compute(sealed);
        }
    }
}
