import java.io.IOException;
import java.lang.annotation.ElementType;
import java.lang.annotation.Retention;
import java.lang.annotation.RetentionPolicy;
import java.lang.annotation.Target;
import java.lang.reflect.InvocationTargetException;
import java.lang.reflect.Method;
import java.math.BigInteger;
import java.nio.file.Files;
import java.nio.file.Path;
import java.util.ArrayList;
import java.util.Arrays;
import java.util.Comparator;
import java.util.List;
import java.util.Map;
import java.util.TreeMap;

/**
 * The document sentence by sentence. Each test bears the promise's number (or terms, or whatItIs) and
 * what the sentence says of a boundary case; above it stand the sentence's own words and the heading
 * under which they are found in ../shared/DOC.md. The document's words are compared with these, and a
 * word of the terms or promises that no test names is a fault.
 */
public final class SentencesTest {
    @Retention(RetentionPolicy.RUNTIME)
    @Target(ElementType.METHOD)
    private @interface Sentence {
        String at();

        String says();
    }

    private static final Path DOCUMENT = Path.of("..", "shared", "DOC.md");
    private static final String TERMS = "Terms";
    private static final String P1 = "Promise 1: A new object";
    private static final String P2 = "Promise 2: octet";
    private static final String P3 = "Promise 3: digest";
    private static final String P4 = "Promise 4: at";
    private static final String P5 = "Promise 5: file";
    private static final String P6 = "Promise 6: alter";
    private static final String P7 = "Promise 7: cut";
    private static final String P8 = "Promise 8: read";
    private static final String P9 = "Promise 9: schedule";
    private static final String P10 = "Promise 10: due";
    private static final String P11 = "Promise 11: told";
    private static final String P12 = "Promise 12: mend";
    private static final String P13 = "Promise 13: about";
    private static final String P14 = "Promise 14: row";
    private static final String P15 = "Promise 15: spoil";
    private static final String P16 = "Promise 16: chain";

    private static final int NONE = -1;
    private static final int RANGE = -2;
    private static final int STATE = -3;
    private static final int FULL = -4;
    private static final int NO_COPY = -10;
    private static final int LEAST = Integer.MIN_VALUE;
    private static final int MOST = Integer.MAX_VALUE;
    private static final int LAST_DAY = 1000000;
    private static final int MOST_CALLS = 512;
    private static final int[] WRONG_DAYS = {-1, LAST_DAY + 1, LEAST, MOST};
    private static final int[] SAME_SHORT = {10, 20, 30, 40, 50};

    private static String test = "";
    private static int asked = 0;
    private static int wrong = 0;

    public static void main(String[] args) throws IOException, IllegalAccessException {
        List<Method> tests = new ArrayList<>();
        for (Method method : SentencesTest.class.getDeclaredMethods()) {
            if (method.isAnnotationPresent(Sentence.class)) {
                tests.add(method);
            }
        }
        tests.sort(Comparator.comparing(Method::getName));
        for (Method method : tests) {
            run(method);
        }
        compareWithDocument(tests);
        System.out.println(tests.size() + " tests, " + asked + " answers, " + wrong + " faults");
        if (wrong != 0) {
            System.exit(1);
        }
    }

    private static void run(Method method) throws IllegalAccessException {
        test = method.getName();
        int askedBefore = asked;
        int wrongBefore = wrong;
        try {
            method.invoke(null);
        } catch (InvocationTargetException e) {
            fault("threw " + e.getCause());
        }
        if (asked == askedBefore) {
            fault("asked nothing");
        }
        System.out.println((wrong == wrongBefore ? "holds   " : "BROKEN  ") + test);
    }

    private static void fault(String text) {
        wrong++;
        System.out.println(test + ": " + text);
    }

    private static void compareWithDocument(List<Method> tests) throws IOException {
        test = "the document";
        if (!Files.exists(DOCUMENT)) {
            System.out.println("no " + DOCUMENT + " here: the sentences are not compared with it");
            return;
        }
        Map<String, String> sections = new TreeMap<>();
        for (String section : Files.readString(DOCUMENT).split("(?m)^## ")) {
            String[] parts = section.split("\n", 2);
            sections.put(parts[0].trim(), (parts.length < 2 ? "" : parts[1]).replaceAll("\\s+", " ").trim());
        }
        Map<String, String> left = new TreeMap<>(sections);
        for (Method method : tests) {
            Sentence sentence = method.getAnnotation(Sentence.class);
            if (!sections.getOrDefault(sentence.at(), "").contains(sentence.says())) {
                fault("'" + sentence.at() + "' does not say '" + sentence.says() + "' (" + method.getName() + ")");
            } else {
                left.put(sentence.at(), left.get(sentence.at()).replace(sentence.says(), ""));
            }
        }
        left.forEach(SentencesTest::lookForWordsWithoutTest);
    }

    private static void lookForWordsWithoutTest(String heading, String words) {
        String left = words;
        if (heading.startsWith("Promise ")) {
            left = left.replaceFirst("^`[^`]*`: ", "");
        } else if (!heading.equals(TERMS)) {
            return;
        }
        if (!left.isBlank()) {
            fault("'" + heading + "' has words without a test: " + left);
        }
    }

    /** An object of the class; each call is counted and told by its name where its answer is wrong. */
    private static final class Run {
        private final FixityRows rows;
        private int calls;

        Run(int capacity) {
            rows = new FixityRows(capacity);
        }

        private Answer answer(String call, int got) {
            calls++;
            if (calls > MOST_CALLS) {
                fault("call " + calls + ", and nothing is promised of it");
            }
            return new Answer(call, got);
        }

        void octet(int b) {
            rows.octet(b);
            calls++;
        }

        void octets(int... octets) {
            for (int b : octets) {
                octet(b);
            }
        }

        Answer digest(int algorithm) {
            return answer("digest(" + algorithm + ")", rows.digest(algorithm));
        }

        Answer at(int i) {
            try {
                return answer("at(" + i + ")", rows.at(i));
            } catch (ArrayIndexOutOfBoundsException e) {
                fault("at(" + i + ") threw " + e);
                return new Answer("at(" + i + ")", LEAST);
            }
        }

        void atThrows(int i) {
            asked++;
            calls++;
            try {
                fault("at(" + i + ") answered " + rows.at(i) + ", due is an exception");
            } catch (ArrayIndexOutOfBoundsException e) {
                // The machine's own exception tells the index; the class is to throw by itself.
                if (String.valueOf(e.getMessage()).startsWith("Index ")) {
                    fault("at(" + i + ") threw the machine's " + e);
                }
            }
        }

        Answer file(int algorithms, int day) {
            return answer("file(" + algorithms + ", " + day + ")", rows.file(algorithms, day));
        }

        Answer alter(int file, int i, int b) {
            return answer("alter(" + file + ", " + i + ", " + b + ")", rows.alter(file, i, b));
        }

        Answer cut(int file, int size) {
            return answer("cut(" + file + ", " + size + ")", rows.cut(file, size));
        }

        Answer read(int file, int day) {
            return answer("read(" + file + ", " + day + ")", rows.read(file, day));
        }

        Answer schedule(int file, int day, int span) {
            return answer("schedule(" + file + ", " + day + ", " + span + ")", rows.schedule(file, day, span));
        }

        Answer due(int day) {
            return answer("due(" + day + ")", rows.due(day));
        }

        Answer told(int i, int what) {
            return answer("told(" + i + ", " + what + ")", rows.told(i, what));
        }

        Answer mend(int file, int day) {
            return answer("mend(" + file + ", " + day + ")", rows.mend(file, day));
        }

        Answer about(int file, int what) {
            return answer("about(" + file + ", " + what + ")", rows.about(file, what));
        }

        Answer row(int i, int what) {
            return answer("row(" + i + ", " + what + ")", rows.row(i, what));
        }

        Answer spoil(int i, int mask) {
            return answer("spoil(" + i + ", " + mask + ")", rows.spoil(i, mask));
        }

        Answer chain() {
            return answer("chain()", rows.chain());
        }

        void keep(int number, int algorithms, int day, int... octets) {
            octets(octets);
            file(algorithms, day).is(number);
        }

        void rowIs(int i, int what, int file, int day) {
            row(i, 0).is(what);
            row(i, 1).is(file);
            row(i, 2).is(day);
        }

        void toldAre(int... files) {
            for (int i = 0; i < files.length; i++) {
                told(i, 0).is(files[i]);
            }
            told(files.length, 0).is(NONE);
        }

        void digestIs(int algorithm, int[] want) {
            digest(algorithm).is(want.length);
            for (int i = 0; i < want.length; i++) {
                at(i).is(want[i]);
            }
        }

        /** All that can be seen of files, rows, the day worked latest and the chain, without changing any. */
        String look() {
            StringBuilder seen = new StringBuilder();
            for (int file = 0; file < 20 && about(file, 0).got != NONE; file++) {
                for (int what = 0; what < 4; what++) {
                    seen.append(about(file, what).got).append(' ');
                }
            }
            for (int i = 0; i < 200 && row(i, 0).got != NONE; i++) {
                for (int what = 0; what < 4; what++) {
                    seen.append(row(i, what).got).append(' ');
                }
            }
            for (int i = 0; i < 20 && told(i, 0).got != NONE; i++) {
                seen.append(told(i, 0).got).append(' ').append(told(i, 1).got).append(' ');
            }
            return seen.append(chain().got).toString();
        }

        void looks(String before) {
            asked++;
            String now = look();
            if (!now.equals(before)) {
                fault("a refused call changed " + before + " to " + now);
            }
        }
    }

    private static final class Answer {
        private final String call;
        private final int got;

        Answer(String call, int got) {
            this.call = call;
            this.got = got;
        }

        void is(int want) {
            asked++;
            if (got != want) {
                fault(call + " answered " + got + ", due is " + want);
            }
        }

        void isNot(int want) {
            asked++;
            if (got == want) {
                fault(call + " answered " + got);
            }
        }
    }

    /** The two algorithms as the document writes them, with the roots worked out and no table kept. */
    private static final class Steps {
        private static final long ALL = 0xFFFFFFFFL;

        static int[] primes(int count) {
            int[] primes = new int[count];
            int found = 0;
            for (int n = 2; found < count; n++) {
                if (BigInteger.valueOf(n).isProbablePrime(50)) {
                    primes[found++] = n;
                }
            }
            return primes;
        }

        /** The 32 bits behind the point of a root: of n moved left by 32 times the root's kind, the whole root. */
        static long rootBits(int n, int kind) {
            BigInteger moved = BigInteger.valueOf(n).shiftLeft(32 * kind);
            BigInteger low = BigInteger.ZERO;
            for (int bit = 40; bit >= 0; bit--) {
                BigInteger more = low.setBit(bit);
                if (more.pow(kind).compareTo(moved) <= 0) {
                    low = more;
                }
            }
            return low.longValueExact() & ALL;
        }

        static long rotate(long x, int by) {
            return (x >> by | x << 32 - by) & ALL;
        }

        static byte[] padded(int[] octets) {
            int size = octets.length + 1;
            while (size % 64 != 56) {
                size++;
            }
            byte[] bytes = new byte[size + 8];
            for (int i = 0; i < octets.length; i++) {
                bytes[i] = (byte) octets[i];
            }
            bytes[octets.length] = (byte) 128;
            for (int k = 0; k < 8; k++) {
                bytes[size + k] = (byte) (octets.length * 8L >> 56 - 8 * k);
            }
            return bytes;
        }

        static int[] algorithm0(int... octets) {
            byte[] bytes = padded(octets);
            int[] primes = primes(64);
            long[] eight = new long[8];
            for (int k = 0; k < 8; k++) {
                eight[k] = rootBits(primes[k], 2);
            }
            for (int from = 0; from < bytes.length; from += 64) {
                long[] w = new long[64];
                for (int t = 0; t < 64; t++) {
                    w[t] = t < 16 ? wordAt(bytes, from + 4 * t) : wider(w, t);
                }
                long[] v = eight.clone();
                for (int t = 0; t < 64; t++) {
                    v = step(v, rootBits(primes[t], 3) + w[t]);
                }
                for (int k = 0; k < 8; k++) {
                    eight[k] = eight[k] + v[k] & ALL;
                }
            }
            int[] digest = new int[32];
            for (int i = 0; i < 32; i++) {
                digest[i] = (int) (eight[i / 4] >> 24 - 8 * (i % 4) & 255);
            }
            return digest;
        }

        static long wordAt(byte[] bytes, int from) {
            long word = 0;
            for (int k = 0; k < 4; k++) {
                word = word * 256 + (bytes[from + k] & 255);
            }
            return word;
        }

        static long wider(long[] w, int t) {
            long x = w[t - 15];
            long y = w[t - 2];
            long s0 = rotate(x, 7) ^ rotate(x, 18) ^ x >> 3;
            long s1 = rotate(y, 17) ^ rotate(y, 19) ^ y >> 10;
            return w[t - 16] + s0 + w[t - 7] + s1 & ALL;
        }

        static long[] step(long[] v, long added) {
            long a = v[0];
            long e = v[4];
            long t1 = v[7] + (rotate(e, 6) ^ rotate(e, 11) ^ rotate(e, 25)) + (e & v[5] ^ (e ^ ALL) & v[6]) + added;
            long t2 = (rotate(a, 2) ^ rotate(a, 13) ^ rotate(a, 22)) + (a & v[1] ^ a & v[2] ^ v[1] & v[2]);
            return new long[] {t1 + t2 & ALL, a, v[1], v[2], v[3] + t1 & ALL, e, v[5], v[6]};
        }

        static int[] algorithm1(int... octets) {
            long r = ALL;
            for (int b : octets) {
                long entry = (r ^ b & 255) % 256;
                for (int k = 0; k < 8; k++) {
                    entry = entry % 2 == 1 ? entry >> 1 ^ 0xEDB88320L : entry >> 1;
                }
                r = r >> 8 ^ entry;
            }
            r ^= ALL;
            return new int[] {(int) (r >> 24), (int) (r >> 16 & 255), (int) (r >> 8 & 255), (int) (r & 255)};
        }

        static int[] sealed(int[] before, int what, int file, int day) {
            int[] bytes = Arrays.copyOf(before, 44);
            int[] numbers = {what, file, day};
            for (int k = 0; k < 12; k++) {
                bytes[32 + k] = numbers[k / 4] >> 24 - 8 * (k % 4) & 255;
            }
            return algorithm0(bytes);
        }

        static int firstWord(int[] digest) {
            return digest[0] << 24 | digest[1] << 16 | digest[2] << 8 | digest[3];
        }
    }

    private static int[] octets(int size) {
        int[] octets = new int[size];
        for (int i = 0; i < size; i++) {
            octets[i] = i * 151 + 3 & 255;
        }
        return octets;
    }

    private static int[] filled(int size, int b) {
        int[] octets = new int[size];
        Arrays.fill(octets, b);
        return octets;
    }

    private static int[] fromHex(String hex) {
        int[] bytes = new int[hex.length() / 2];
        for (int i = 0; i < bytes.length; i++) {
            bytes[i] = Integer.parseInt(hex.substring(2 * i, 2 * i + 2), 16);
        }
        return bytes;
    }

    private static void digestOf(int algorithm, int[] want, int... octets) {
        Run x = new Run(1);
        x.octets(octets);
        x.digestIs(algorithm, want);
    }

    private static void digest0BySteps(int... octets) {
        digestOf(0, Steps.algorithm0(octets), octets);
    }

    private static void digest1BySteps(int... octets) {
        digestOf(1, Steps.algorithm1(octets), octets);
    }

    private static Run withFiles(int capacity, int howMany) {
        Run x = new Run(capacity);
        for (int i = 0; i < howMany; i++) {
            x.keep(i, 1 + i % 3, 0, i);
        }
        return x;
    }

    private static Run withSchedules(int capacity, int howMany, int day, int span) {
        Run x = withFiles(capacity, howMany);
        for (int i = 0; i < howMany; i++) {
            x.schedule(i, day, span).is(1);
        }
        return x;
    }

    /** The polynomial's own 33 bits, laid over five bytes, leave ALGORITHM 1's digest as it is. */
    private static void alterKeepingShortDigest(Run x, int file) {
        long polynomial = 1L | (0xEDB88320L << 1);
        for (int i = 0; i < 5; i++) {
            x.alter(file, i, SAME_SHORT[i] ^ (int) (polynomial >> 8 * i & 255)).is(SAME_SHORT[i]);
        }
    }

    /** A file with its copy, one that is altered, rows of all four kinds, a day worked and one left DUE. */
    private static Run inUse() {
        Run x = new Run(2);
        x.keep(0, 3, 5, 7, 8, 9);
        x.keep(1, 1, 6, 7, 8, 9);
        x.keep(2, 2, 7, 4);
        x.cut(1, 1).is(2);
        x.mend(1, 8).is(0);
        x.alter(2, 0, 5).is(4);
        x.schedule(0, 10, 5).is(1);
        x.schedule(1, 11, 6).is(1);
        x.schedule(2, 9, 7).is(1);
        x.due(11).is(-11);
        return x;
    }

    // What it is

    @Sentence(at = "What it is", says = "An object is used for at most 512 calls after it has been made;")
    private static void whatItIs_the512thCallStillHolds() {
        Run x = new Run(1);
        x.keep(0, 3, 0);
        for (int day = 1; day <= 510; day++) {
            x.read(0, day).is(1);
        }
        x.about(0, 1).is(510);
        Run y = new Run(1);
        for (int i = 0; i < 510; i++) {
            y.octet(i);
        }
        y.file(1, 0).is(0);
        y.about(0, 0).is(200);
        Run z = new Run(1);
        z.keep(0, 3, 0);
        for (int day = 0; day < 510; day++) {
            z.schedule(0, day, 1000).is(1);
        }
        z.due(509).is(1);
    }

    // Terms: the algorithms

    @Sentence(at = TERMS, says = "WORDS are of 32 bits; sums run over.")
    private static void terms_wordsSumsRunOver() {
        digestOf(0, fromHex("8667e718294e9e0df1d30600ba3eeb201f764aad2dad72748643e4a285e1d1f7"), filled(64, 255));
        digest0BySteps(filled(200, 255));
        digest0BySteps(filled(200, 0));
    }

    @Sentence(at = TERMS, says = "A ROTATION is to the right.")
    private static void terms_aRotationBringsTheLowBitsBackAbove() {
        digestOf(0, fromHex("ba7816bf8f01cfea414140de5dae2223b00361a396177a9cb410ff61f20015ad"), 'a', 'b', 'c');
        digest0BySteps(0, 0, 0, 1);
        digest0BySteps(128, 0, 0, 0);
    }

    @Sentence(at = TERMS, says = "ALGORITHM 0, of a row of bytes: behind them a byte 128, then bytes 0 until 8 less"
        + " than a multiple of 64,")
    private static void terms_algorithm0PaddingAtEachEdgeOfABlock() {
        digestOf(0, fromHex("e3b0c44298fc1c149afbf4c8996fb92427ae41e4649b934ca495991b7852b855"));
        for (int size : new int[] {0, 1, 54, 55, 56, 57, 62, 63, 64, 65, 118, 119, 120, 121, 127, 128, 129, 182, 183,
            184, 191, 192, 193, 199, 200}) {
            digest0BySteps(octets(size));
        }
        // A byte 128 at the end is not the one that is put behind it.
        digest0BySteps(128);
        digest0BySteps(1, 128);
        digest0BySteps(1, 128, 0);
    }

    @Sentence(at = TERMS, says = "then how many bits there were, 8 bytes, the highest first.")
    private static void terms_algorithm0BitsBeyondOneByte() {
        for (int size : new int[] {31, 32, 33, 63, 64, 96, 128, 160, 192, 200}) {
            digest0BySteps(filled(size, 0));
        }
    }

    @Sentence(at = TERMS, says = "EIGHT words h begin as the first 32 bits behind the point of the square roots of"
        + " the primes 2 .. 19;")
    private static void terms_algorithm0EightFromTheSquareRootsOfPrimes2To19() {
        dueWord("the prime of the last h", Steps.primes(8)[7], 19);
        dueWord("the first h", Steps.rootBits(2, 2), 0x6A09E667L);
        digest0BySteps();
        digest0BySteps('h');
    }

    @Sentence(at = TERMS, says = "K, 64 words, are the first 32 bits behind the point of the cube roots of the primes"
        + " 2 .. 311.")
    private static void terms_algorithm0KFromTheCubeRootsOfPrimes2To311() {
        dueWord("the prime of the last K", Steps.primes(64)[63], 311);
        dueWord("the first K", Steps.rootBits(2, 3), 0x428A2F98L);
        digest0BySteps();
        digest0BySteps('K');
    }

    private static void dueWord(String name, long got, long want) {
        asked++;
        if (got != want) {
            fault(name + " is " + got + ", due is " + want);
        }
    }

    @Sentence(at = TERMS, says = "Each block of 64 bytes makes 64 words w: 16 of it, four bytes each, the highest"
        + " first;")
    private static void terms_algorithm0BlocksOf64BytesHighestFirst() {
        digest0BySteps(1, 2, 3, 4);
        digest0BySteps(4, 3, 2, 1);
        for (int place : new int[] {0, 3, 4, 59, 60, 63, 64, 127, 128, 191, 192, 199}) {
            int[] octets = filled(200, 0);
            octets[place] = 255;
            digest0BySteps(octets);
        }
    }

    @Sentence(at = TERMS, says = "word t then is w[t-16] + s0(w[t-15]) + w[t-7] + s1(w[t-2]), s0(x) being x rotated"
        + " by 7, x rotated by 18, x moved right by 3 (zeros in front), put together by exclusive or; s1 likewise"
        + " 17, 19, moved 10.")
    private static void terms_algorithm0WordsMovedRightHaveZerosInFront() {
        // Words with the highest bit set tell zeros in front from ones.
        digest0BySteps(filled(55, 128));
        digest0BySteps(filled(64, 240));
        digest0BySteps(filled(40, 1));
    }

    @Sentence(at = TERMS, says = "a .. h begin as the EIGHT; for t from 0 to 63: T1 = h + S1(e) + (e and f, exclusive"
        + " or, not e and g) + K[t] + w[t], T2 = S0(a) + (a and b, a and c, b and c by exclusive or); h = g, g = f,"
        + " f = e, e = d + T1, d = c, c = b, b = a, a = T1 + T2; S0 rotates by 2, 13, 22, S1 by 6, 11, 25, by"
        + " exclusive or.")
    private static void terms_algorithm0AllSixtyFourSteps() {
        digestOf(0, fromHex("248d6a61d20638b8e5c026930c3e6039a33ce45964ff2167f6ecedd419db06c1"),
            "abcdbcdecdefdefgefghfghighijhijkijkljklmklmnlmnomnopnopq".chars().toArray());
        digest0BySteps(octets(3));
    }

    @Sentence(at = TERMS, says = "Behind it a .. h are added to the EIGHT.")
    private static void terms_algorithm0EachBlockAddsToTheEight() {
        digest0BySteps(octets(100));
        digest0BySteps(octets(150));
        // The object's second digest begins anew.
        Run x = new Run(1);
        x.octets(octets(100));
        x.digestIs(0, Steps.algorithm0(octets(100)));
        x.digestIs(0, Steps.algorithm0(octets(100)));
    }

    @Sentence(at = TERMS, says = "The digest is these, 32 bytes, the highest of each first.")
    private static void terms_algorithm0DigestHas32BytesHighestFirst() {
        Run x = new Run(1);
        x.octets(1, 2);
        x.digestIs(0, fromHex("a12871fee210fb8619291eaea194581cbd2531e4b23759d225f6806923f63222"));
        x.atThrows(32);
    }

    @Sentence(at = TERMS, says = "ALGORITHM 1: a word r, all ones at first;")
    private static void terms_algorithm1AllOnesAtFirst() {
        digestOf(1, new int[] {0, 0, 0, 0});
        digestOf(1, fromHex("d202ef8d"), 0);
        digestOf(1, fromHex("ff000000"), 255);
        digestOf(1, fromHex("ffffffff"), 255, 255, 255, 255);
    }

    @Sentence(at = TERMS, says = "for each byte r becomes r moved right by 8 (zeros in front), exclusive or TABLE[(r"
        + " exclusive or byte) modulo 256];")
    private static void terms_algorithm1IndexModulo256AndZerosInFront() {
        for (int size : new int[] {1, 2, 3, 4, 5, 63, 64, 65, 199, 200}) {
            digest1BySteps(octets(size));
            digest1BySteps(filled(size, 0));
            digest1BySteps(filled(size, 255));
        }
    }

    @Sentence(at = TERMS, says = "TABLE[n] is n, eight times moved right by 1, each time exclusive or 0xEDB88320 if"
        + " the bit that went was 1.")
    private static void terms_algorithm1EachEntryOfTheTable() {
        for (int b = 0; b < 256; b++) {
            digest1BySteps(b);
        }
    }

    @Sentence(at = TERMS, says = "The digest is r with all bits turned, 4 bytes, the highest first.")
    private static void terms_algorithm1DigestHas4BytesHighestFirst() {
        Run x = new Run(1);
        x.octets('1', '2', '3', '4', '5', '6', '7', '8', '9');
        x.digestIs(1, fromHex("cbf43926"));
        x.atThrows(4);
    }

    // Terms: files

    @Sentence(at = TERMS, says = "FILES are 0 .. 19, as they come:")
    private static void terms_filesAre0To19() {
        Run x = new Run(1);
        x.about(0, 0).is(NONE);
        for (int i = 0; i < 20; i++) {
            x.about(i, 0).is(NONE);
            x.keep(i, 1, i, i, i);
            x.about(i, 0).is(2);
        }
        x.file(1, 0).is(FULL);
        x.about(20, 0).is(NONE);
        x.alter(0, 0, 0).is(0);
        x.alter(19, 0, 19).is(19);
    }

    @Sentence(at = TERMS, says = "bytes, and the DIGESTS of the algorithms that are told, as the bytes were then.")
    private static void terms_digestsAreOfTheBytesAsTheyWereThen() {
        for (int bits = 1; bits <= 3; bits++) {
            Run x = new Run(1);
            x.keep(0, bits, 0, 1, 2, 3);
            x.octets(4, 5);
            x.digest(0).is(32);
            x.keep(1, bits, 0, 6);
            x.read(0, 0).is(1);
            x.alter(0, 2, 4).is(3);
            x.read(0, 0).is(0);
            x.alter(0, 2, 3).is(4);
            x.read(0, 0).is(1);
        }
    }

    private static final String FIT = "A file FITS if its bytes have all its DIGESTS.";

    @Sentence(at = TERMS, says = FIT)
    private static void terms_aFileWithOneOfTwoDigestsDoesNotFit() {
        int[] fits = {0, 1, 0};
        for (int bits = 1; bits <= 3; bits++) {
            Run x = new Run(1);
            x.keep(0, bits, 0, SAME_SHORT);
            alterKeepingShortDigest(x, 0);
            x.read(0, 0).is(fits[bits - 1]);
        }
    }

    @Sentence(at = TERMS, says = FIT)
    private static void terms_anEmptyFileFitsAndOneCutEmptyDoesNot() {
        for (int bits = 1; bits <= 3; bits++) {
            Run x = new Run(1);
            x.keep(0, bits, 0);
            x.read(0, 0).is(1);
            x.keep(1, bits, 0, 0);
            x.cut(1, 0).is(1);
            x.read(1, 0).is(0);
            x.keep(2, bits, 0, 0, 0);
            x.cut(2, 1).is(1);
            x.read(2, 0).is(0);
        }
    }

    // Terms: schedules

    private static final String ONE_SCHEDULE = "SCHEDULES: a file may have one:";

    @Sentence(at = TERMS, says = ONE_SCHEDULE)
    private static void terms_aFileWithoutAScheduleIsNeverDue() {
        Run x = withFiles(20, 3);
        x.due(0).is(0);
        x.schedule(1, 5, 1000).is(1);
        x.due(LAST_DAY).is(1);
        x.toldAre(1);
        x.about(0, 2).is(NONE);
        x.about(2, 2).is(NONE);
    }

    @Sentence(at = TERMS, says = ONE_SCHEDULE)
    private static void terms_aFileHasOneScheduleAndNotTwo() {
        Run x = withFiles(20, 1);
        x.schedule(0, 5, 10).is(1);
        x.schedule(0, 7, 10).is(1);
        x.due(5).is(0);
        x.due(7).is(1);
        x.due(15).is(0);
        x.due(17).is(1);
    }

    private static final String FROM_A_DAY_ON = "from a day on, each SPAN days (1 .. 1000) a check is DUE, first on"
        + " the day that is told.";

    @Sentence(at = TERMS, says = FROM_A_DAY_ON)
    private static void terms_spanIs1To1000() {
        Run x = withFiles(20, 2);
        for (int span : new int[] {0, -1, -1000, 1001, LEAST, MOST}) {
            x.schedule(0, 5, span).is(RANGE);
            x.about(0, 2).is(NONE);
        }
        x.schedule(0, 5, 1).is(1);
        x.schedule(1, 5, 1000).is(1);
        x.due(5).is(2);
        x.about(0, 2).is(6);
        x.about(1, 2).is(1005);
        x.due(6).is(1);
        x.due(1004).is(1);
        x.due(1005).is(2);
        x.toldAre(0, 1);
    }

    @Sentence(at = TERMS, says = FROM_A_DAY_ON)
    private static void terms_firstDueOnTheDayThatIsToldAndNotBefore() {
        Run x = withFiles(20, 3);
        x.schedule(0, 0, 1000).is(1);
        x.schedule(1, 500, 3).is(1);
        x.schedule(2, LAST_DAY, 1).is(1);
        x.due(0).is(1);
        x.toldAre(0);
        x.due(499).is(0);
        x.due(500).is(1);
        x.toldAre(1);
        x.due(LAST_DAY - 1).is(2);
        x.due(LAST_DAY).is(2);
        x.toldAre(0, 2);
    }

    @Sentence(at = TERMS, says = "On a day that is worked at most CAPACITY files are checked,")
    private static void terms_atMostCapacityFilesAreChecked() {
        for (int capacity : new int[] {1, 2, 3, 19, 20}) {
            for (int scheduled : new int[] {0, capacity - 1, capacity, Math.min(20, capacity + 1), 20}) {
                Run x = withSchedules(capacity, scheduled, 1, 1);
                int left = Math.max(0, scheduled - capacity);
                int checked = scheduled - left;
                x.due(1).is(left > 0 ? -10 - left : checked);
                x.row(scheduled + checked - 1, 0).is(checked > 0 ? 1 : scheduled > 0 ? 0 : NONE);
                x.row(scheduled + checked, 0).is(NONE);
                x.told(checked, 0).is(NONE);
            }
        }
    }

    private static final String LONGEST_FIRST = "those DUE longest first, then by numbers;";

    @Sentence(at = TERMS, says = LONGEST_FIRST)
    private static void terms_dueLongestFirstThenByNumbers() {
        Run x = withFiles(2, 5);
        int[] days = {9, 8, 9, 7, 8};
        for (int i = 0; i < 5; i++) {
            x.schedule(i, days[i], 100 - i).is(1);
        }
        x.due(9).is(-13);
        x.toldAre(3, 1);
        x.due(9).is(-11);
        x.toldAre(4, 0);
        x.due(9).is(1);
        x.toldAre(2);
        x.rowIs(5, 1, 3, 9);
        x.rowIs(6, 1, 1, 9);
    }

    @Sentence(at = TERMS, says = LONGEST_FIRST)
    private static void terms_thoseLeftAreFirstOnTheNextDay() {
        Run x = withSchedules(1, 3, 4, 1);
        x.due(4).is(-12);
        x.toldAre(0);
        x.due(5).is(-12);
        x.toldAre(1);
        x.due(6).is(-12);
        x.toldAre(2);
        x.due(6).is(-11);
        x.toldAre(0);
    }

    private static final String DUE_AGAIN = "a file checked on a day is DUE again SPAN days behind the day on which"
        + " it was DUE,";

    @Sentence(at = TERMS, says = DUE_AGAIN)
    private static void terms_dueAgainBehindTheDayItWasDueNotBehindTheDayWorked() {
        Run x = withSchedules(20, 1, 10, 7);
        x.due(12).is(1);
        x.about(0, 2).is(17);
        x.due(16).is(0);
        x.due(17).is(1);
        x.about(0, 2).is(24);
        // One that does not FIT is DUE again all the same.
        x.alter(0, 0, 99).is(0);
        x.due(24).is(1);
        x.told(0, 1).is(0);
        x.about(0, 2).is(31);
    }

    @Sentence(at = TERMS, says = DUE_AGAIN)
    private static void terms_aFileThatIsLeftStaysDueAsItWas() {
        Run x = withSchedules(1, 2, 10, 7);
        x.due(12).is(-11);
        x.about(0, 2).is(17);
        x.about(1, 2).is(10);
    }

    @Sentence(at = TERMS, says = "as often as needed to lie behind the day that is worked.")
    private static void terms_dueAgainBehindTheDayWorkedEvenOnAMultiple() {
        int[][] cases = {{10, 5, 10, 15}, {10, 5, 14, 15}, {10, 5, 15, 20}, {10, 5, 16, 20}, {10, 5, 20, 25},
            {0, 1, 0, 1}, {0, 1, 1, 2}, {0, 1, LAST_DAY, LAST_DAY + 1}, {0, 1000, LAST_DAY - 1, LAST_DAY},
            {0, 1000, LAST_DAY, 1001000}, {1, 1000, LAST_DAY, 1000001}, {0, 7, LAST_DAY, 1000006},
            {LAST_DAY, 1000, LAST_DAY, 1001000}};
        for (int[] one : cases) {
            Run x = withSchedules(1, 1, one[0], one[1]);
            x.due(one[2]).is(1);
            x.about(0, 2).is(one[3]);
            x.due(one[2]).is(0);
        }
    }

    // Terms: the chain

    private static final String AT_MOST_200 = "THE CHAIN: rows, as they come, at most 200 (those beyond are lost):";

    @Sentence(at = TERMS, says = AT_MOST_200)
    private static void terms_theChainHas200RowsAndThoseBeyondAreLost() {
        Run x = new Run(1);
        x.keep(0, 1, 0, 3);
        x.keep(1, 1, 0, 3);
        x.schedule(0, 0, 1).is(1);
        for (int day = 2; day < 199; day++) {
            x.read(0, day).is(1);
        }
        x.row(198, 2).is(198);
        x.row(199, 0).is(NONE);
        x.read(1, 777).is(1);
        x.rowIs(199, 1, 1, 777);
        int last = x.row(199, 3).got;
        // Each kind of row is lost, and the call does all else that it does.
        x.read(0, 800).is(1);
        x.about(0, 1).is(800);
        x.keep(2, 1, 801, 5);
        x.alter(0, 0, 4).is(3);
        x.due(802).is(1);
        x.told(0, 1).is(0);
        x.mend(0, 803).is(1);
        x.about(0, 3).is(1);
        x.rowIs(199, 1, 1, 777);
        x.row(199, 3).is(last);
        x.row(200, 0).is(NONE);
        x.row(200, 3).is(NONE);
        x.spoil(200, 1).is(NONE);
        x.spoil(200, 0).is(NONE);
        x.chain().is(NONE);
    }

    @Sentence(at = TERMS, says = AT_MOST_200)
    private static void terms_aRowThatIsGoneMakesRoomForTheNext() {
        Run x = new Run(1);
        x.keep(0, 1, 0, 3);
        for (int day = 1; day <= 204; day++) {
            x.read(0, day).is(1);
        }
        x.spoil(199, 0).is(0);
        x.row(199, 0).is(NONE);
        x.read(0, 900).is(1);
        x.rowIs(199, 1, 0, 900);
        x.chain().is(NONE);
        x.read(0, 901).is(1);
        x.row(199, 2).is(900);
        x.row(200, 2).is(NONE);
        x.spoil(0, 0).is(0);
        x.read(0, 902).is(1);
        x.rowIs(199, 1, 0, 902);
        x.rowIs(198, 1, 0, 900);
        x.chain().is(0);
    }

    @Sentence(at = TERMS, says = "what 0 a file came, 1 a check found that it FITS, 2 that it does not, 3 it was"
        + " mended; the file; the day.")
    private static void terms_eachKindOfRowAndNoRowOfOtherCalls() {
        Run x = new Run(1);
        x.keep(0, 1, 11, 3);
        x.keep(1, 2, 12, 3);
        x.read(1, 13).is(1);
        x.alter(1, 0, 4).is(3);
        x.read(1, 14).is(0);
        x.mend(1, 15).is(0);
        x.schedule(0, 16, 1).is(1);
        x.due(16).is(1);
        x.cut(0, 0).is(1);
        x.due(17).is(1);
        x.octet(1);
        x.digest(0).is(32);
        x.about(0, 1).is(16);
        x.told(0, 1).is(0);
        x.chain().is(NONE);
        int[][] rows = {{0, 0, 11}, {0, 1, 12}, {1, 1, 13}, {2, 1, 14}, {3, 1, 15}, {1, 0, 16}, {2, 0, 17}};
        for (int i = 0; i < rows.length; i++) {
            x.rowIs(i, rows[i][0], rows[i][1], rows[i][2]);
        }
        x.row(rows.length, 0).is(NONE);
    }

    private static final String SEALED = "A row has the digest by ALGORITHM 0 of 44 bytes: the digest of the row"
        + " before (32 bytes 0 for the first), then what, file and day, 4 bytes each, the highest first.";

    @Sentence(at = TERMS, says = SEALED)
    private static void terms_theFirstRowRestsOn32Bytes0AndTheOthersOnTheRowBefore() {
        Run x = new Run(1);
        x.keep(0, 3, LAST_DAY, 1);
        x.keep(1, 3, 0, 1);
        x.read(1, 65536).is(1);
        x.cut(1, 0).is(1);
        x.read(1, 255).is(0);
        x.mend(1, 256).is(0);
        int[][] rows = {{0, 0, LAST_DAY}, {0, 1, 0}, {1, 1, 65536}, {2, 1, 255}, {3, 1, 256}};
        int[] digest = new int[32];
        for (int i = 0; i < rows.length; i++) {
            digest = Steps.sealed(digest, rows[i][0], rows[i][1], rows[i][2]);
            x.row(i, 3).is(Steps.firstWord(digest));
        }
        // A row that becomes the first one is no row that came first.
        x.spoil(0, 0).is(0);
        x.row(0, 3).isNot(Steps.firstWord(Steps.sealed(new int[32], 0, 1, 0)));
        x.chain().is(0);
    }

    @Sentence(at = TERMS, says = SEALED)
    private static void terms_aRowIntoAnEmptiedChainIsAFirstOne() {
        Run x = new Run(1);
        x.keep(0, 3, 9, 1);
        x.keep(1, 3, 9, 1);
        x.spoil(1, 0).is(0);
        x.spoil(0, 0).is(0);
        x.read(1, 10).is(1);
        x.row(0, 3).is(Steps.firstWord(Steps.sealed(new int[32], 1, 1, 10)));
        x.chain().is(NONE);
    }

    @Sentence(at = TERMS, says = "Days are 0 .. 1000000.")
    private static void terms_daysAre0To1000000InEachCallThatHasOne() {
        Run x = new Run(1);
        x.keep(0, 1, 0, 1);
        x.keep(1, 1, LAST_DAY, 1);
        for (int day : WRONG_DAYS) {
            x.file(1, day).is(RANGE);
            x.read(0, day).is(RANGE);
            x.schedule(0, day, 1).is(RANGE);
            x.due(day).is(RANGE);
            x.cut(0, 0);
            x.mend(0, day).is(RANGE);
        }
        x.mend(0, 0).is(1);
        x.cut(0, 0).is(1);
        x.mend(0, LAST_DAY).is(1);
        x.read(0, 0).is(1);
        x.read(0, LAST_DAY).is(1);
        x.schedule(0, 0, 1).is(1);
        x.due(0).is(1);
        x.schedule(0, LAST_DAY, 1).is(1);
        x.due(LAST_DAY).is(1);
        int[] days = {0, LAST_DAY, 0, LAST_DAY, 0, LAST_DAY, 0, LAST_DAY};
        for (int i = 0; i < days.length; i++) {
            x.row(i, 2).is(days[i]);
        }
        x.row(days.length, 2).is(NONE);
        x.chain().is(NONE);
    }

    // Terms: the constants

    @Sentence(at = TERMS, says = "The constants: `NONE = -1`: No such number.")
    private static void terms_noneIsMinus1() {
        new Answer("NONE", FixityRows.NONE).is(-1);
        new Run(1).about(0, 0).is(FixityRows.NONE);
    }

    @Sentence(at = TERMS, says = "`RANGE = -2`: A number that can't be.")
    private static void terms_rangeIsMinus2() {
        new Answer("RANGE", FixityRows.RANGE).is(-2);
        new Run(1).digest(2).is(FixityRows.RANGE);
    }

    @Sentence(at = TERMS, says = "`STATE = -3`: Not in this state.")
    private static void terms_stateIsMinus3() {
        new Answer("STATE", FixityRows.STATE).is(-3);
        Run x = withFiles(1, 1);
        x.mend(0, 0).is(FixityRows.STATE);
    }

    @Sentence(at = TERMS, says = "`FULL = -4`: No room.")
    private static void terms_fullIsMinus4() {
        new Answer("FULL", FixityRows.FULL).is(-4);
        withFiles(1, 20).file(1, 0).is(FixityRows.FULL);
    }

    // Promise 1

    private static void capacityIs(int given, int held) {
        Run x = withSchedules(given, 20, 1, 1);
        x.due(1).is(held == 20 ? 20 : -10 - (20 - held));
        x.told(held - 1, 0).is(held - 1);
        x.told(held, 0).is(NONE);
    }

    private static final String P1_CAPACITY = "CAPACITY 1 .. 20 (what is less or more is the nearest);";

    @Sentence(at = P1, says = P1_CAPACITY)
    private static void promise01_aCapacityLessThan1Is1() {
        for (int capacity : new int[] {0, -1, -20, LEAST, LEAST + 1}) {
            capacityIs(capacity, 1);
        }
    }

    @Sentence(at = P1, says = P1_CAPACITY)
    private static void promise01_aCapacityMoreThan20Is20() {
        for (int capacity : new int[] {21, 22, 256, MOST - 1, MOST}) {
            capacityIs(capacity, 20);
        }
    }

    @Sentence(at = P1, says = P1_CAPACITY)
    private static void promise01_aCapacityOf1To20IsItself() {
        for (int capacity = 1; capacity <= 20; capacity++) {
            capacityIs(capacity, capacity);
        }
    }

    private static final String P1_NOTHING = "no bytes, files, rows.";

    @Sentence(at = P1, says = P1_NOTHING)
    private static void promise01_aNewObjectHasNoBytes() {
        Run x = new Run(1);
        x.digestIs(0, Steps.algorithm0());
        x.digestIs(1, Steps.algorithm1());
        x.file(3, 0).is(0);
        x.about(0, 0).is(0);
    }

    @Sentence(at = P1, says = P1_NOTHING)
    private static void promise01_aNewObjectHasNoFiles() {
        Run x = new Run(1);
        for (int file = 0; file < 21; file++) {
            x.about(file, 0).is(NONE);
        }
        x.alter(0, 0, 0).is(NONE);
        x.cut(0, 0).is(NONE);
        x.read(0, 0).is(NONE);
        x.schedule(0, 0, 1).is(NONE);
        x.mend(0, 0).is(NONE);
        x.due(0).is(0);
        x.told(0, 0).is(NONE);
    }

    @Sentence(at = P1, says = P1_NOTHING)
    private static void promise01_aNewObjectHasNoRows() {
        Run x = new Run(1);
        for (int i = 0; i < 201; i++) {
            x.row(i, 0).is(NONE);
        }
        x.spoil(0, 0).is(NONE);
        x.spoil(0, 1).is(NONE);
        x.chain().is(NONE);
    }

    @Sentence(at = P1, says = P1_NOTHING)
    private static void promise01_anObjectHasNothingOfAnother() {
        Run x = inUse();
        x.octet(1);
        x.digest(0).is(32);
        Run y = new Run(1);
        y.atThrows(0);
        y.about(0, 0).is(NONE);
        y.row(0, 0).is(NONE);
        y.told(0, 0).is(NONE);
        y.due(0).is(0);
        y.file(1, 0).is(0);
        y.about(0, 0).is(0);
    }

    // Promise 2

    private static final String P2_COLLECTED = "A byte more is collected; beyond 200 it is lost.";

    @Sentence(at = P2, says = P2_COLLECTED)
    private static void promise02_the200thByteIsCollectedAndThe201stIsLost() {
        int[] octets = octets(200);
        Run x = new Run(1);
        x.octets(Arrays.copyOf(octets, 199));
        x.digestIs(1, Steps.algorithm1(Arrays.copyOf(octets, 199)));
        x.octet(octets[199]);
        x.digestIs(1, Steps.algorithm1(octets));
        x.octet(77);
        x.digestIs(1, Steps.algorithm1(octets));
        x.octets(filled(100, 5));
        x.digestIs(0, Steps.algorithm0(octets));
        x.file(3, 0).is(0);
        x.about(0, 0).is(200);
        x.alter(0, 199, 1).is(octets[199]);
        x.alter(0, 200, 1).is(NONE);
    }

    @Sentence(at = P2, says = P2_COLLECTED)
    private static void promise02_whatIsLostDoesNotComeIntoTheNextFile() {
        Run x = new Run(1);
        x.octets(filled(230, 6));
        x.file(1, 0).is(0);
        x.keep(1, 1, 0, 9);
        x.about(0, 0).is(200);
        x.about(1, 0).is(1);
        x.alter(1, 0, 9).is(9);
    }

    @Sentence(at = P2, says = P2_COLLECTED)
    private static void promise02_aNumberBeyondAByteIsTakenModulo256() {
        int[][] cases = {{0, 0}, {255, 255}, {256, 0}, {257, 1}, {-1, 255}, {-128, 128}, {-256, 0}, {MOST, 255},
            {LEAST, 0}, {LEAST + 1, 1}};
        Run x = new Run(1);
        for (int[] one : cases) {
            x.octet(one[0]);
        }
        x.file(3, 0).is(0);
        x.about(0, 0).is(cases.length);
        for (int i = 0; i < cases.length; i++) {
            x.alter(0, i, cases[i][1]).is(cases[i][1]);
        }
        x.read(0, 0).is(1);
        Run y = new Run(1);
        y.octets(256 + 'a', 'b' - 512, 'c');
        y.digestIs(1, Steps.algorithm1('a', 'b', 'c'));
    }

    // Promise 3

    private static final String P3_DIGEST = "The digest of what is collected (and stays so) by an algorithm: how many"
        + " bytes; RANGE.";

    @Sentence(at = P3, says = P3_DIGEST)
    private static void promise03_theDigestOfNothingCollected() {
        digestOf(0, Steps.algorithm0());
        digestOf(1, Steps.algorithm1());
        // Nothing is collected behind file() either.
        Run x = new Run(1);
        x.keep(0, 3, 0, 1, 2, 3);
        x.digestIs(0, Steps.algorithm0());
        x.digestIs(1, Steps.algorithm1());
    }

    @Sentence(at = P3, says = P3_DIGEST)
    private static void promise03_theDigestOfAllThatCanBeCollected() {
        digest0BySteps(octets(200));
        digest1BySteps(octets(200));
    }

    @Sentence(at = P3, says = P3_DIGEST)
    private static void promise03_whatIsCollectedStaysSo() {
        Run x = new Run(1);
        x.octets(1, 2, 3);
        x.digestIs(0, Steps.algorithm0(1, 2, 3));
        x.digestIs(1, Steps.algorithm1(1, 2, 3));
        x.digest(7).is(RANGE);
        x.octet(4);
        x.digestIs(1, Steps.algorithm1(1, 2, 3, 4));
        x.digestIs(0, Steps.algorithm0(1, 2, 3, 4));
        x.file(3, 0).is(0);
        x.about(0, 0).is(4);
    }

    @Sentence(at = P3, says = P3_DIGEST)
    private static void promise03_howManyBytes() {
        for (int size : new int[] {0, 1, 200}) {
            Run x = new Run(1);
            x.octets(octets(size));
            x.digest(0).is(32);
            x.digest(1).is(4);
        }
    }

    @Sentence(at = P3, says = P3_DIGEST)
    private static void promise03_anotherAlgorithmIsRangeAndNoDigest() {
        for (int algorithm : new int[] {-1, 2, 3, 256, LEAST, MOST}) {
            Run x = new Run(1);
            x.octet(5);
            x.digest(algorithm).is(RANGE);
            x.atThrows(0);
            x.digest(1).is(4);
            x.digest(algorithm).is(RANGE);
            int[] want = Steps.algorithm1(5);
            for (int i = 0; i < 4; i++) {
                x.at(i).is(want[i]);
            }
            x.atThrows(4);
        }
    }

    // Promise 4

    private static final String P4_BYTE = "Byte i of the digest that was made latest by digest(), 0 .. 255.";

    @Sentence(at = P4, says = P4_BYTE)
    private static void promise04_theFirstAndTheLastByte() {
        Run x = new Run(1);
        x.digest(0).is(32);
        x.at(0).is(0xe3);
        x.at(31).is(0x55);
        x.octet('a');
        x.digest(1).is(4);
        x.at(0).is(0xe8);
        x.at(3).is(0x43);
    }

    @Sentence(at = P4, says = P4_BYTE)
    private static void promise04_bytesAbove127AreNotBelow0() {
        Run x = new Run(1);
        x.octets(255, 255, 255, 255);
        x.digest(1).is(4);
        for (int i = 0; i < 4; i++) {
            x.at(i).is(255);
        }
    }

    @Sentence(at = P4, says = P4_BYTE)
    private static void promise04_theLatestOneOfDigestAloneAndAsItWasMade() {
        Run x = new Run(1);
        x.octets(1, 2);
        x.digest(0).is(32);
        int[] want = Steps.algorithm0(1, 2);
        x.octets(3);
        x.keep(0, 3, 0, 4);
        x.keep(1, 3, 0, 1, 2, 3, 4);
        x.cut(0, 1).is(3);
        x.read(0, 0).is(0);
        x.mend(0, 0).is(1);
        x.schedule(1, 0, 1).is(1);
        x.due(0).is(1);
        x.chain().is(NONE);
        for (int i = 0; i < 32; i++) {
            x.at(i).is(want[i]);
        }
        x.atThrows(32);
    }

    private static final String P4_EXCEPTION = "ArrayIndexOutOfBoundsException if there is none such.";

    @Sentence(at = P4, says = P4_EXCEPTION)
    private static void promise04_anExceptionBeforeTheFirstDigest() {
        Run x = new Run(1);
        for (int i : new int[] {0, 1, 3, 4, 31, 32, -1, LEAST, MOST}) {
            x.atThrows(i);
        }
        x.octets(1, 2, 3);
        x.atThrows(0);
        x.file(3, 0).is(0);
        x.atThrows(0);
        x.read(0, 0).is(1);
        x.atThrows(0);
    }

    @Sentence(at = P4, says = P4_EXCEPTION)
    private static void promise04_anExceptionBelow0AndBeyondTheLastByte() {
        Run x = new Run(1);
        x.digest(0).is(32);
        for (int i : new int[] {-1, 32, 33, 128, 256, LEAST, LEAST + 31, MOST}) {
            x.atThrows(i);
        }
        x.at(31).is(0x55);
        x.digest(1).is(4);
        for (int i : new int[] {-1, 4, 5, 31, 32, LEAST, LEAST + 3, MOST}) {
            x.atThrows(i);
        }
        x.at(3).is(0);
        x.digest(0).is(32);
        x.at(4).is(0x98);
    }

    // Promise 5

    private static final String P5_KEPT = "What is collected is a file more, with the DIGESTS of algorithms by bits"
        + " (1: 0, 2: 1), on a day: its number; nothing is collected any more.";

    @Sentence(at = P5, says = P5_KEPT)
    private static void promise05_filesWithNoneAndWith200Bytes() {
        Run x = new Run(1);
        x.file(3, 0).is(0);
        x.about(0, 0).is(0);
        x.read(0, 0).is(1);
        x.octets(octets(200));
        x.file(3, 0).is(1);
        x.about(1, 0).is(200);
        x.read(1, 0).is(1);
        x.alter(1, 199, 1).is(octets(200)[199]);
        x.read(1, 0).is(0);
    }

    @Sentence(at = P5, says = P5_KEPT)
    private static void promise05_eachBitHasItsAlgorithm() {
        // Another row of bytes with the same short digest FITS where ALGORITHM 1 alone was told.
        Run x = new Run(1);
        for (int bits = 1; bits <= 3; bits++) {
            x.keep(bits - 1, bits, 0, SAME_SHORT);
            x.read(bits - 1, 0).is(1);
            alterKeepingShortDigest(x, bits - 1);
            x.read(bits - 1, 0).is(bits == 2 ? 1 : 0);
            x.alter(bits - 1, 4, 0);
            x.read(bits - 1, 0).is(0);
        }
    }

    @Sentence(at = P5, says = P5_KEPT)
    private static void promise05_nothingIsCollectedAnyMore() {
        Run x = new Run(1);
        x.keep(0, 1, 0, 1, 2, 3);
        x.file(1, 0).is(1);
        x.about(1, 0).is(0);
        x.keep(2, 1, 0, 4);
        x.about(2, 0).is(1);
        x.about(0, 0).is(3);
        x.alter(0, 0, 1).is(1);
        // There is room for 200 again.
        x.octets(filled(201, 9));
        x.file(1, 0).is(3);
        x.about(3, 0).is(200);
    }

    @Sentence(at = P5, says = P5_KEPT)
    private static void promise05_itsDayStandsInItsRowAndNeedNotGrow() {
        Run x = new Run(1);
        x.keep(0, 1, LAST_DAY, 1);
        x.keep(1, 1, 0, 1);
        x.due(5).is(0);
        x.keep(2, 1, 4, 1);
        x.rowIs(0, 0, 0, LAST_DAY);
        x.rowIs(1, 0, 1, 0);
        x.rowIs(2, 0, 2, 4);
    }

    private static final String P5_REFUSED = "RANGE (bits 1 .. 3, day), FULL.";

    @Sentence(at = P5, says = P5_REFUSED)
    private static void promise05_bitsOtherThan1To3AreRange() {
        Run x = inUse();
        String before = x.look();
        x.octets(1, 2);
        for (int bits : new int[] {0, -1, 4, 5, 7, 256, LEAST, LEAST + 1, MOST}) {
            x.file(bits, 0).is(RANGE);
        }
        x.looks(before);
        x.digestIs(1, Steps.algorithm1(1, 2));
        x.file(3, 0).is(3);
        x.about(3, 0).is(2);
    }

    @Sentence(at = P5, says = P5_REFUSED)
    private static void promise05_aDayOutsideIsRange() {
        Run x = inUse();
        String before = x.look();
        x.octets(1, 2);
        for (int day : WRONG_DAYS) {
            x.file(1, day).is(RANGE);
        }
        x.looks(before);
        x.digestIs(1, Steps.algorithm1(1, 2));
        x.file(1, LAST_DAY).is(3);
        x.about(3, 0).is(2);
    }

    @Sentence(at = P5, says = P5_REFUSED)
    private static void promise05_the20thFileComesAndThe21stIsFull() {
        Run x = withFiles(1, 19);
        x.keep(19, 1, 3, 8);
        String before = x.look();
        x.octets(1, 2);
        x.file(1, 0).is(FULL);
        x.file(3, LAST_DAY).is(FULL);
        x.digestIs(1, Steps.algorithm1(1, 2));
        x.looks(before);
        x.octet(3);
        x.digestIs(1, Steps.algorithm1(1, 2, 3));
    }

    @Sentence(at = P5, says = P5_REFUSED)
    private static void promise05_rangeComesBeforeFull() {
        Run x = withFiles(1, 20);
        x.file(0, 0).is(RANGE);
        x.file(4, 0).is(RANGE);
        x.file(1, -1).is(RANGE);
        x.file(1, LAST_DAY + 1).is(RANGE);
        x.file(1, 0).is(FULL);
    }

    // Promise 6

    private static final String P6_ALTERED = "A file's byte is another one: the one before, 0 .. 255; NONE if there"
        + " is no such file or byte.";

    @Sentence(at = P6, says = P6_ALTERED)
    private static void promise06_theFirstAndTheLastByteAndTheOneBefore() {
        Run x = new Run(1);
        x.keep(0, 3, 0, octets(200));
        x.alter(0, 0, 50).is(3);
        x.alter(0, 0, 51).is(50);
        x.alter(0, 199, 52).is(octets(200)[199]);
        x.alter(0, 199, 53).is(52);
        x.alter(0, 1, 0).is(octets(200)[1]);
        x.about(0, 0).is(200);
        x.read(0, 0).is(0);
        x.alter(0, 0, 3).is(51);
        x.alter(0, 199, octets(200)[199]).is(53);
        x.alter(0, 1, octets(200)[1]).is(0);
        x.read(0, 0).is(1);
    }

    @Sentence(at = P6, says = P6_ALTERED)
    private static void promise06_theOneBeforeIs0To255WhateverWasGiven() {
        Run x = new Run(1);
        x.keep(0, 1, 0, 255);
        int before = 255;
        for (int b : new int[] {256, -1, 128, -128, 511, LEAST, MOST, -256, 0}) {
            x.alter(0, 0, b).is(before);
            before = Math.floorMod(b, 256);
        }
        x.alter(0, 0, 767).is(0);
        x.read(0, 0).is(1);
    }

    @Sentence(at = P6, says = P6_ALTERED)
    private static void promise06_noneIfThereIsNoSuchFile() {
        Run x = inUse();
        String before = x.look();
        for (int file : new int[] {-1, 3, 19, 20, LEAST, MOST}) {
            x.alter(file, 0, 1).is(NONE);
            x.alter(file, -1, 1).is(NONE);
        }
        x.looks(before);
        Run y = withFiles(1, 20);
        y.alter(19, 0, 19).is(19);
        y.alter(20, 0, 19).is(NONE);
    }

    @Sentence(at = P6, says = P6_ALTERED)
    private static void promise06_noneIfThereIsNoSuchByte() {
        Run x = new Run(1);
        x.keep(0, 3, 0, 1, 2, 3);
        x.keep(1, 3, 0);
        for (int i : new int[] {-1, 3, 4, 199, 200, LEAST, MOST}) {
            x.alter(0, i, 9).is(NONE);
            x.alter(1, i, 9).is(NONE);
        }
        x.alter(1, 0, 9).is(NONE);
        x.about(0, 0).is(3);
        x.about(1, 0).is(0);
        x.read(0, 0).is(1);
        x.read(1, 0).is(1);
    }

    @Sentence(at = P6, says = P6_ALTERED)
    private static void promise06_aByteThatWasCutIsNone() {
        Run x = new Run(1);
        x.keep(0, 3, 0, 1, 2, 3);
        x.cut(0, 2).is(1);
        x.alter(0, 2, 3).is(NONE);
        x.alter(0, 1, 2).is(2);
        x.cut(0, 0).is(2);
        x.alter(0, 0, 1).is(NONE);
    }

    // Promise 7

    private static final String P7_CUT = "A file loses its last bytes, all but so many: how many it lost; NONE; RANGE"
        + " if it has not so many.";

    @Sentence(at = P7, says = P7_CUT)
    private static void promise07_allButSoManyDownToNone() {
        Run x = new Run(1);
        x.keep(0, 3, 0, octets(200));
        x.cut(0, 199).is(1);
        x.about(0, 0).is(199);
        x.alter(0, 198, 1).is(octets(200)[198]);
        x.cut(0, 1).is(198);
        x.alter(0, 0, 3).is(3);
        x.cut(0, 0).is(1);
        x.about(0, 0).is(0);
        x.cut(0, 0).is(0);
    }

    @Sentence(at = P7, says = P7_CUT)
    private static void promise07_asManyAsItHasLosesNone() {
        Run x = new Run(1);
        x.keep(0, 3, 0, 1, 2, 3);
        x.cut(0, 3).is(0);
        x.read(0, 0).is(1);
        x.keep(1, 3, 0);
        x.cut(1, 0).is(0);
        x.read(1, 0).is(1);
        x.keep(2, 3, 0, octets(200));
        x.cut(2, 200).is(0);
        x.read(2, 0).is(1);
    }

    @Sentence(at = P7, says = P7_CUT)
    private static void promise07_noneIfThereIsNoSuchFile() {
        Run x = inUse();
        String before = x.look();
        for (int file : new int[] {-1, 3, 19, 20, LEAST, MOST}) {
            x.cut(file, 0).is(NONE);
            x.cut(file, -1).is(NONE);
            x.cut(file, 201).is(NONE);
        }
        x.looks(before);
    }

    @Sentence(at = P7, says = P7_CUT)
    private static void promise07_rangeIfItHasNotSoMany() {
        Run x = new Run(1);
        x.keep(0, 3, 0, 1, 2, 3);
        x.keep(1, 3, 0);
        String before = x.look();
        for (int size : new int[] {4, 200, 201, MOST, -1, LEAST}) {
            x.cut(0, size).is(RANGE);
            x.cut(1, size).is(RANGE);
        }
        x.cut(1, 1).is(RANGE);
        x.looks(before);
        x.read(0, 0).is(1);
        x.cut(0, 2).is(1);
        x.cut(0, 3).is(RANGE);
        x.about(0, 0).is(2);
    }

    // Promise 8

    private static final String P8_CHECKED = "Whether a file FITS, checked on a day: 1 or 0 (a row of THE CHAIN).";

    @Sentence(at = P8, says = P8_CHECKED)
    private static void promise08_1Or0AndARowOfEach() {
        Run x = new Run(1);
        x.keep(0, 3, 5, 1, 2);
        x.read(0, 0).is(1);
        x.rowIs(1, 1, 0, 0);
        x.alter(0, 0, 2).is(1);
        x.read(0, LAST_DAY).is(0);
        x.rowIs(2, 2, 0, LAST_DAY);
        x.alter(0, 0, 1).is(2);
        x.read(0, 3).is(1);
        x.rowIs(3, 1, 0, 3);
        x.row(4, 0).is(NONE);
        x.chain().is(NONE);
    }

    @Sentence(at = P8, says = P8_CHECKED)
    private static void promise08_itsDayIsFreeOfTheDayWorkedAndWorksNone() {
        Run x = withSchedules(1, 1, 10, 5);
        x.read(0, 12).is(1);
        x.told(0, 0).is(NONE);
        x.about(0, 2).is(10);
        x.due(10).is(1);
        x.read(0, 9).is(1);
        x.about(0, 2).is(15);
        x.toldAre(0);
        x.due(10).is(0);
    }

    private static final String P8_REFUSED = "NONE, RANGE.";

    @Sentence(at = P8, says = P8_REFUSED)
    private static void promise08_noneIfThereIsNoSuchFile() {
        Run x = inUse();
        String before = x.look();
        for (int file : new int[] {-1, 3, 19, 20, LEAST, MOST}) {
            x.read(file, 20).is(NONE);
            x.read(file, -1).is(NONE);
            x.read(file, LAST_DAY + 1).is(NONE);
        }
        x.looks(before);
    }

    @Sentence(at = P8, says = P8_REFUSED)
    private static void promise08_rangeIfThereIsNoSuchDay() {
        Run x = inUse();
        String before = x.look();
        for (int day : WRONG_DAYS) {
            x.read(0, day).is(RANGE);
            x.read(2, day).is(RANGE);
        }
        x.looks(before);
    }

    // Promise 9

    private static final String P9_SCHEDULE = "A SCHEDULE, in place of the one before: first DUE on a day, each SPAN:"
        + " 1.";

    @Sentence(at = P9, says = P9_SCHEDULE)
    private static void promise09_inPlaceOfTheOneBefore() {
        Run x = withFiles(1, 1);
        x.schedule(0, 5, 10).is(1);
        x.about(0, 2).is(5);
        x.schedule(0, 20, 3).is(1);
        x.about(0, 2).is(20);
        x.due(19).is(0);
        x.due(20).is(1);
        x.about(0, 2).is(23);
        x.schedule(0, 21, 1000).is(1);
        x.about(0, 2).is(21);
        x.due(21).is(1);
        x.about(0, 2).is(1021);
    }

    @Sentence(at = P9, says = P9_SCHEDULE)
    private static void promise09_firstDueOnADayThatWasWorkedOrLiesBefore() {
        Run x = withFiles(1, 2);
        x.due(50).is(0);
        x.schedule(0, 50, 5).is(1);
        x.schedule(1, 0, 7).is(1);
        x.about(1, 2).is(0);
        x.due(50).is(-11);
        x.toldAre(1);
        x.about(1, 2).is(56);
        x.due(50).is(1);
        x.toldAre(0);
        x.about(0, 2).is(55);
    }

    @Sentence(at = P9, says = P9_SCHEDULE)
    private static void promise09_theFirstAndLastDayAndTheLeastAndMostSpan() {
        Run x = withFiles(4, 4);
        x.schedule(0, 0, 1).is(1);
        x.schedule(1, 0, 1000).is(1);
        x.schedule(2, LAST_DAY, 1).is(1);
        x.schedule(3, LAST_DAY, 1000).is(1);
        x.due(0).is(2);
        x.toldAre(0, 1);
        x.about(0, 2).is(1);
        x.about(1, 2).is(1000);
        x.due(LAST_DAY).is(4);
        x.toldAre(0, 1, 2, 3);
    }

    private static final String P9_REFUSED = "NONE, RANGE.";

    @Sentence(at = P9, says = P9_REFUSED)
    private static void promise09_noneIfThereIsNoSuchFile() {
        Run x = inUse();
        String before = x.look();
        for (int file : new int[] {-1, 3, 19, 20, LEAST, MOST}) {
            x.schedule(file, 20, 1).is(NONE);
            x.schedule(file, -1, 1).is(NONE);
            x.schedule(file, 20, 0).is(NONE);
        }
        x.looks(before);
        // A file that comes later has no SCHEDULE of a refused call.
        x.file(1, 0).is(3);
        x.about(3, 2).is(NONE);
    }

    @Sentence(at = P9, says = P9_REFUSED)
    private static void promise09_rangeIfThereIsNoSuchDay() {
        Run x = inUse();
        String before = x.look();
        for (int day : WRONG_DAYS) {
            x.schedule(0, day, 1).is(RANGE);
        }
        x.looks(before);
    }

    @Sentence(at = P9, says = P9_REFUSED)
    private static void promise09_rangeIfThereIsNoSuchSpanAndTheOneBeforeStays() {
        Run x = inUse();
        String before = x.look();
        for (int span : new int[] {0, -1, 1001, LEAST, MOST}) {
            x.schedule(1, 20, span).is(RANGE);
        }
        x.looks(before);
        x.due(11).is(1);
        x.toldAre(1);
        x.about(1, 2).is(17);
    }

    // Promise 10

    private static final String P10_WORKED = "A day is worked: how many files were checked; -10 less how many DUE"
        + " ones are left, if there are some.";

    @Sentence(at = P10, says = P10_WORKED)
    private static void promise10_howManyFrom0To20() {
        for (int scheduled = 0; scheduled <= 20; scheduled++) {
            Run x = withSchedules(20, scheduled, 3, 1);
            x.due(2).is(0);
            x.due(3).is(scheduled);
            x.due(3).is(0);
        }
    }

    @Sentence(at = P10, says = P10_WORKED)
    private static void promise10_minus10LessThoseLeftFrom1To19() {
        for (int scheduled = 1; scheduled <= 20; scheduled++) {
            Run x = withSchedules(1, scheduled, 3, 1);
            for (int left = scheduled - 1; left > 0; left--) {
                x.due(3).is(-10 - left);
            }
            x.due(3).is(1);
            x.due(3).is(0);
        }
    }

    @Sentence(at = P10, says = P10_WORKED)
    private static void promise10_thoseDueLaterAreNotLeft() {
        Run x = withFiles(1, 4);
        x.schedule(0, 5, 1).is(1);
        x.schedule(1, 6, 1).is(1);
        x.schedule(2, 5, 1).is(1);
        x.due(5).is(-11);
        x.due(5).is(1);
        x.due(6).is(-12);
    }

    @Sentence(at = P10, says = P10_WORKED)
    private static void promise10_checksMakeRowsInTheirOrder() {
        Run x = withFiles(3, 3);
        x.schedule(0, 7, 1).is(1);
        x.schedule(1, 5, 1).is(1);
        x.schedule(2, 5, 1).is(1);
        x.cut(2, 0).is(1);
        x.due(8).is(3);
        x.rowIs(3, 1, 1, 8);
        x.rowIs(4, 2, 2, 8);
        x.rowIs(5, 1, 0, 8);
        x.row(6, 0).is(NONE);
        x.about(1, 1).is(8);
        x.about(2, 1).is(NONE);
        x.chain().is(NONE);
    }

    @Sentence(at = P10, says = "RANGE;")
    private static void promise10_rangeIfThereIsNoSuchDay() {
        Run x = inUse();
        String before = x.look();
        for (int day : WRONG_DAYS) {
            x.due(day).is(RANGE);
        }
        x.looks(before);
        // A refused day is not worked: the one before it still may be worked again.
        x.due(11).is(1);
        x.toldAre(1);
    }

    private static final String P10_BEFORE = "STATE if it is before the day worked latest.";

    @Sentence(at = P10, says = P10_BEFORE)
    private static void promise10_stateIfItIsBeforeTheDayWorkedLatest() {
        Run x = inUse();
        String before = x.look();
        x.due(0).is(STATE);
        x.due(10).is(STATE);
        x.looks(before);
        x.due(-1).is(RANGE);
        x.due(10).is(STATE);
        // The same day again is not before it, and a refused day is not the one worked latest.
        x.due(11).is(1);
        x.due(12).is(0);
        x.due(11).is(STATE);
        x.due(LAST_DAY).is(-11);
        x.due(LAST_DAY - 1).is(STATE);
        x.due(LAST_DAY).is(1);
    }

    @Sentence(at = P10, says = P10_BEFORE)
    private static void promise10_theFirstDayWorkedMayBe0AndEmptyDaysCount() {
        Run x = new Run(1);
        x.due(0).is(0);
        x.due(0).is(0);
        x.due(7).is(0);
        x.due(6).is(STATE);
        x.due(7).is(0);
        // Days of other calls are no days worked.
        x.keep(0, 1, 500, 1);
        x.read(0, 600).is(1);
        x.schedule(0, 700, 1).is(1);
        x.due(8).is(0);
    }

    // Promise 11

    private static final String P11_TOLD = "Of the i-th check of the day that was worked latest, from 0 on, what 0:"
        + " the file, 1: 1 if it FITS, else 0; NONE.";

    @Sentence(at = P11, says = P11_TOLD)
    private static void promise11_theFirstAndTheLastCheck() {
        Run x = withSchedules(20, 20, 1, 1);
        x.cut(0, 0).is(1);
        x.cut(19, 0).is(1);
        x.due(1).is(20);
        x.told(0, 0).is(0);
        x.told(0, 1).is(0);
        x.told(1, 1).is(1);
        x.told(18, 1).is(1);
        x.told(19, 0).is(19);
        x.told(19, 1).is(0);
        x.told(20, 0).is(NONE);
        x.told(20, 1).is(NONE);
    }

    @Sentence(at = P11, says = P11_TOLD)
    private static void promise11_noneBeforeADayIsWorkedAndOnAnEmptyOne() {
        Run x = withSchedules(2, 2, 5, 10);
        x.told(0, 0).is(NONE);
        x.told(0, 1).is(NONE);
        x.read(0, 5).is(1);
        x.told(0, 0).is(NONE);
        x.due(4).is(0);
        x.told(0, 0).is(NONE);
        x.due(5).is(2);
        x.toldAre(0, 1);
        x.due(6).is(0);
        x.told(0, 0).is(NONE);
        x.told(1, 1).is(NONE);
    }

    @Sentence(at = P11, says = P11_TOLD)
    private static void promise11_aRefusedDayIsNotTheLatest() {
        Run x = inUse();
        x.toldAre(2, 0);
        x.due(10).is(STATE);
        x.toldAre(2, 0);
        x.due(-1).is(RANGE);
        x.due(LAST_DAY + 1).is(RANGE);
        x.toldAre(2, 0);
        x.told(0, 1).is(0);
        x.told(1, 1).is(1);
        // Fewer checks on the next one: none of the day before is told any more.
        x.due(11).is(1);
        x.toldAre(1);
        x.told(1, 0).is(NONE);
    }

    @Sentence(at = P11, says = P11_TOLD)
    private static void promise11_whatTheCheckFoundStays() {
        Run x = withSchedules(1, 2, 5, 10);
        x.due(5).is(-11);
        x.told(0, 1).is(1);
        x.cut(0, 0).is(1);
        x.told(0, 1).is(1);
        x.read(0, 6).is(0);
        x.told(0, 0).is(0);
        x.told(0, 1).is(1);
    }

    @Sentence(at = P11, says = P11_TOLD)
    private static void promise11_noneForAnotherCheckOrWhat() {
        Run x = inUse();
        for (int i : new int[] {-1, 2, 3, 19, 20, LEAST, MOST}) {
            x.told(i, 0).is(NONE);
            x.told(i, 1).is(NONE);
        }
        for (int what : new int[] {-1, 2, 3, LEAST, MOST}) {
            x.told(0, what).is(NONE);
            x.told(1, what).is(NONE);
            x.told(2, what).is(NONE);
        }
    }

    // Promise 12

    private static final String P12_MENDED = "A file is mended on a day from the first other file that FITS and whose"
        + " bytes have all DIGESTS of the first: its number (a row of THE CHAIN).";

    @Sentence(at = P12, says = P12_MENDED)
    private static void promise12_fromTheFirstOfSeveralCopies() {
        Run x = new Run(1);
        x.keep(0, 1, 0, 9);
        x.keep(1, 1, 0, 1, 2);
        x.keep(2, 2, 0, 1, 2);
        x.keep(3, 3, 0, 1, 2);
        x.cut(3, 0).is(2);
        x.mend(3, 1).is(1);
        x.cut(1, 0).is(2);
        x.mend(1, 2).is(2);
        x.cut(1, 0).is(2);
        x.cut(2, 0).is(2);
        x.mend(1, 3).is(3);
        x.about(1, 3).is(2);
        x.about(3, 3).is(1);
        x.rowIs(4, 3, 3, 1);
        x.rowIs(5, 3, 1, 2);
        x.rowIs(6, 3, 1, 3);
        x.row(7, 0).is(NONE);
        x.chain().is(NONE);
    }

    @Sentence(at = P12, says = P12_MENDED)
    private static void promise12_fromFile19AndFrom200Bytes() {
        Run x = new Run(1);
        x.keep(0, 3, 0, octets(200));
        x.keep(1, 1, 0, octets(200));
        x.cut(0, 0).is(200);
        x.mend(0, LAST_DAY).is(1);
        x.about(0, 0).is(200);
        x.alter(0, 199, 0).is(octets(200)[199]);
        x.mend(0, 0).is(1);
        x.read(0, 0).is(1);
        Run y = withFiles(1, 19);
        y.keep(19, 3, 0, 18);
        y.cut(18, 0).is(1);
        y.mend(18, 0).is(19);
        y.alter(18, 0, 18).is(18);
    }

    @Sentence(at = P12, says = P12_MENDED)
    private static void promise12_fromACopyOfAnotherSizeEvenAnEmptyOne() {
        // These four bytes have the short digest of no bytes at all.
        Run x = new Run(1);
        x.keep(0, 2, 0, 0x9d, 0x0a, 0xd9, 0x6d);
        x.keep(1, 1, 0);
        x.cut(0, 3).is(1);
        x.mend(0, 1).is(1);
        x.about(0, 0).is(0);
        x.read(0, 1).is(1);
        // Bytes with their own short digest behind them, the lowest first, all have one short digest.
        int[] wide = Arrays.copyOf(octets(196), 200);
        int[] digest = Steps.algorithm1(octets(196));
        for (int k = 0; k < 4; k++) {
            wide[196 + k] = digest[3 - k];
        }
        Run y = new Run(1);
        y.keep(0, 2, 0, 0, 0, 0, 0);
        y.keep(1, 1, 0, wide);
        y.cut(0, 0).is(4);
        y.mend(0, 1).is(1);
        y.about(0, 0).is(200);
        y.alter(0, 199, wide[199]).is(wide[199]);
        y.read(0, 1).is(1);
    }

    @Sentence(at = P12, says = P12_MENDED)
    private static void promise12_aCopyThatDoesNotFitIsNone() {
        // File 1 has the bytes that are sought, but not its own DIGESTS.
        Run x = new Run(1);
        x.keep(0, 1, 0, 1, 2);
        x.keep(1, 3, 0, 1, 2, 3);
        x.cut(1, 2).is(1);
        x.cut(0, 1).is(1);
        String before = x.look();
        x.mend(0, 1).is(NO_COPY);
        x.looks(before);
        x.keep(2, 2, 0, 1, 2);
        x.mend(0, 1).is(2);
    }

    @Sentence(at = P12, says = P12_MENDED)
    private static void promise12_aCopyWithOneOfTwoDigestsIsNone() {
        Run x = new Run(1);
        x.keep(0, 2, 0, SAME_SHORT);
        alterKeepingShortDigest(x, 0);
        x.keep(1, 3, 0, SAME_SHORT);
        x.keep(2, 2, 0, SAME_SHORT);
        x.cut(1, 4).is(1);
        x.cut(2, 4).is(1);
        // File 0 FITS, and has the short digest of both, but not the long one of file 1.
        x.mend(1, 1).is(NO_COPY);
        x.mend(2, 1).is(0);
        x.read(2, 1).is(1);
        x.mend(1, 1).is(NO_COPY);
    }

    @Sentence(at = P12, says = P12_MENDED)
    private static void promise12_theCopyKeepsItsBytesAndMendingIsNoCheck() {
        Run x = new Run(1);
        x.keep(0, 1, 0, 1, 2);
        x.keep(1, 1, 0, 1, 2);
        x.schedule(0, 40, 1).is(1);
        x.cut(0, 0).is(2);
        x.mend(0, 30).is(1);
        x.about(0, 0).is(2);
        x.about(1, 0).is(2);
        x.about(1, 3).is(0);
        x.about(0, 1).is(NONE);
        x.about(0, 2).is(40);
        x.told(0, 0).is(NONE);
        x.alter(0, 0, 7).is(1);
        x.read(1, 0).is(1);
        x.alter(1, 0, 1).is(1);
        x.due(0).is(0);
    }

    private static final String P12_REFUSED = "NONE, RANGE;";

    @Sentence(at = P12, says = P12_REFUSED)
    private static void promise12_noneIfThereIsNoSuchFile() {
        Run x = inUse();
        String before = x.look();
        for (int file : new int[] {-1, 3, 19, 20, LEAST, MOST}) {
            x.mend(file, 20).is(NONE);
            x.mend(file, -1).is(NONE);
        }
        x.looks(before);
    }

    @Sentence(at = P12, says = P12_REFUSED)
    private static void promise12_rangeIfThereIsNoSuchDayWhetherItFitsOrNot() {
        Run x = inUse();
        x.cut(1, 0).is(3);
        String before = x.look();
        for (int day : WRONG_DAYS) {
            x.mend(0, day).is(RANGE);
            x.mend(1, day).is(RANGE);
            x.mend(2, day).is(RANGE);
        }
        x.looks(before);
        x.mend(1, 0).is(0);
    }

    private static final String P12_NOT_MENDED = "STATE if it FITS, -10 if there is none such.";

    @Sentence(at = P12, says = P12_NOT_MENDED)
    private static void promise12_stateIfItFits() {
        Run x = new Run(1);
        x.keep(0, 3, 0, 1, 2);
        x.keep(1, 3, 0, 1, 2);
        String before = x.look();
        x.mend(0, 1).is(STATE);
        x.mend(1, 1).is(STATE);
        x.looks(before);
        x.cut(0, 0).is(2);
        x.mend(0, 1).is(1);
        x.mend(0, 1).is(STATE);
        x.about(0, 3).is(1);
        // Without any copy, too.
        Run y = new Run(1);
        y.keep(0, 3, 0);
        y.mend(0, 1).is(STATE);
    }

    @Sentence(at = P12, says = P12_NOT_MENDED)
    private static void promise12_minus10IfThereIsNoneSuch() {
        Run x = new Run(1);
        x.keep(0, 3, 0, 1, 2);
        x.cut(0, 1).is(1);
        x.mend(0, 1).is(NO_COPY);
        x.keep(1, 3, 0, 1, 3);
        x.keep(2, 3, 0, 1);
        x.keep(3, 3, 0);
        String before = x.look();
        x.mend(0, 1).is(NO_COPY);
        x.looks(before);
        x.read(0, 1).is(0);
    }

    @Sentence(at = P12, says = P12_NOT_MENDED)
    private static void promise12_minus10IfNoneOf20FilesIsSuch() {
        Run x = withFiles(1, 20);
        x.cut(0, 0).is(1);
        x.alter(19, 0, 77).is(19);
        String before = x.look();
        x.mend(0, 1).is(NO_COPY);
        x.mend(19, 1).is(NO_COPY);
        x.looks(before);
        for (int file = 0; file < 20; file++) {
            x.alter(file, 0, 99);
        }
        x.mend(10, 1).is(NO_COPY);
    }

    // Promise 13

    private static final String P13_ABOUT = "Of a file, what 0: how many bytes, 1: the day of the latest check that"
        + " found that it FITS, or -1, 2: the day on which it is DUE next, or -1, 3: how often it was mended; NONE.";

    @Sentence(at = P13, says = P13_ABOUT)
    private static void promise13_aFileThatJustCame() {
        Run x = new Run(1);
        x.keep(0, 1, 50);
        x.keep(1, 1, 50, octets(200));
        for (int file = 0; file < 2; file++) {
            x.about(file, 0).is(200 * file);
            x.about(file, 1).is(-1);
            x.about(file, 2).is(-1);
            x.about(file, 3).is(0);
        }
    }

    @Sentence(at = P13, says = P13_ABOUT)
    private static void promise13_aCheckThatFindsALossIsNotTheDay() {
        Run x = new Run(1);
        x.keep(0, 1, 5, 1);
        x.cut(0, 0).is(1);
        x.read(0, 6).is(0);
        x.about(0, 1).is(-1);
        x.keep(1, 1, 5, 1);
        x.read(1, 0).is(1);
        x.about(1, 1).is(0);
        x.cut(1, 0).is(1);
        x.read(1, 8).is(0);
        x.schedule(1, 9, 1).is(1);
        x.due(9).is(1);
        x.about(1, 1).is(0);
        x.about(1, 2).is(10);
    }

    @Sentence(at = P13, says = P13_ABOUT)
    private static void promise13_theLatestCheckIsTheOneMadeLast() {
        Run x = withSchedules(1, 1, 7, 10);
        x.due(7).is(1);
        x.about(0, 1).is(7);
        x.read(0, LAST_DAY).is(1);
        x.about(0, 1).is(LAST_DAY);
        x.read(0, 3).is(1);
        x.about(0, 1).is(3);
        x.due(17).is(1);
        x.about(0, 1).is(17);
    }

    @Sentence(at = P13, says = P13_ABOUT)
    private static void promise13_dueNextFromDay0To1000000AndBehindIt() {
        Run x = withFiles(2, 2);
        x.schedule(0, 0, 4).is(1);
        x.about(0, 2).is(0);
        x.schedule(1, LAST_DAY, 1000).is(1);
        x.about(1, 2).is(LAST_DAY);
        x.due(LAST_DAY).is(2);
        x.about(0, 2).is(LAST_DAY + 4);
        x.about(1, 2).is(LAST_DAY + 1000);
    }

    @Sentence(at = P13, says = P13_ABOUT)
    private static void promise13_howOftenItWasMendedCountsNoRefusedCall() {
        Run x = new Run(1);
        x.keep(0, 1, 0, 1);
        x.keep(1, 1, 0, 1);
        for (int often = 0; often < 100; often++) {
            x.about(0, 3).is(often);
            x.cut(0, 0).is(1);
            x.mend(0, -1).is(RANGE);
            x.mend(0, 5).is(1);
        }
        x.about(0, 3).is(100);
        x.mend(0, 5).is(STATE);
        x.cut(0, 0).is(1);
        x.cut(1, 0).is(1);
        x.mend(0, 5).is(NO_COPY);
        x.about(0, 3).is(100);
        x.about(1, 3).is(0);
    }

    @Sentence(at = P13, says = P13_ABOUT)
    private static void promise13_noneForAnotherFileOrWhat() {
        Run x = inUse();
        for (int file : new int[] {-1, 3, 19, 20, LEAST, MOST}) {
            for (int what = -1; what < 5; what++) {
                x.about(file, what).is(NONE);
            }
        }
        for (int what : new int[] {-1, 4, 5, LEAST, MOST}) {
            x.about(0, what).is(NONE);
        }
        Run y = withFiles(1, 20);
        y.about(19, 0).is(1);
        y.about(20, 0).is(NONE);
    }

    // Promise 14

    private static final String P14_ROW = "Of row i of THE CHAIN, what 0: what, 1: the file, 2: the day, 3: the first"
        + " four bytes of its digest, as an int;";

    @Sentence(at = P14, says = P14_ROW)
    private static void promise14_theFirstAndTheLastRowOf200() {
        Run x = new Run(1);
        x.keep(0, 1, 3, 1);
        x.keep(1, 1, 4, 1);
        for (int i = 2; i < 200; i++) {
            x.read(i % 2, i).is(1);
        }
        x.rowIs(0, 0, 0, 3);
        x.rowIs(1, 0, 1, 4);
        x.rowIs(199, 1, 1, 199);
        int[] digest = Steps.sealed(new int[32], 0, 0, 3);
        x.row(0, 3).is(Steps.firstWord(digest));
        digest = Steps.sealed(digest, 0, 1, 4);
        for (int i = 2; i < 200; i++) {
            digest = Steps.sealed(digest, 1, i % 2, i);
        }
        x.row(199, 3).is(Steps.firstWord(digest));
    }

    @Sentence(at = P14, says = P14_ROW)
    private static void promise14_fourBytesAsAnIntMayBeBelow0() {
        Run x = new Run(1);
        x.keep(0, 1, 0, 1);
        int[] digest = Steps.sealed(new int[32], 0, 0, 0);
        int below = 0;
        for (int i = 1; i < 20; i++) {
            x.read(0, i).is(1);
            digest = Steps.sealed(digest, 1, 0, i);
            x.row(i, 3).is(Steps.firstWord(digest));
            below += x.row(i, 3).got < 0 ? 1 : 0;
        }
        new Answer("whether some are below 0", below > 0 ? 1 : 0).is(1);
    }

    private static final String P14_NONE = "NONE for none such, or another what.";

    @Sentence(at = P14, says = P14_NONE)
    private static void promise14_noneForNoneSuch() {
        Run x = new Run(1);
        x.row(0, 0).is(NONE);
        x.keep(0, 1, 0, 1);
        x.row(0, 0).is(0);
        for (int what = -1; what < 5; what++) {
            for (int i : new int[] {-1, 1, 2, 199, 200, LEAST, MOST}) {
                x.row(i, what).is(NONE);
            }
        }
    }

    @Sentence(at = P14, says = P14_NONE)
    private static void promise14_noneForAnotherWhat() {
        Run x = inUse();
        for (int what : new int[] {-1, 4, 5, 32, LEAST, MOST}) {
            for (int i = 0; i < 6; i++) {
                x.row(i, what).is(NONE);
            }
        }
    }

    // Promise 15

    private static final String P15_SPOILT = "A row of THE CHAIN is spoilt: its day exclusive or a mask (its digest"
        + " stays): 1;";

    @Sentence(at = P15, says = P15_SPOILT)
    private static void promise15_aMaskOfAnyBitsAndTheDigestStays() {
        for (int mask : new int[] {1, 2, 1 << 19, LEAST, MOST, -1}) {
            Run x = new Run(1);
            x.keep(0, 1, 21, 1);
            x.keep(1, 2, 22, 1);
            x.keep(2, 2, 23, 1);
            int[] words = {x.row(0, 3).got, x.row(1, 3).got, x.row(2, 3).got};
            x.spoil(1, mask).is(1);
            x.rowIs(0, 0, 0, 21);
            x.rowIs(1, 0, 1, 22 ^ mask);
            x.rowIs(2, 0, 2, 23);
            for (int i = 0; i < 3; i++) {
                x.row(i, 3).is(words[i]);
            }
            x.spoil(1, mask).is(1);
            x.row(1, 2).is(22);
            x.chain().is(NONE);
        }
    }

    @Sentence(at = P15, says = P15_SPOILT)
    private static void promise15_theFilesAreAsTheyWere() {
        Run x = inUse();
        x.about(0, 1).is(11);
        x.spoil(5, 3).is(1);
        x.rowIs(5, 1, 0, 11 ^ 3);
        x.about(0, 1).is(11);
        x.spoil(5, 0).is(0);
        x.about(0, 1).is(11);
        x.toldAre(2, 0);
        x.spoil(0, 0).is(0);
        x.about(0, 0).is(3);
        x.read(0, 3).is(1);
        x.about(3, 0).is(NONE);
    }

    private static final String P15_GONE = "or, mask 0, it is gone, and those behind come forward: 0.";

    @Sentence(at = P15, says = P15_GONE)
    private static void promise15_theFirstTheLastAndTheOnlyRowGone() {
        Run x = inUse();
        int[][] rows = new int[6][4];
        for (int i = 0; i < 6; i++) {
            for (int what = 0; what < 4; what++) {
                rows[i][what] = x.row(i, what).got;
            }
        }
        x.row(6, 0).is(NONE);
        x.spoil(0, 0).is(0);
        rowsAre(x, rows, 1, 2, 3, 4, 5);
        x.spoil(4, 0).is(0);
        rowsAre(x, rows, 1, 2, 3, 4);
        x.spoil(1, 0).is(0);
        rowsAre(x, rows, 1, 3, 4);
        x.spoil(2, 0).is(0);
        x.spoil(0, 0).is(0);
        rowsAre(x, rows, 3);
        x.spoil(0, 0).is(0);
        rowsAre(x, rows);
        x.spoil(0, 0).is(NONE);
    }

    private static void rowsAre(Run x, int[][] rows, int... which) {
        for (int i = 0; i < which.length; i++) {
            for (int what = 0; what < 4; what++) {
                x.row(i, what).is(rows[which[i]][what]);
            }
        }
        x.row(which.length, 0).is(NONE);
    }

    @Sentence(at = P15, says = P15_GONE)
    private static void promise15_aRowOf200GoneLeaves199() {
        Run x = new Run(1);
        x.keep(0, 1, 0, 1);
        for (int i = 1; i < 200; i++) {
            x.read(0, i).is(1);
        }
        x.spoil(0, 0).is(0);
        x.row(0, 2).is(1);
        x.row(198, 2).is(199);
        x.row(199, 2).is(NONE);
        x.spoil(199, 0).is(NONE);
        x.spoil(198, 0).is(0);
        x.row(197, 2).is(198);
        x.row(198, 2).is(NONE);
    }

    @Sentence(at = P15, says = "NONE.")
    private static void promise15_noneIfThereIsNoSuchRow() {
        Run x = new Run(1);
        x.spoil(0, 0).is(NONE);
        x.spoil(0, 1).is(NONE);
        x.keep(0, 1, 0, 1);
        x.read(0, 1).is(1);
        String before = x.look();
        for (int i : new int[] {-1, 2, 3, 199, 200, LEAST, MOST}) {
            x.spoil(i, 0).is(NONE);
            x.spoil(i, 1).is(NONE);
        }
        x.looks(before);
    }

    // Promise 16

    private static final String P16_LOOKED = "THE CHAIN is looked through: the first row whose digest is not that of"
        + " its numbers and the digest of the row before;";

    @Sentence(at = P16, says = P16_LOOKED)
    private static void promise16_theFirstTheLastAndTheFirstOfSeveral() {
        Run x = new Run(1);
        x.keep(0, 1, 0, 1);
        for (int i = 1; i < 200; i++) {
            x.read(0, i).is(1);
        }
        x.spoil(199, LEAST).is(1);
        x.chain().is(199);
        x.chain().is(199);
        x.spoil(100, 1).is(1);
        x.chain().is(100);
        x.spoil(101, 1).is(1);
        x.chain().is(100);
        x.spoil(100, 1).is(1);
        x.chain().is(101);
        x.spoil(0, -1).is(1);
        x.chain().is(0);
    }

    @Sentence(at = P16, says = P16_LOOKED)
    private static void promise16_behindARowThatIsGone() {
        Run x = inUse();
        x.spoil(2, 0).is(0);
        x.chain().is(2);
        Run y = inUse();
        y.spoil(0, 0).is(0);
        y.chain().is(0);
        // The last row gone leaves no trace.
        Run z = inUse();
        z.spoil(5, 0).is(0);
        z.chain().is(NONE);
        z.read(0, 20).is(1);
        z.chain().is(NONE);
    }

    @Sentence(at = P16, says = P16_LOOKED)
    private static void promise16_aRowBehindASpoiltOneRestsOnItsDigest() {
        Run x = new Run(1);
        x.keep(0, 1, 7, 1);
        x.spoil(0, 2).is(1);
        x.read(0, 8).is(1);
        x.chain().is(0);
        x.spoil(0, 2).is(1);
        x.chain().is(NONE);
    }

    @Sentence(at = P16, says = P16_LOOKED)
    private static void promise16_lookingThroughMendsNothing() {
        Run x = inUse();
        x.spoil(3, 5).is(1);
        String before = x.look();
        x.chain().is(3);
        x.looks(before);
        x.chain().is(3);
    }

    @Sentence(at = P16, says = "NONE if there is none.")
    private static void promise16_noneIfThereIsNoneInAnEmptyAWholeAndAFullChain() {
        Run x = new Run(1);
        x.chain().is(NONE);
        x.keep(0, 1, LAST_DAY, 1);
        x.chain().is(NONE);
        for (int i = 1; i < 199; i++) {
            x.read(0, i).is(1);
        }
        x.chain().is(NONE);
        x.read(0, 199).is(1);
        x.chain().is(NONE);
        x.read(0, 200).is(1);
        x.chain().is(NONE);
        Run y = new Run(1);
        y.keep(0, 1, 0, 1);
        y.spoil(0, 0).is(0);
        y.chain().is(NONE);
    }
}
