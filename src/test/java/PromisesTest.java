import java.security.MessageDigest;
import java.security.NoSuchAlgorithmException;
import java.util.zip.CRC32;

/** Each promise of the document: ordinary inputs, the edges it names, wrong inputs. */
public final class PromisesTest {
    private static final int[] WRONG_DAYS = {-1, 1000001, Integer.MIN_VALUE, Integer.MAX_VALUE};
    private static final int[] WRONG_NUMBERS = {-1, Integer.MIN_VALUE, Integer.MAX_VALUE};

    private static int wrong = 0;
    private static int asked = 0;

    public static void main(String[] args) throws NoSuchAlgorithmException {
        promise1();
        promise2();
        promise3();
        promise3OfTheDocumentsSteps();
        promise4();
        promise5();
        promise6();
        promise7();
        promise8();
        promise9();
        promise10();
        promise10Order();
        promise10FarDays();
        promise11();
        promise12();
        promise12ChoosesACopy();
        promise13();
        promise14();
        promise15();
        promise16();
        chainHolds200Rows();
        System.out.println(asked + " answers, " + wrong + " of them wrong");
        if (wrong != 0) {
            System.exit(1);
        }
    }

    private static void due(String call, long got, long want) {
        asked++;
        if (got != want) {
            wrong++;
            System.out.println(call + " answered " + got + ", due is " + want);
        }
    }

    private static void throwsAt(String call, FixityRows x, int i) {
        asked++;
        String got;
        try {
            got = Integer.toString(x.at(i));
        } catch (ArrayIndexOutOfBoundsException e) {
            // The machine's own exception tells the index; the class is to throw by itself.
            if (e.getMessage() == null || !e.getMessage().startsWith("Index ")) {
                return;
            }
            got = "the machine's exception";
        }
        wrong++;
        System.out.println(call + ": at(" + i + ") answered " + got + ", due is an exception");
    }

    private static void collect(FixityRows x, int... octets) {
        for (int b : octets) {
            x.octet(b);
        }
    }

    private static int keep(FixityRows x, int algorithms, int day, int... octets) {
        collect(x, octets);
        return x.file(algorithms, day);
    }

    private static FixityRows withFiles(int capacity, int howMany) {
        FixityRows x = new FixityRows(capacity);
        for (int i = 0; i < howMany; i++) {
            due("file " + i, keep(x, 1 + i % 3, 0, i), i);
        }
        return x;
    }

    private static byte[] sha(byte[] bytes) throws NoSuchAlgorithmException {
        return MessageDigest.getInstance("SHA-256").digest(bytes);
    }

    private static int crc(byte[] bytes) {
        CRC32 crc = new CRC32();
        crc.update(bytes);
        return (int) crc.getValue();
    }

    private static void promise1() {
        int[][] capacities = {{Integer.MIN_VALUE, 1}, {-5, 1}, {0, 1}, {1, 1}, {2, 2}, {7, 7}, {19, 19}, {20, 20},
            {21, 20}, {Integer.MAX_VALUE, 20}};
        for (int[] pair : capacities) {
            String name = "1: capacity " + pair[0];
            FixityRows x = withFiles(pair[0], 20);
            for (int i = 0; i < 20; i++) {
                due(name + " schedule", x.schedule(i, 1, 1), 1);
            }
            due(name + " due", x.due(1), pair[1] == 20 ? 20 : -10 - (20 - pair[1]));
            due(name + " told last", x.told(pair[1] - 1, 0), pair[1] - 1);
            due(name + " told beyond", x.told(pair[1], 0), -1);
        }
        FixityRows x = new FixityRows(3);
        throwsAt("1: new", x, 0);
        due("1: no rows", x.row(0, 0), -1);
        due("1: no files", x.about(0, 0), -1);
        due("1: whole chain", x.chain(), -1);
        due("1: nothing told", x.told(0, 0), -1);
        due("1: nothing due", x.due(0), 0);
        due("1: no bytes", x.file(1, 0), 0);
        due("1: no bytes in it", x.about(0, 0), 0);
    }

    private static void promise2() throws NoSuchAlgorithmException {
        FixityRows x = new FixityRows(1);
        byte[] bytes = new byte[200];
        for (int i = 0; i < 200; i++) {
            int b = i * 77 - 4000;
            x.octet(b);
            bytes[i] = (byte) b;
        }
        dueDigest("2: 200 bytes", x, 0, sha(bytes));
        x.octet(1);
        x.octet(Integer.MIN_VALUE);
        dueDigest("2: beyond 200", x, 0, sha(bytes));
        due("2: file", x.file(3, 0), 0);
        due("2: its size", x.about(0, 0), 200);
        collect(x, 256, -1, Integer.MAX_VALUE, Integer.MIN_VALUE);
        dueDigest("2: wide numbers", x, 0, sha(new byte[] {0, -1, -1, 0}));
    }

    private static void dueDigest(String name, FixityRows x, int algorithm, byte[] want) {
        due(name + " digest", x.digest(algorithm), want.length);
        for (int i = 0; i < want.length; i++) {
            due(name + " at " + i, x.at(i), want[i] & 255);
        }
        throwsAt(name, x, want.length);
        throwsAt(name, x, -1);
    }

    private static byte[] ofWord(int word) {
        return new byte[] {(byte) (word >>> 24), (byte) (word >>> 16), (byte) (word >>> 8), (byte) word};
    }

    private static void promise3() throws NoSuchAlgorithmException {
        for (int seed = 1; seed <= 3; seed++) {
            for (int size = 0; size <= 200; size++) {
                // A new object each time, as nothing is promised beyond 512 calls.
                FixityRows x = new FixityRows(1);
                byte[] bytes = new byte[size];
                for (int i = 0; i < size; i++) {
                    int b = seed * 89 + i * (seed + 30);
                    bytes[i] = (byte) b;
                    x.octet(b);
                }
                dueDigest("3: 0 of " + size, x, 0, sha(bytes));
                dueDigest("3: 1 of " + size, x, 1, ofWord(crc(bytes)));
            }
        }
        FixityRows x = new FixityRows(1);
        for (int algorithm : new int[] {-1, 2, 3, 256, Integer.MIN_VALUE, Integer.MAX_VALUE}) {
            due("3: digest(" + algorithm + ")", x.digest(algorithm), -2);
        }
        throwsAt("3: a refused digest is none", x, 0);
    }

    /** Well-known answers, so that the test does not rest on the Java library alone. */
    private static void promise3OfTheDocumentsSteps() {
        FixityRows x = new FixityRows(1);
        collect(x, 'a', 'b', 'c');
        due("3: abc", x.digest(0), 32);
        int[] head = {0xba, 0x78, 0x16, 0xbf, 0x8f, 0x01, 0xcf, 0xea};
        for (int i = 0; i < head.length; i++) {
            due("3: abc at " + i, x.at(i), head[i]);
        }
        FixityRows y = new FixityRows(1);
        collect(y, '1', '2', '3', '4', '5', '6', '7', '8', '9');
        due("3: 1 .. 9", y.digest(1), 4);
        int[] check = {0xcb, 0xf4, 0x39, 0x26};
        for (int i = 0; i < check.length; i++) {
            due("3: 1 .. 9 at " + i, y.at(i), check[i]);
        }
    }

    private static void promise4() {
        FixityRows x = new FixityRows(1);
        for (int i : new int[] {0, 1, -1, 31, Integer.MIN_VALUE, Integer.MAX_VALUE}) {
            throwsAt("4: before a digest", x, i);
        }
        due("4: file before a digest", x.file(3, 0), 0);
        throwsAt("4: file makes none", x, 0);
        due("4: long", x.digest(0), 32);
        due("4: first of long", x.at(0), 0xe3);
        due("4: last of long", x.at(31), 0x55);
        for (int i : new int[] {-1, 32, Integer.MIN_VALUE, Integer.MAX_VALUE}) {
            throwsAt("4: long", x, i);
        }
        collect(x, 'a');
        due("4: stays while collecting", x.at(0), 0xe3);
        due("4: refused digest", x.digest(2), -2);
        due("4: stays behind a refused one", x.at(31), 0x55);
        due("4: file", x.file(2, 0), 1);
        due("4: read", x.read(0, 0), 1);
        due("4: stays behind file and read", x.at(0), 0xe3);
        collect(x, 'a');
        due("4: short", x.digest(1), 4);
        due("4: first of short", x.at(0), 0xe8);
        due("4: last of short", x.at(3), 0x43);
        for (int i : new int[] {-1, 4, 31, 32, Integer.MIN_VALUE, Integer.MAX_VALUE}) {
            throwsAt("4: short", x, i);
        }
    }

    private static void promise5() {
        FixityRows x = new FixityRows(1);
        collect(x, 1, 2, 3);
        for (int bits : new int[] {0, -1, 4, 7, Integer.MIN_VALUE, Integer.MAX_VALUE}) {
            due("5: bits " + bits, x.file(bits, 0), -2);
        }
        for (int day : WRONG_DAYS) {
            due("5: day " + day, x.file(1, day), -2);
        }
        due("5: no row of a refused one", x.row(0, 0), -1);
        due("5: first", x.file(1, 0), 0);
        due("5: refused ones left what was collected", x.about(0, 0), 3);
        due("5: second, last day", x.file(3, 1000000), 1);
        due("5: nothing was collected any more", x.about(1, 0), 0);
        due("5: row what", x.row(1, 0), 0);
        due("5: row file", x.row(1, 1), 1);
        due("5: row day", x.row(1, 2), 1000000);
        for (int i = 2; i < 20; i++) {
            due("5: number " + i, keep(x, 2, i, i), i);
        }
        collect(x, 9);
        due("5: full", x.file(1, 0), -4);
        due("5: range before full", x.file(0, 0), -2);
        due("5: range of the day before full", x.file(1, -1), -2);
        due("5: no row of a refused one", x.row(20, 0), -1);
        due("5: still collected", x.digest(1), 4);
        CRC32 crc = new CRC32();
        crc.update(9);
        due("5: still collected, first byte", x.at(0), crc.getValue() >>> 24);
        bitsChooseTheDigests();
    }

    /** Two rows of bytes with one short digest and two long ones tell the bits apart. */
    private static void bitsChooseTheDigests() {
        for (int bits = 1; bits <= 3; bits++) {
            FixityRows x = new FixityRows(1);
            int[] octets = {10, 20, 30, 40, 50};
            due("5: file", keep(x, bits, 0, octets), 0);
            alterKeepingShortDigest(x, 0);
            due("5: bits " + bits + " and the short digest kept", x.read(0, 1), bits == 2 ? 1 : 0);
            x.alter(0, 0, 77);
            due("5: bits " + bits + " and no digest kept", x.read(0, 2), 0);
        }
    }

    /** The polynomial itself, five bytes of it, may be added without changing ALGORITHM 1's digest. */
    private static void alterKeepingShortDigest(FixityRows x, int file) {
        long multiple = 1L | (long) Integer.reverse(0x04C11DB7) << 1 & 0x1FFFFFFFEL;
        for (int i = 0; i < 5; i++) {
            int before = x.alter(file, i, 0);
            x.alter(file, i, before ^ (int) (multiple >>> 8 * i & 255));
        }
    }

    private static void promise6() {
        FixityRows x = new FixityRows(1);
        due("6: no file", x.alter(0, 0, 1), -1);
        due("6: file", keep(x, 3, 0, 5, 250, 7), 0);
        due("6: first", x.alter(0, 0, 6), 5);
        due("6: again", x.alter(0, 0, 5), 6);
        due("6: last", x.alter(0, 2, 300), 7);
        due("6: 300 is 44", x.alter(0, 2, -1), 44);
        due("6: -1 is 255", x.alter(0, 2, 7), 255);
        due("6: as before", x.read(0, 0), 1);
        due("6: above 127", x.alter(0, 1, 251), 250);
        due("6: another", x.read(0, 0), 0);
        due("6: byte beyond", x.alter(0, 3, 1), -1);
        for (int n : WRONG_NUMBERS) {
            due("6: byte " + n, x.alter(0, n, 1), -1);
            due("6: file " + n, x.alter(n, 0, 1), -1);
        }
        due("6: next file", x.alter(1, 0, 1), -1);
        due("6: cut", x.cut(0, 1), 2);
        due("6: byte that was cut off", x.alter(0, 1, 1), -1);
    }

    private static void promise7() {
        FixityRows x = new FixityRows(1);
        due("7: no file", x.cut(0, 0), -1);
        due("7: file", keep(x, 3, 0, 1, 2, 3, 4), 0);
        due("7: all stay", x.cut(0, 4), 0);
        due("7: fits", x.read(0, 0), 1);
        due("7: more than it has", x.cut(0, 5), -2);
        due("7: -1", x.cut(0, -1), -2);
        due("7: least", x.cut(0, Integer.MIN_VALUE), -2);
        due("7: most", x.cut(0, Integer.MAX_VALUE), -2);
        due("7: one", x.cut(0, 3), 1);
        due("7: does not fit", x.read(0, 0), 0);
        due("7: size", x.about(0, 0), 3);
        due("7: the last went", x.alter(0, 2, 3), 3);
        due("7: no way back", x.cut(0, 4), -2);
        due("7: rest", x.cut(0, 0), 3);
        due("7: none left", x.cut(0, 0), 0);
        for (int n : WRONG_NUMBERS) {
            due("7: file " + n, x.cut(n, 0), -1);
            due("7: none before range " + n, x.cut(n, -1), -1);
        }
        due("7: next file", x.cut(1, 0), -1);
    }

    private static void promise8() {
        FixityRows x = new FixityRows(1);
        due("8: no file", x.read(0, 0), -1);
        due("8: file", keep(x, 3, 5, 1, 2), 0);
        due("8: fits", x.read(0, 7), 1);
        due("8: row what", x.row(1, 0), 1);
        due("8: row file", x.row(1, 1), 0);
        due("8: row day", x.row(1, 2), 7);
        due("8: alter", x.alter(0, 1, 3), 2);
        due("8: does not fit", x.read(0, 1000000), 0);
        due("8: row what", x.row(2, 0), 2);
        due("8: row day", x.row(2, 2), 1000000);
        due("8: an earlier day is fine", x.read(0, 0), 0);
        for (int day : WRONG_DAYS) {
            due("8: day " + day, x.read(0, day), -2);
            due("8: none before range " + day, x.read(1, day), -1);
        }
        for (int n : WRONG_NUMBERS) {
            due("8: file " + n, x.read(n, 0), -1);
        }
        due("8: no row of refused ones", x.row(4, 0), -1);
        due("8: reads are not told", x.told(0, 0), -1);
        due("8: a read works no day", x.due(0), 0);
    }

    private static void promise9() {
        FixityRows x = new FixityRows(1);
        due("9: no file", x.schedule(0, 0, 1), -1);
        due("9: file", keep(x, 3, 5, 1, 2), 0);
        due("9: none yet", x.about(0, 2), -1);
        for (int day : WRONG_DAYS) {
            due("9: day " + day, x.schedule(0, day, 1), -2);
            due("9: none before range " + day, x.schedule(1, day, 1), -1);
        }
        for (int span : new int[] {0, -1, 1001, Integer.MIN_VALUE, Integer.MAX_VALUE}) {
            due("9: span " + span, x.schedule(0, 0, span), -2);
            due("9: none before range " + span, x.schedule(-1, 0, span), -1);
        }
        due("9: still none", x.about(0, 2), -1);
        due("9: refused ones are not due", x.due(0), 0);
        due("9: day 9, span 1000", x.schedule(0, 9, 1000), 1);
        due("9: next", x.about(0, 2), 9);
        due("9: not yet", x.due(8), 0);
        due("9: on the day that is told", x.due(9), 1);
        due("9: next by span", x.about(0, 2), 1009);
        due("9: in its place, before the day worked", x.schedule(0, 0, 1), 1);
        due("9: next", x.about(0, 2), 0);
        due("9: a refused one leaves it", x.schedule(0, 3, 0), -2);
        due("9: next", x.about(0, 2), 0);
        due("9: due", x.due(9), 1);
        due("9: next by the new span", x.about(0, 2), 10);
        due("9: last day", x.schedule(0, 1000000, 1000), 1);
        due("9: next", x.about(0, 2), 1000000);
        due("9: scheduling makes no row", x.row(3, 0), -1);
    }

    private static void promise10() {
        FixityRows x = withFiles(2, 5);
        for (int day : WRONG_DAYS) {
            due("10: day " + day, x.due(day), -2);
        }
        for (int i = 0; i < 5; i++) {
            due("10: schedule " + i, x.schedule(i, 10, 3 + i), 1);
        }
        due("10: too early", x.due(9), 0);
        due("10: three left", x.due(10), -13);
        due("10: a day before", x.due(9), -3);
        due("10: range before state", x.due(-1), -2);
        due("10: told stays", x.told(1, 0), 1);
        due("10: row what", x.row(5, 0), 1);
        due("10: row file", x.row(6, 1), 1);
        due("10: row day", x.row(6, 2), 10);
        due("10: next of a checked one", x.about(1, 2), 14);
        due("10: next of one that is left", x.about(2, 2), 10);
        due("10: one left", x.due(10), -11);
        due("10: told", x.told(0, 0), 2);
        due("10: none left", x.due(10), 1);
        due("10: told", x.told(0, 0), 4);
        due("10: nothing to do", x.due(10), 0);
        due("10: told no more", x.told(0, 0), -1);
        due("10: alter", x.alter(0, 0, 99), 0);
        due("10: one that does not fit", x.due(13), 1);
        due("10: row what", x.row(10, 0), 2);
        due("10: row day", x.row(10, 2), 13);
        due("10: it is due again all the same", x.about(0, 2), 16);
    }

    private static void promise10Order() {
        FixityRows x = withFiles(3, 6);
        int[] first = {8, 5, 8, 7, 5, 9};
        for (int i = 0; i < 6; i++) {
            due("10: schedule " + i, x.schedule(i, first[i], 100), 1);
        }
        due("10: longest first", x.due(20), -13);
        int[] order = {1, 4, 3};
        for (int i = 0; i < 3; i++) {
            due("10: order " + i, x.told(i, 0), order[i]);
            due("10: row order " + i, x.row(6 + i, 1), order[i]);
        }
        due("10: the others", x.due(20), 3);
        int[] rest = {0, 2, 5};
        for (int i = 0; i < 3; i++) {
            due("10: order " + i, x.told(i, 0), rest[i]);
        }
    }

    private static void promise10FarDays() {
        FixityRows x = withFiles(20, 3);
        due("10: each day", x.schedule(0, 0, 1), 1);
        due("10: each 7", x.schedule(1, 3, 7), 1);
        due("10: each 1000", x.schedule(2, 0, 1000), 1);
        due("10: far", x.due(24), 3);
        due("10: behind the day", x.about(0, 2), 25);
        due("10: 24 is one of its days", x.about(1, 2), 31);
        due("10: one span", x.about(2, 2), 1000);
        due("10: day before it", x.due(999), 2);
        due("10: on it", x.due(1000), 2);
        due("10: last day", x.due(1000000), 3);
        due("10: each day", x.about(0, 2), 1000001);
        due("10: each 7", x.about(1, 2), 1000002);
        due("10: each 1000", x.about(2, 2), 1001000);
        due("10: never again", x.due(1000000), 0);
    }

    private static void promise11() {
        FixityRows x = withFiles(3, 4);
        due("11: nothing worked", x.told(0, 0), -1);
        for (int i = 0; i < 3; i++) {
            due("11: schedule", x.schedule(i, 2, 5), 1);
        }
        due("11: alter", x.alter(1, 0, 50), 1);
        due("11: due", x.due(2), 3);
        for (int i = 0; i < 3; i++) {
            due("11: file " + i, x.told(i, 0), i);
            due("11: fits " + i, x.told(i, 1), i == 1 ? 0 : 1);
            due("11: what 2", x.told(i, 2), -1);
            for (int what : WRONG_NUMBERS) {
                due("11: what " + what, x.told(i, what), -1);
            }
        }
        due("11: beyond", x.told(3, 0), -1);
        due("11: beyond", x.told(3, 1), -1);
        for (int n : WRONG_NUMBERS) {
            due("11: check " + n, x.told(n, 0), -1);
        }
        due("11: alter", x.alter(0, 0, 50), 0);
        due("11: the check's finding stays", x.told(0, 1), 1);
        due("11: state", x.due(1), -3);
        due("11: range", x.due(-1), -2);
        due("11: refused days are not worked", x.told(2, 0), 2);
        due("11: empty day", x.due(3), 0);
        due("11: nothing told of it", x.told(0, 0), -1);
    }

    private static void promise12() {
        FixityRows x = new FixityRows(1);
        due("12: no file", x.mend(0, 0), -1);
        due("12: file", keep(x, 3, 0, 1, 2, 3), 0);
        due("12: fits", x.mend(0, 1), -3);
        due("12: cut", x.cut(0, 1), 2);
        due("12: no other", x.mend(0, 1), -10);
        due("12: another row of bytes", keep(x, 3, 0, 1, 2, 4), 1);
        due("12: none such", x.mend(0, 1), -10);
        due("12: copy", keep(x, 2, 0, 1, 2, 3), 2);
        for (int day : WRONG_DAYS) {
            due("12: day " + day, x.mend(0, day), -2);
            due("12: range before state " + day, x.mend(1, day), -2);
            due("12: none before range " + day, x.mend(3, day), -1);
        }
        for (int n : WRONG_NUMBERS) {
            due("12: file " + n, x.mend(n, 0), -1);
        }
        due("12: no row of refused ones", x.row(3, 0), -1);
        due("12: mended", x.mend(0, 1000000), 2);
        due("12: row what", x.row(3, 0), 3);
        due("12: row file", x.row(3, 1), 0);
        due("12: row day", x.row(3, 2), 1000000);
        due("12: bytes are back", x.about(0, 0), 3);
        due("12: byte is back", x.alter(0, 1, 2), 2);
        due("12: often", x.about(0, 3), 1);
        due("12: the copy was not", x.about(2, 3), 0);
        due("12: mending is no check", x.about(0, 1), -1);
        due("12: fits now", x.mend(0, 2), -3);
        due("12: the copy's bytes are its own", x.alter(2, 0, 9), 1);
        due("12: read", x.read(0, 3), 1);
        due("12: mended by the mended one", x.mend(2, 4), 0);
    }

    private static void promise12ChoosesACopy() {
        FixityRows x = new FixityRows(1);
        due("12: collides", keep(x, 2, 0, 10, 20, 30, 40, 50), 0);
        alterKeepingShortDigest(x, 0);
        due("12: still fits", x.read(0, 0), 1);
        due("12: both digests", keep(x, 3, 0, 10, 20, 30, 40, 50), 1);
        due("12: short only", keep(x, 2, 0, 10, 20, 30, 40, 50), 2);
        due("12: long only", keep(x, 1, 0, 10, 20, 30, 40, 50), 3);
        due("12: break", x.cut(1, 0), 5);
        due("12: 0 has not the long digest", x.mend(1, 0), 2);
        due("12: break", x.cut(2, 0), 5);
        due("12: 0 has the short digest", x.mend(2, 0), 0);
        due("12: 2 has 0's bytes", x.alter(2, 0, 10) == 10 ? 1 : 0, 0);
        due("12: break", x.cut(1, 0), 5);
        due("12: 2 fits no more", x.mend(1, 0), 3);
        due("12: break", x.cut(3, 0), 5);
        due("12: break", x.alter(1, 4, 51), 50);
        due("12: 1 does not fit", x.mend(3, 0), -10);
        anUnfitCopyIsNone();
    }

    /** Its bytes have the DIGESTS that are sought, but not its own. */
    private static void anUnfitCopyIsNone() {
        FixityRows x = new FixityRows(1);
        due("12: file", keep(x, 1, 0, 1, 2), 0);
        due("12: another", keep(x, 3, 0, 1, 2, 3), 1);
        due("12: becomes alike", x.cut(1, 2), 1);
        due("12: break", x.cut(0, 0), 2);
        due("12: alike but unfit", x.mend(0, 0), -10);
    }

    private static void promise13() {
        FixityRows x = new FixityRows(1);
        for (int what = 0; what < 4; what++) {
            due("13: no file", x.about(0, what), -1);
        }
        due("13: file", keep(x, 1, 50, 1, 2, 3), 0);
        due("13: copy", keep(x, 1, 50, 1, 2, 3), 1);
        int[] fresh = {3, -1, -1, 0};
        for (int what = 0; what < 4; what++) {
            due("13: fresh, what " + what, x.about(0, what), fresh[what]);
        }
        due("13: read", x.read(0, 60), 1);
        due("13: fitted", x.about(0, 1), 60);
        due("13: alter", x.alter(0, 0, 9), 1);
        due("13: read", x.read(0, 61), 0);
        due("13: a check that found a loss", x.about(0, 1), 60);
        due("13: mend", x.mend(0, 62), 1);
        due("13: mended", x.about(0, 3), 1);
        due("13: cut", x.cut(0, 2), 1);
        due("13: size", x.about(0, 0), 2);
        due("13: mend", x.mend(0, 63), 1);
        due("13: mended twice", x.about(0, 3), 2);
        due("13: mending is no check", x.about(0, 1), 60);
        due("13: a later check on an earlier day", x.read(0, 55), 1);
        due("13: the latest check", x.about(0, 1), 55);
        due("13: schedule", x.schedule(0, 70, 5), 1);
        due("13: due", x.due(71), 1);
        due("13: a day's check", x.about(0, 1), 71);
        due("13: due next", x.about(0, 2), 75);
        due("13: the other one", x.about(1, 1), -1);
        due("13: what 4", x.about(0, 4), -1);
        for (int n : WRONG_NUMBERS) {
            due("13: what " + n, x.about(0, n), -1);
            due("13: file " + n, x.about(n, 0), -1);
        }
        due("13: next file", x.about(2, 0), -1);
    }

    private static byte[] rowBytes(byte[] before, int what, int file, int day) {
        byte[] bytes = new byte[44];
        System.arraycopy(before, 0, bytes, 0, 32);
        System.arraycopy(ofWord(what), 0, bytes, 32, 4);
        System.arraycopy(ofWord(file), 0, bytes, 36, 4);
        System.arraycopy(ofWord(day), 0, bytes, 40, 4);
        return bytes;
    }

    private static int firstWord(byte[] digest) {
        return (digest[0] & 255) << 24 | (digest[1] & 255) << 16 | (digest[2] & 255) << 8 | digest[3] & 255;
    }

    private static void promise14() throws NoSuchAlgorithmException {
        FixityRows x = new FixityRows(1);
        due("14: none", x.row(0, 0), -1);
        due("14: file", keep(x, 1, 999999, 4), 0);
        due("14: file", keep(x, 1, 70000, 4), 1);
        due("14: read", x.read(1, 300), 1);
        due("14: cut", x.cut(1, 0), 1);
        due("14: read", x.read(1, 301), 0);
        due("14: mend", x.mend(1, 302), 0);
        int[][] want = {{0, 0, 999999}, {0, 1, 70000}, {1, 1, 300}, {2, 1, 301}, {3, 1, 302}};
        byte[] digest = new byte[32];
        for (int i = 0; i < want.length; i++) {
            for (int what = 0; what < 3; what++) {
                due("14: row " + i + " what " + what, x.row(i, what), want[i][what]);
            }
            digest = sha(rowBytes(digest, want[i][0], want[i][1], want[i][2]));
            due("14: digest of row " + i, x.row(i, 3), firstWord(digest));
            due("14: what 4", x.row(i, 4), -1);
            for (int n : WRONG_NUMBERS) {
                due("14: what " + n, x.row(i, n), -1);
            }
        }
        for (int what = -1; what < 5; what++) {
            due("14: beyond", x.row(5, what), -1);
        }
        for (int n : WRONG_NUMBERS) {
            due("14: row " + n, x.row(n, 0), -1);
        }
    }

    private static void promise15() throws NoSuchAlgorithmException {
        FixityRows x = new FixityRows(1);
        due("15: none", x.spoil(0, 1), -1);
        due("15: none", x.spoil(0, 0), -1);
        for (int i = 0; i < 4; i++) {
            due("15: file", keep(x, 1, 100 + i, i), i);
        }
        int second = x.row(1, 3);
        int third = x.row(2, 3);
        due("15: spoil", x.spoil(1, 6), 1);
        due("15: its day", x.row(1, 2), 101 ^ 6);
        due("15: its digest stays", x.row(1, 3), second);
        due("15: a wide mask", x.spoil(1, Integer.MIN_VALUE), 1);
        due("15: its day", x.row(1, 2), 101 ^ 6 ^ Integer.MIN_VALUE);
        due("15: gone", x.spoil(1, 0), 0);
        due("15: forward, file", x.row(1, 1), 2);
        due("15: forward, day", x.row(1, 2), 102);
        due("15: forward, digest", x.row(1, 3), third);
        due("15: forward, last", x.row(2, 1), 3);
        due("15: one less", x.row(3, 1), -1);
        due("15: beyond", x.spoil(3, 1), -1);
        due("15: beyond", x.spoil(3, 0), -1);
        for (int n : WRONG_NUMBERS) {
            due("15: row " + n, x.spoil(n, 1), -1);
            due("15: row " + n, x.spoil(n, 0), -1);
        }
        due("15: the files stay", x.read(1, 5), 1);
        due("15: last gone", x.spoil(3, 0), 0);
        due("15: first gone", x.spoil(0, 0), 0);
        due("15: first gone", x.spoil(0, 0), 0);
        due("15: first gone", x.spoil(0, 0), 0);
        due("15: empty", x.row(0, 0), -1);
        due("15: read into the empty chain", x.read(1, 6), 1);
        due("15: it is a first row", x.row(0, 3), firstWord(sha(rowBytes(new byte[32], 1, 1, 6))));
        rowsComeForwardWhole();
    }

    private static void rowsComeForwardWhole() {
        FixityRows x = new FixityRows(1);
        due("15: file", keep(x, 1, 20, 1), 0);
        due("15: copy", keep(x, 1, 21, 1), 1);
        due("15: fits", x.read(1, 22), 1);
        due("15: cut", x.cut(0, 0), 1);
        due("15: does not fit", x.read(0, 23), 0);
        due("15: mend", x.mend(0, 24), 1);
        int[][] want = {{0, 0, 20, x.row(0, 3)}, {1, 1, 22, x.row(2, 3)}, {2, 0, 23, x.row(3, 3)},
            {3, 0, 24, x.row(4, 3)}};
        due("15: gone", x.spoil(1, 0), 0);
        for (int i = 0; i < want.length; i++) {
            for (int what = 0; what < 4; what++) {
                due("15: row " + i + " what " + what, x.row(i, what), want[i][what]);
            }
        }
        due("15: no more", x.row(4, 0), -1);
    }

    private static void promise16() {
        FixityRows x = new FixityRows(1);
        due("16: empty", x.chain(), -1);
        for (int i = 0; i < 6; i++) {
            due("16: file", keep(x, 1, i, i), i);
        }
        due("16: whole", x.chain(), -1);
        due("16: looking changes nothing", x.chain(), -1);
        for (int i = 5; i >= 0; i--) {
            due("16: spoil", x.spoil(i, 1 << 31 - i), 1);
            due("16: the first is told", x.chain(), i);
        }
        for (int i = 0; i < 6; i++) {
            due("16: spoil back", x.spoil(i, 1 << 31 - i), 1);
            due("16: the next", x.chain(), i == 5 ? -1 : i + 1);
        }
        due("16: last gone", x.spoil(5, 0), 0);
        due("16: whole without it", x.chain(), -1);
        due("16: read", x.read(0, 9), 1);
        due("16: goes on behind the new last", x.chain(), -1);
        due("16: gone", x.spoil(2, 0), 0);
        due("16: broken there", x.chain(), 2);
        due("16: first gone", x.spoil(0, 0), 0);
        due("16: broken at the first", x.chain(), 0);
        FixityRows y = new FixityRows(1);
        due("16: file", y.file(1, 7), 0);
        due("16: spoil", y.spoil(0, 3), 1);
        due("16: behind a spoilt row", y.read(0, 8), 1);
        due("16: spoil back", y.spoil(0, 3), 1);
        due("16: the new row rests on the digest, not on the day", y.chain(), -1);
    }

    private static void chainHolds200Rows() {
        FixityRows x = withFiles(20, 1);
        for (int i = 1; i < 205; i++) {
            due("rows: read " + i, x.read(0, i), 1);
        }
        due("rows: last", x.row(199, 2), 199);
        due("rows: beyond is lost", x.row(200, 0), -1);
        due("rows: beyond is lost", x.spoil(200, 0), -1);
        due("rows: what was found stays", x.about(0, 1), 204);
        due("rows: whole", x.chain(), -1);
        due("rows: a file comes all the same", keep(x, 1, 0, 0), 1);
        due("rows: alter", x.alter(0, 0, 1), 0);
        due("rows: mended all the same", x.mend(0, 0), 1);
        due("rows: room for one", x.spoil(199, 0), 0);
        due("rows: read", x.read(0, 300), 1);
        due("rows: it has the place", x.row(199, 2), 300);
        due("rows: whole", x.chain(), -1);
        due("rows: last spoilt", x.spoil(199, 1), 1);
        due("rows: last is broken", x.chain(), 199);
    }
}
