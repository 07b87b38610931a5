import java.security.MessageDigest;
import java.security.NoSuchAlgorithmException;
import java.util.ArrayList;
import java.util.Arrays;
import java.util.List;
import java.util.Random;
import java.util.zip.CRC32;

/**
 * Long runs of calls with ordinary, edge and wild arguments, each answer compared with that of a
 * model which is written with the Java library and takes the document's words one by one.
 */
public final class ModelTest {
    private static final int RUNS = 600;
    private static final int CALLS = 512;
    private static final int THROWN = Integer.MIN_VALUE + 12345;
    private static final String[] NAMES = {"octet", "digest", "at", "file", "alter", "cut", "read", "schedule", "due",
        "told", "mend", "about", "row", "spoil", "chain"};
    private static final int[] WILD = {Integer.MIN_VALUE, Integer.MIN_VALUE + 1, -1000001, -257, -2, -1, 4, 5, 20, 21,
        199, 200, 201, 255, 256, 1000, 1001, 1000000, 1000001, Integer.MAX_VALUE - 1, Integer.MAX_VALUE};

    private static int wrong = 0;

    public static void main(String[] args) {
        long[] asked = new long[NAMES.length];
        for (int run = 0; run < RUNS && wrong < 20; run++) {
            play(run, new Random(run), asked);
        }
        System.out.println(Arrays.stream(asked).sum() + " answers, " + wrong + " of them wrong");
        if (wrong != 0) {
            System.exit(1);
        }
    }

    private static void play(int run, Random random, long[] asked) {
        int capacity = random.nextInt(4) == 0 ? wild(random) : random.nextInt(5);
        FixityRows x = new FixityRows(capacity);
        Model model = new Model(capacity);
        int[] weights = weights(random);
        int[] day = {0};
        for (int n = 0; n < CALLS; n++) {
            int call = choose(random, weights);
            int[] a = arguments(random, call, day);
            int got;
            try {
                got = answer(x, call, a);
            } catch (RuntimeException e) {
                got = call == 2 && e.getClass() == ArrayIndexOutOfBoundsException.class ? THROWN : THROWN + 1;
            }
            int want = model.answer(call, a);
            asked[call]++;
            if (got != want) {
                wrong++;
                System.out.println("run " + run + ", call " + n + ": " + NAMES[call] + Arrays.toString(a) + " answered "
                    + got + ", due is " + want);
                return;
            }
        }
    }

    /** Some runs are rich in one kind of calls, so that files, rows and bytes run full in some of them. */
    private static int[] weights(Random random) {
        int[] weights = {30, 2, 4, 4, 3, 2, 6, 6, 8, 4, 6, 6, 5, 2, 3};
        int rich = random.nextInt(weights.length * 2);
        if (rich < weights.length) {
            weights[rich] += 60;
        }
        if (random.nextInt(3) == 0) {
            weights[0] = 3;
        }
        return weights;
    }

    private static int choose(Random random, int[] weights) {
        int left = random.nextInt(Arrays.stream(weights).sum());
        for (int i = 0; i < weights.length; i++) {
            left -= weights[i];
            if (left < 0) {
                return i;
            }
        }
        return 0;
    }

    private static int wild(Random random) {
        return random.nextInt(4) == 0 ? random.nextInt() : WILD[random.nextInt(WILD.length)];
    }

    private static int[] arguments(Random random, int call, int[] day) {
        int file = random.nextInt(random.nextBoolean() ? 4 : 21);
        int today = day[0] + random.nextInt(3) - (random.nextInt(6) == 0 ? 1 : 0);
        int[] a;
        switch (call) {
            case 0: a = new int[] {random.nextInt(3)}; break;
            case 1: a = new int[] {random.nextInt(2)}; break;
            case 2: a = new int[] {random.nextInt(34) - 1}; break;
            case 3: a = new int[] {1 + random.nextInt(3), today}; break;
            case 4: a = new int[] {file, random.nextInt(8), random.nextInt(4)}; break;
            case 5: a = new int[] {file, random.nextInt(10)}; break;
            case 6: case 10: a = new int[] {file, today}; break;
            case 7: a = new int[] {file, today + random.nextInt(10), 1 + random.nextInt(12)}; break;
            case 8:
                day[0] += random.nextInt(20) == 0 ? random.nextInt(50000) : random.nextInt(4);
                a = new int[] {day[0]};
                break;
            case 9: a = new int[] {random.nextInt(5), random.nextInt(2)}; break;
            case 11: a = new int[] {file, random.nextInt(4)}; break;
            case 12: a = new int[] {random.nextInt(random.nextBoolean() ? 20 : 202), random.nextInt(4)}; break;
            case 13: a = new int[] {random.nextInt(random.nextBoolean() ? 20 : 202), random.nextInt(3)}; break;
            default: a = new int[0]; break;
        }
        if (a.length > 0 && random.nextInt(25) == 0) {
            a[random.nextInt(a.length)] = wild(random);
        }
        return a;
    }

    private static int answer(FixityRows x, int call, int[] a) {
        switch (call) {
            case 0: x.octet(a[0]); return 0;
            case 1: return x.digest(a[0]);
            case 2: return x.at(a[0]);
            case 3: return x.file(a[0], a[1]);
            case 4: return x.alter(a[0], a[1], a[2]);
            case 5: return x.cut(a[0], a[1]);
            case 6: return x.read(a[0], a[1]);
            case 7: return x.schedule(a[0], a[1], a[2]);
            case 8: return x.due(a[0]);
            case 9: return x.told(a[0], a[1]);
            case 10: return x.mend(a[0], a[1]);
            case 11: return x.about(a[0], a[1]);
            case 12: return x.row(a[0], a[1]);
            case 13: return x.spoil(a[0], a[1]);
            default: return x.chain();
        }
    }

    private static final class Kept {
        byte[] bytes;
        byte[] sha;
        byte[] crc;
        int fitted = -1;
        int next = -1;
        int span;
        int mended;

        boolean hasDigestsOf(Kept other) {
            return (other.sha == null || Arrays.equals(sha(bytes), other.sha))
                && (other.crc == null || Arrays.equals(crc(bytes), other.crc));
        }
    }

    private static final class Row {
        int[] numbers;
        byte[] digest;
    }

    private static final class Model {
        private final int capacity;
        private byte[] collected = new byte[0];
        private byte[] latest = new byte[0];
        private final List<Kept> files = new ArrayList<>();
        private final List<Row> rows = new ArrayList<>();
        private List<int[]> checks = new ArrayList<>();
        private int worked = 0;

        Model(int capacity) {
            this.capacity = capacity < 1 ? 1 : capacity > 20 ? 20 : capacity;
        }

        int answer(int call, int[] a) {
            switch (call) {
                case 0:
                    if (collected.length < 200) {
                        collected = Arrays.copyOf(collected, collected.length + 1);
                        collected[collected.length - 1] = (byte) a[0];
                    }
                    return 0;
                case 1:
                    if (a[0] != 0 && a[0] != 1) {
                        return -2;
                    }
                    latest = a[0] == 0 ? sha(collected) : crc(collected);
                    return latest.length;
                case 2: return a[0] >= 0 && a[0] < latest.length ? latest[a[0]] & 255 : THROWN;
                case 3: return keep(a[0], a[1]);
                case 8: return work(a[0]);
                case 9:
                    return a[0] < 0 || a[0] >= checks.size() || a[1] < 0 || a[1] > 1 ? -1 : checks.get(a[0])[a[1]];
                case 12: case 13: return ofRow(call, a);
                case 14: return broken();
                default: return a[0] < 0 || a[0] >= files.size() ? -1 : ofFile(call, files.get(a[0]), a);
            }
        }

        private int keep(int algorithms, int day) {
            if (algorithms < 1 || algorithms > 3 || wrongDay(day)) {
                return -2;
            }
            if (files.size() == 20) {
                return -4;
            }
            Kept kept = new Kept();
            kept.bytes = collected;
            kept.sha = algorithms != 2 ? sha(collected) : null;
            kept.crc = algorithms != 1 ? crc(collected) : null;
            collected = new byte[0];
            files.add(kept);
            add(0, files.size() - 1, day);
            return files.size() - 1;
        }

        private int ofFile(int call, Kept kept, int[] a) {
            switch (call) {
                case 4:
                    if (a[1] < 0 || a[1] >= kept.bytes.length) {
                        return -1;
                    }
                    int before = kept.bytes[a[1]] & 255;
                    kept.bytes[a[1]] = (byte) a[2];
                    return before;
                case 5:
                    if (a[1] < 0 || a[1] > kept.bytes.length) {
                        return -2;
                    }
                    int lost = kept.bytes.length - a[1];
                    kept.bytes = Arrays.copyOf(kept.bytes, a[1]);
                    return lost;
                case 6: return wrongDay(a[1]) ? -2 : check(a[0], a[1]);
                case 7:
                    if (wrongDay(a[1]) || a[2] < 1 || a[2] > 1000) {
                        return -2;
                    }
                    kept.next = a[1];
                    kept.span = a[2];
                    return 1;
                case 10: return mended(kept, a);
                default:
                    int[] told = {kept.bytes.length, kept.fitted, kept.next, kept.mended};
                    return a[1] < 0 || a[1] > 3 ? -1 : told[a[1]];
            }
        }

        private int mended(Kept kept, int[] a) {
            if (wrongDay(a[1])) {
                return -2;
            }
            if (kept.hasDigestsOf(kept)) {
                return -3;
            }
            for (Kept other : files) {
                if (other != kept && other.hasDigestsOf(other) && other.hasDigestsOf(kept)) {
                    kept.bytes = other.bytes.clone();
                    kept.mended++;
                    add(3, a[0], a[1]);
                    return files.indexOf(other);
                }
            }
            return -10;
        }

        private int work(int day) {
            if (wrongDay(day)) {
                return -2;
            }
            if (day < worked) {
                return -3;
            }
            worked = day;
            List<Integer> waiting = new ArrayList<>();
            for (int i = 0; i < files.size(); i++) {
                if (files.get(i).next >= 0 && files.get(i).next <= day) {
                    waiting.add(i);
                }
            }
            waiting.sort((i, k) -> files.get(i).next != files.get(k).next
                ? Integer.compare(files.get(i).next, files.get(k).next) : Integer.compare(i, k));
            checks = new ArrayList<>();
            for (int i = 0; i < capacity && i < waiting.size(); i++) {
                Kept kept = files.get(waiting.get(i));
                checks.add(new int[] {waiting.get(i), check(waiting.get(i), day)});
                while (kept.next <= day) {
                    kept.next += kept.span;
                }
            }
            int left = waiting.size() - checks.size();
            return left > 0 ? -10 - left : checks.size();
        }

        private int check(int file, int day) {
            Kept kept = files.get(file);
            boolean fits = kept.hasDigestsOf(kept);
            kept.fitted = fits ? day : kept.fitted;
            add(fits ? 1 : 2, file, day);
            return fits ? 1 : 0;
        }

        private void add(int what, int file, int day) {
            if (rows.size() < 200) {
                Row row = new Row();
                row.numbers = new int[] {what, file, day};
                row.digest = sealOf(rows.size() - 1, row.numbers);
                rows.add(row);
            }
        }

        private byte[] sealOf(int before, int[] numbers) {
            byte[] bytes = before < 0 ? new byte[44] : Arrays.copyOf(rows.get(before).digest, 44);
            for (int k = 0; k < 12; k++) {
                bytes[32 + k] = (byte) (numbers[k / 4] >> 24 - 8 * (k % 4));
            }
            return sha(bytes);
        }

        private int ofRow(int call, int[] a) {
            if (a[0] < 0 || a[0] >= rows.size()) {
                return -1;
            }
            Row row = rows.get(a[0]);
            if (call == 12) {
                byte[] d = row.digest;
                return a[1] == 3 ? (d[0] & 255) << 24 | (d[1] & 255) << 16 | (d[2] & 255) << 8 | d[3] & 255
                    : a[1] < 0 || a[1] > 3 ? -1 : row.numbers[a[1]];
            }
            if (a[1] == 0) {
                rows.remove(a[0]);
                return 0;
            }
            row.numbers[2] ^= a[1];
            return 1;
        }

        private int broken() {
            for (int i = 0; i < rows.size(); i++) {
                if (!Arrays.equals(sealOf(i - 1, rows.get(i).numbers), rows.get(i).digest)) {
                    return i;
                }
            }
            return -1;
        }
    }

    private static boolean wrongDay(int day) {
        return day < 0 || day > 1000000;
    }

    private static byte[] sha(byte[] bytes) {
        try {
            return MessageDigest.getInstance("SHA-256").digest(bytes);
        } catch (NoSuchAlgorithmException e) {
            throw new IllegalStateException(e);
        }
    }

    private static byte[] crc(byte[] bytes) {
        CRC32 crc = new CRC32();
        crc.update(bytes);
        int word = (int) crc.getValue();
        return new byte[] {(byte) (word >>> 24), (byte) (word >>> 16), (byte) (word >>> 8), (byte) word};
    }
}
