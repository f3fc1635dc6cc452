import java.util.NoSuchElementException;

/** Promises 1 to 3, and of 13 what is counted on the tape. */
public final class TapeTest {
    private static final Check CHECK = new Check("TapeTest");

    public static void main(String[] args) {
        newObject();
        bytesOfFeed();
        fullTape();
        endOfTape();
        CHECK.exit();
    }

    private static void newObject() {
        CHECK.anew();
        CellWorks x = CHECK.works();
        CHECK.same("NONE", CellWorks.NONE, -1);
        for (int what = 0; what <= 4; what++) {
            CHECK.same("count(" + what + ") of a new object", x.count(what), 0);
        }
        CHECK.same("fault() of a new object", x.fault(), 0);
        CHECK.same("buildAll() of a new object", x.buildAll(), 0);
        CHECK.isThrown("built(0, 0) of a new object", IndexOutOfBoundsException.class, () -> x.built(0, 0));
        CHECK.isThrown("value() of a new object", NoSuchElementException.class, x::value);
        CHECK.same("define() of a new object", x.define(), 0);
        CHECK.same("fault() of an empty tape", x.fault(), 2);
        CellWorks other = new CellWorks();
        CHECK.same("fault() of another object", other.fault(), 0);
    }

    private static void bytesOfFeed() {
        CHECK.anew();
        CellWorks x = CHECK.works();
        // "Abcdefg1=12345678*10" in five numbers, the highest byte of each first.
        CHECK.same("feed", x.feed(0x41626364, 0x65666731, 0x3d313233, 0x34353637, 0x382a3130), 20);
        CHECK.same("define() of what was fed", x.define(), -1);
        CHECK.same("buildAll()", x.buildAll(), 1);
        CHECK.worked("Abcdefg1");
        CHECK.has("Abcdefg1", 1, 123456780);
        x.end(0);
        CHECK.same("first feed", x.feed(0x61202020, 0x20202020, 0x20202020, 0x20202020, 0x2020203d), 20);
        CHECK.same("second feed", x.feed(0x31202020, 0x20202020, 0x20202020, 0x20202020, 0x20202032), 40);
        CHECK.same("define() over two feeds", x.define(), 39);
        CHECK.same("count(2) behind define()", x.count(2), 0);
        // Bytes of 128 and more are no letters, whatever their sign.
        CHECK.same("feed of high bytes", x.feed(0xe1ffffff, -1, -1, -1, -1), 20);
        CHECK.same("define() of high bytes", x.define(), 0);
        CHECK.same("fault() of high bytes", x.fault(), 1);
    }

    private static void fullTape() {
        CHECK.anew();
        CellWorks x = CHECK.works();
        for (int n = 1; n <= 100; n++) {
            CHECK.same("feed number " + n, x.feed(0x20202020, 0x20202020, 0x20202020, 0x20202020, 0x20202061), 20 * n);
        }
        CHECK.isThrown("feed number 101", UnsupportedOperationException.class, () -> x.feed(0, 0, 0, 0, 0));
        CHECK.same("count(2) of the full tape", x.count(2), 2000);
        x.end(1981);
        CHECK.isThrown("feed over 1981 bytes", UnsupportedOperationException.class, () -> x.feed(0, 0, 0, 0, 0));
        CHECK.same("count(2) after the feed that threw", x.count(2), 1981);
        x.end(1980);
        CHECK.same("feed over 1980 bytes", x.feed(0x20202020, 0x20202020, 0x20202020, 0x20202020, 0x20202062), 2000);
        CHECK.same("define() of the full tape", x.define(), 39);
        CHECK.same("fault() of the full tape", x.fault(), 2);
        for (int n = 1; n <= 100; n++) {
            x.feed(0x20202020, 0x20202020, 0x20202020, 0x20202020, n == 100 ? 0x20613d37 : 0x20202020);
        }
        CHECK.same("define() at the end of the full tape", x.define(), -1);
        CHECK.has("a", 4, 0);
    }

    private static void endOfTape() {
        CHECK.anew();
        CellWorks x = CHECK.works();
        CHECK.isThrown("end(1) of an empty tape", IllegalArgumentException.class, () -> end(x, 1));
        CHECK.isThrown("end(-1) of an empty tape", IllegalArgumentException.class, () -> end(x, -1));
        CHECK.same("end(0) of an empty tape", end(x, 0), 0);
        CHECK.tape("a=12345");
        CHECK.isThrown("end(8)", IllegalArgumentException.class, () -> end(x, 8));
        CHECK.isThrown("end(-1)", IllegalArgumentException.class, () -> end(x, -1));
        CHECK.isThrown("end(least)", IllegalArgumentException.class, () -> end(x, Integer.MIN_VALUE));
        CHECK.isThrown("end(most)", IllegalArgumentException.class, () -> end(x, Integer.MAX_VALUE));
        CHECK.same("end(7)", end(x, 7), 7);
        CHECK.same("end(4)", end(x, 4), 4);
        CHECK.isThrown("end(5) after end(4)", IllegalArgumentException.class, () -> end(x, 5));
        CHECK.same("define()", x.define(), -1);
        CHECK.builds("a", 1);
        CHECK.has("a", 1, 12);
    }

    private static long end(CellWorks x, int n) {
        x.end(n);
        return x.count(2);
    }
}
