import java.util.Random;

/**
 * No call throws, whatever it is given; 512 of the dearest calls end soon; and calls make nothing new,
 * so that the room of a run is what its objects were made with: 512 of them have room, too.
 */
public final class RoomTest {
    private static final String DEAREST =
        "9[9[9[a]9[b]9[c]9[d]9[e]9[f]9[a]9[b]9[c]9[d]9[e]9[f]9[a]9[b]9[c]9[d]9[e]9[f]]]";

    private static final Due due = new Due();

    public static void main(String[] args) {
        anyBytes();
        dearestCalls();
        newObjects();
        due.end("RoomTest");
    }

    private static void anyBytes() {
        Random random = new Random(3);
        String signs = "aabbcdef..((||))1239[[]]]] ";
        for (int i = 0; i < 20000; i++) {
            CacheBounds x = new CacheBounds();
            PlainModel model = new PlainModel();
            int length = random.nextInt(random.nextInt(81) + 1);
            for (int k = 0; k < length; k++) {
                int c = random.nextInt(60) == 0 ? random.nextInt(128) : signs.charAt(random.nextInt(signs.length()));
                x.type(c);
                model.text += (char) c;
            }
            due.is("reads() of '" + model.text + "'", x.reads(), model.reads());
            due.is("many() of '" + model.text + "'", x.many(), model.many());
            due.is("upper() of '" + model.text + "'", x.upper(), model.upper());
        }
    }

    private static void dearestCalls() {
        CacheBounds x = new CacheBounds();
        due.is("looks of the dearest", Due.read(x, DEAREST), 18);
        x.ways(3);
        long made = bytesMade();
        long sum = 0;
        for (int i = 0; i < 60; i++) {
            sum += x.worstBy(1, 0) + x.worst() + x.best() + x.ends() + x.upper() + x.lower() + x.many();
            sum += x.runs(1048575 - i) + x.draws(i, 20) + x.of(3, 4) + x.sure(3) + x.behind(1, 2) + x.undo();
            sum += x.reads() + x.look(i % 6) + x.digest() % 2;
        }
        made = bytesMade() - made;
        due.holds("it was done: " + sum, sum != 0);
        due.holds("calls make next to nothing, but " + made + " bytes", made < 100000);
    }

    /** Nearly all that an object is made of are ints, of four bytes each. */
    private static void newObjects() {
        int objects = 512;
        CacheBounds last = null;
        long made = bytesMade();
        for (int i = 0; i < objects; i++) {
            last = new CacheBounds();
        }
        long elements = (bytesMade() - made) / 4;
        due.is("a new one", last.count(4), 2);
        due.holds("512 new objects have room, but take " + elements, elements < 7300000);
    }

    private static long bytesMade() {
        com.sun.management.ThreadMXBean threads =
                (com.sun.management.ThreadMXBean) java.lang.management.ManagementFactory.getThreadMXBean();
        return threads.getThreadAllocatedBytes(Thread.currentThread().getId());
    }
}
