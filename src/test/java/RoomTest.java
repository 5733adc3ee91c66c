import java.lang.management.ManagementFactory;

/** What an object and its calls take: rows are made in the constructor, and no call makes anything. */
public final class RoomTest {
    private static final int MOST_BYTES_MADE = 20000;

    public static void main(String[] args) {
        Due due = new Due("RoomTest");
        com.sun.management.ThreadMXBean bean = (com.sun.management.ThreadMXBean) ManagementFactory.getThreadMXBean();
        long id = Thread.currentThread().getId();
        use(new InkHours());
        long begin = bean.getThreadAllocatedBytes(id);
        InkHours x = new InkHours();
        long made = bean.getThreadAllocatedBytes(id);
        use(x);
        long used = bean.getThreadAllocatedBytes(id);
        due.is("an object takes " + (made - begin) + " bytes", made - begin <= MOST_BYTES_MADE ? 1 : 0, 1);
        due.is("its calls take " + (used - made) + " bytes", used - made <= 2000 ? 1 : 0, 1);
        due.end();
    }

    private static void use(InkHours x) {
        byte[] text = {'o', 'n', ' ', '0', ' ', 'a', ' ', 'o', 'r', ' ', 'b', ';', 'o', 'n', '1', 'c'};
        for (int turn = 0; turn < 10; turn++) {
            for (int i = 0; i < text.length; i++) x.feed(text[i], 1);
            x.text();
            x.image();
            x.fewest(0, 1, 100);
            x.lasting(0, 0, 100);
            x.cheapest(0, 0, 1, 200);
            x.forged(0);
            x.forge(0, 0);
            x.until(0);
            x.often(0, 5);
            x.changes(0, 0, 9999);
            x.sheet(turn % 4, 8, 40);
            x.judge(turn % 4, 0, 0);
            x.load(turn % 4, 2, 0);
            x.copy(0, 0, turn % 4, 1, 2);
            x.undo();
            x.hours(3);
            x.clerk(0, 12, 1);
            x.count(3);
            x.status(-1);
        }
    }
}
