import com.sun.management.ThreadMXBean;
import java.lang.management.ManagementFactory;

/** All calls of a run live in one room: the rows are made by the constructor, and no call makes anything. */
public final class RoomTest {
    private static final Check check = new Check();
    private static final ThreadMXBean threads = (ThreadMXBean) ManagementFactory.getThreadMXBean();

    public static void main(String[] args) {
        callAll(new HangingCards());
        HangingCards x = new HangingCards();
        long before = threads.getCurrentThreadAllocatedBytes();
        for (int round = 0; round < 8; round++) callAll(x);
        long used = threads.getCurrentThreadAllocatedBytes() - before;
        check.due("bytes of eight rounds, by 4096, were " + used + ", which", 0, used / 4096);
        before = threads.getCurrentThreadAllocatedBytes();
        HangingCards y = new HangingCards();
        used = threads.getCurrentThreadAllocatedBytes() - before;
        check.due("an object of " + used + " bytes, by 24000,", 0, used / 24000 + y.count(0));
        check.end("RoomTest");
    }

    private static void callAll(HangingCards x) {
        for (int card = 0; card < 5; card++) x.card(card, 2176782335L - 7 * card);
        x.write(7, 0x76302C332C353BL);
        x.fault();
        x.force();
        x.clash();
        for (int c = 0; c < 5; c++) {
            x.boxes(c, 0, 100);
            x.handle(c, 4);
            x.run(c, 0, 0);
            x.rule(c % 4, c, 7);
            x.why(c % 4, c, 7);
            x.hole(c, 0, 0);
            x.meant(c, 0, 1);
            x.vote(c, 0, 0, true);
            x.listed(0x6162630000000000L, -1);
            x.voter(0x6162640000000000L, -1, 0);
            x.like(c, c);
            x.struck(c, 1);
        }
        x.counted(5, 0, 0, 0, false);
        x.winner(0, 0, true);
        x.byRule(0, 1);
        x.mixed(0, 31, -1);
        x.mixed(0, 31, 1);
        x.turned(0, 5, 31);
        x.least(0, 0, 0);
        x.otherwise(5, 0, 0, 7);
        x.likeness(50);
        x.strikes(5, 0);
        x.strikes(5, 2);
        x.could(0, 1000, 1);
        x.hands(0, 1000);
        x.soonest(0, 1);
        x.table(0, 1000, 1, 999, 0);
        x.left(0, 1000, 1);
        x.keep();
        x.back();
        x.count(1);
    }
}
