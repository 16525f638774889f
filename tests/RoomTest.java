import com.sun.management.ThreadMXBean;
import java.lang.management.ManagementFactory;
import java.util.Random;

/** What 512 calls of one object make stays far below the room that a run has. */
public final class RoomTest {
  private static final int CALLS = 512;
  private static final int LATER_CALLS = 4;
  // A run has room for 7.3 million fields and elements, of at most 8 bytes; a tenth is plenty.
  private static final long MOST_BYTES = 730_000L * 8;

  public static void main(String[] args) {
    Due due = new Due();
    Random random = new Random(512);
    ThreadMXBean threads = (ThreadMXBean) ManagementFactory.getThreadMXBean();
    long before = threads.getCurrentThreadAllocatedBytes();
    StageCube cube = new StageCube();
    for (int call = 0; call < CALLS - LATER_CALLS; call++) {
      if (call % 4 == 3) {
        cube.solve();
      } else {
        cube.turn(random.nextInt(18));
      }
    }
    long first = threads.getCurrentThreadAllocatedBytes() - before;
    due.is("bytes made by the first calls, " + first + ", are few", first < MOST_BYTES ? 1 : 0, 1);
    cube.flips();
    before = threads.getCurrentThreadAllocatedBytes();
    cube.solve();
    cube.flips();
    cube.home();
    long later = threads.getCurrentThreadAllocatedBytes() - before;
    due.is("bytes made by later calls, " + later + ", are none", later < 1024 ? 1 : 0, 1);
    due.end();
  }
}
