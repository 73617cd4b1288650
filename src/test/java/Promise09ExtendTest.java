/** Promise 9: a signed operand as one twice as long; no flag changes. */
public final class Promise09ExtendTest {
  /** Wide (1), a, answer. */
  private static final int[][] ROWS = {
    {0, 200, 65480}, {0, 0, 0}, {0, 127, 127}, {0, 128, 65408}, {0, 255, 65535}, {0, 256, 0},
    {0, 383, 127}, {0, 384, 65408}, {0, -1, 65535}, {0, Integer.MIN_VALUE, 0},
    {1, 65535, -1}, {1, 0, 0}, {1, 200, 200}, {1, 32767, 32767}, {1, 32768, -32768},
    {1, 65536, 0}, {1, 98304, -32768}, {1, -1, -1}, {1, Integer.MAX_VALUE, -1},
    {1, Integer.MIN_VALUE, 0},
  };

  public static void main(String[] args) {
    Expect expect = new Expect("promise 9");
    for (int[] row : ROWS) {
      check(expect, row[0] == 1, row[1], row[2]);
    }
    for (int a = -70000; a < 70000; a++) {
      check(expect, false, a, Math.floorMod(new Model(false, 0).signed(a), 65536));
      check(expect, true, a, new Model(true, 0).signed(a));
    }
    expect.end();
  }

  private static void check(Expect expect, boolean wide, int a, int answer) {
    for (int flags : new int[] {0, Expect.ALL_FLAGS}) {
      WordArithmetic x = Expect.withFlags(flags);
      expect.due(x.extend(wide, a), answer, "extend", wide, a);
      expect.due(x.flags(), flags, "flags after extend", wide, a);
    }
  }
}
