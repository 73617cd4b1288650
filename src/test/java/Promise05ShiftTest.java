/** Promise 5: a shift of a, so many times; IllegalArgumentException for others, and other times. */
public final class Promise05ShiftTest {
  /** Shift, wide (1), a, times, flags before, answer, flags then. */
  private static final int[][] ROWS = {
    {0, 0, 129, 1, 0, 3, 2049}, {0, 0, 64, 1, 213, 128, 2260}, {0, 1, 32768, 1, 0, 1, 2049},
    {0, 0, 255, 8, 0, 255, 1}, {0, 0, 0, 1, 4053, 0, 2004},
    {1, 0, 1, 1, 0, 128, 2049}, {1, 1, 1, 16, 2245, 1, 196}, {1, 0, 3, 1, 0, 129, 2049},
    {1, 0, 255, 1, 0, 255, 1}, {1, 0, 128, 1, 0, 64, 2048},
    {2, 0, 128, 9, 1, 128, 1}, {2, 0, 128, 1, 0, 0, 2049}, {2, 0, 128, 1, 1, 1, 2049},
    {2, 1, 0, 1, 1, 1, 0}, {2, 0, 64, 1, 0, 128, 2048},
    {3, 1, 1, 1, 1, 32768, 2049}, {3, 0, 128, 1, 1, 192, 0}, {3, 0, 1, 1, 0, 0, 1},
    {3, 0, 1, 9, 0, 1, 0},
    {4, 1, 65535, 16, 0, 0, 2117}, {4, 1, 65535, 17, 0, 0, 68}, {4, 0, 64, 1, 0, 128, 2176},
    {4, 0, 192, 1, 16, 128, 145}, {6, 1, 65535, 16, 0, 0, 2117}, {6, 0, 192, 1, 16, 128, 145},
    {5, 0, 255, 255, 0, 0, 68}, {5, 0, 255, 1, 0, 127, 2049}, {5, 0, 255, 2, 0, 63, 5},
    {5, 1, 32768, 1, 16, 16384, 2068}, {5, 1, 1, 1, 0, 0, 69},
    {7, 0, 128, 3, 2049, 240, 132}, {7, 0, 255, 255, 2048, 255, 133}, {7, 0, 1, 1, 0, 0, 69},
    {7, 1, 32769, 1, 2064, 49152, 149},
  };

  public static void main(String[] args) {
    Expect expect = new Expect("promise 5");
    for (int[] row : ROWS) {
      WordArithmetic x = Expect.withFlags(row[4]);
      expect.due(x.shift(row[0], row[1] == 1, row[2], row[3]), row[5],
          "shift", row[0], row[1] == 1, row[2], row[3]);
      expect.due(x.flags(), row[6], "flags after shift", row[0], row[1] == 1, row[2], row[3]);
    }
    for (int shift = 0; shift < 8; shift++) {
      everyByte(expect, shift);
      edges(expect, shift);
      noTimes(expect, shift);
    }
    wrongCalls(expect);
    expect.end();
  }

  private static void everyByte(Expect expect, int shift) {
    for (int a = 0; a < 256; a++) {
      for (int times = 0; times < 20; times++) {
        compare(expect, shift, false, a, times, 0);
        compare(expect, shift, false, a, times, 1);
        compare(expect, shift, false, a, times, Expect.ALL_FLAGS);
        compare(expect, shift, false, a, times, Expect.ALL_FLAGS - 1);
      }
    }
  }

  private static void edges(Expect expect, int shift) {
    for (int a : Expect.EDGES) {
      for (int times = 0; times < 256; times += times < 35 || times > 250 ? 1 : 7) {
        for (int wide = 0; wide < 2; wide++) {
          compare(expect, shift, wide == 1, a, times, 1792);
          compare(expect, shift, wide == 1, a, times, 1);
        }
      }
      compare(expect, shift, true, a, 255, Expect.ALL_FLAGS);
      compare(expect, shift, false, a, 255, Expect.ALL_FLAGS);
    }
  }

  private static void noTimes(Expect expect, int shift) {
    for (int flags : new int[] {0, 1, 2048, Expect.ALL_FLAGS}) {
      WordArithmetic x = Expect.withFlags(flags);
      expect.due(x.shift(shift, true, 70196, 0), 4660, "shift", shift, true, 70196, 0);
      expect.due(x.shift(shift, false, 4660, 0), 52, "shift", shift, false, 4660, 0);
      expect.due(x.flags(), flags, "flags after shift", shift, "no times");
    }
  }

  private static void compare(Expect expect, int shift, boolean wide, int a, int times, int flags) {
    WordArithmetic x = Expect.withFlags(flags);
    Model model = new Model(wide, flags);
    expect.due(x.shift(shift, wide, a, times), model.shift(shift, a, times),
        "flags", flags, "shift", shift, wide, a, times);
    expect.due(x.flags(), model.flags(), "flags", flags, "flags after", shift, wide, a, times);
  }

  private static void wrongCalls(Expect expect) {
    for (int shift : new int[] {-1, 8, 9, 256, Integer.MIN_VALUE, Integer.MAX_VALUE}) {
      refused(expect, shift, 1);
      refused(expect, shift, 0);
      refused(expect, shift, 256);
    }
    for (int shift = 0; shift < 8; shift++) {
      for (int times : new int[] {-1, 256, 257, 65536, Integer.MIN_VALUE, Integer.MAX_VALUE}) {
        refused(expect, shift, times);
      }
    }
  }

  private static void refused(Expect expect, int shift, int times) {
    for (int flags : new int[] {0, Expect.ALL_FLAGS}) {
      WordArithmetic x = Expect.withFlags(flags);
      boolean thrown = false;
      try {
        x.shift(shift, false, 129, times);
      } catch (IllegalArgumentException e) {
        thrown = true;
      }
      expect.due(thrown, true, "shift", shift, "times", times, "throws");
      expect.due(x.flags(), flags, "flags after shift", shift, "times", times, "threw");
    }
  }
}
