/** Promise 4: an operation of a and b; IllegalArgumentException when there is none such. */
public final class Promise04OperateTest {
  /** Operation, wide (1), a, b, flags before, answer, flags then. */
  private static final int[][] ROWS = {
    {0, 0, 255, 1, 0, 0, 85}, {0, 0, 127, 1, 0, 128, 2192}, {0, 0, 128, 128, 0, 0, 2117},
    {0, 1, 255, 1, 0, 256, 20}, {0, 1, 65535, 1, 1792, 0, 1877}, {0, 0, 1, 2, 4053, 3, 1796},
    {1, 0, 240, 15, 4053, 255, 1924}, {1, 1, 0, 0, 17, 0, 68}, {1, 1, 32768, 1, 0, 32769, 128},
    {2, 1, 65535, 0, 1, 0, 85}, {2, 1, 65535, 0, 0, 65535, 132}, {2, 0, 127, 0, 1, 128, 2192},
    {2, 0, 255, 255, 1, 255, 149}, {2, 0, 15, 0, 1, 16, 16}, {2, 0, 128, 128, 1, 1, 2049},
    {3, 1, 0, 0, 1, 65535, 149}, {3, 1, 0, 0, 0, 0, 68}, {3, 0, 128, 127, 1, 0, 2132},
    {3, 0, 255, 255, 1, 255, 149}, {3, 0, 16, 0, 1, 15, 20},
    {4, 0, 240, 15, 4053, 0, 1860}, {4, 1, 65535, 255, 0, 255, 4},
    {5, 0, 128, 1, 0, 127, 2064}, {5, 0, 0, 1, 0, 255, 149}, {5, 0, 127, 255, 0, 128, 2177},
    {5, 1, 32768, 1, 1, 32767, 2068}, {5, 0, 3, 3, 1, 0, 68},
    {6, 0, 15, 9, 0, 6, 4}, {6, 1, 43690, 43690, 4053, 0, 1860},
    {7, 1, 5, 5, 0, 5, 68}, {7, 0, 128, 1, 0, 128, 2064}, {7, 0, 65537, 2, 0, 1, 149},
    {8, 1, 3, 5, 4053, 3, 1792}, {8, 0, 257, 2, 0, 1, 68},
    {9, 0, 255, 7, 0, 0, 84}, {9, 0, 255, 7, 1, 0, 85}, {9, 1, 32767, 0, 0, 32768, 2196},
    {10, 0, 0, 7, 0, 255, 148}, {10, 0, 0, 7, 1, 255, 149}, {10, 1, 32768, 0, 0, 32767, 2068},
    {11, 0, 128, 9, 0, 128, 2177}, {11, 0, 0, 9, 1, 0, 68}, {11, 1, 1, 9, 0, 65535, 149},
    {12, 1, 1, 9, 4053, 65534, 4053}, {12, 0, 0, 9, 0, 255, 0}, {12, 0, -1, 9, 21, 0, 21},
  };

  public static void main(String[] args) {
    Expect expect = new Expect("promise 4");
    for (int[] row : ROWS) {
      WordArithmetic x = Expect.withFlags(row[4]);
      expect.due(x.operate(row[0], row[1] == 1, row[2], row[3]), row[5],
          "operate", row[0], row[1] == 1, row[2], row[3]);
      expect.due(x.flags(), row[6], "flags after operate", row[0], row[1] == 1, row[2], row[3]);
    }
    for (int operation = 0; operation < 13; operation++) {
      everyByte(expect, operation);
      edges(expect, operation);
    }
    wrongOperations(expect);
    expect.end();
  }

  private static void everyByte(Expect expect, int operation) {
    for (int a = 0; a < 256; a++) {
      for (int b = 0; b < 256; b++) {
        compare(expect, operation, false, a, b, 0);
        compare(expect, operation, false, a, b, 1);
        compare(expect, operation, false, a, b, Expect.ALL_FLAGS);
        compare(expect, operation, false, a, b, Expect.ALL_FLAGS - 1);
      }
    }
  }

  private static void edges(Expect expect, int operation) {
    for (int a : Expect.EDGES) {
      for (int b : Expect.EDGES) {
        for (int wide = 0; wide < 2; wide++) {
          compare(expect, operation, wide == 1, a, b, 0);
          compare(expect, operation, wide == 1, a, b, 1);
          compare(expect, operation, wide == 1, a, b, Expect.ALL_FLAGS);
        }
      }
    }
  }

  private static void compare(Expect expect, int operation, boolean wide, int a, int b, int flags) {
    WordArithmetic x = Expect.withFlags(flags);
    Model model = new Model(wide, flags);
    expect.due(x.operate(operation, wide, a, b), model.operate(operation, a, b),
        "flags", flags, "operate", operation, wide, a, b);
    expect.due(x.flags(), model.flags(), "flags", flags, "flags after", operation, wide, a, b);
  }

  private static void wrongOperations(Expect expect) {
    for (int operation : new int[] {-1, 13, 14, 16, 256, Integer.MIN_VALUE, Integer.MAX_VALUE}) {
      for (int flags : new int[] {0, 1041, Expect.ALL_FLAGS}) {
        WordArithmetic x = Expect.withFlags(flags);
        boolean thrown = false;
        try {
          x.operate(operation, true, 65535, 1);
        } catch (IllegalArgumentException e) {
          thrown = true;
        }
        expect.due(thrown, true, "operate", operation, "throws");
        expect.due(x.flags(), flags, "flags after operate", operation, "threw");
      }
    }
  }
}
