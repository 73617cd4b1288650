/** Promise 8: an adjustment of a word; its two exceptions. */
public final class Promise08AdjustTest {
  /** Adjustment, word, base, flags before, answer, flags then. */
  private static final int[][] ROWS = {
    {0, 154, 0, 0, 0, 85}, {0, 153, 0, 0, 153, 132}, {0, 10, 0, 0, 16, 16}, {0, 9, 0, 0, 9, 4},
    {0, 2, 0, 16, 8, 16}, {0, 2, 0, 1, 98, 1}, {0, 0, 0, 17, 102, 21}, {0, 160, 0, 0, 0, 69},
    {0, 43776 + 250, 0, 2048 + 1792, 43776 + 96, 2048 + 1792 + 21}, {0, 255, 0, 0, 101, 21},
    {1, 0, 0, 17, 154, 149}, {1, 2, 0, 17, 156, 149}, {1, 2, 0, 16, 252, 149},
    {1, 5, 0, 16, 255, 149}, {1, 6, 0, 16, 0, 84}, {1, 5, 0, 0, 5, 4}, {1, 154, 0, 0, 52, 17},
    {1, 153, 0, 0, 153, 132}, {1, 10, 0, 0, 4, 16}, {1, 96, 0, 1, 0, 69},
    {1, 43776 + 10, 0, 3840, 43776 + 4, 3856},
    {2, 255, 0, 149, 261, 149}, {2, 9, 0, 0, 9, 0}, {2, 10, 0, 0, 256, 17}, {2, 3, 0, 16, 265, 17},
    {2, 3, 0, 1, 3, 0}, {2, 53, 0, 4036, 5, 4036}, {2, 65295, 0, 0, 5, 17}, {2, 250, 0, 0, 256, 17},
    {3, 0, 0, 149, 65290, 149}, {3, 10, 0, 0, 65284, 17}, {3, 521, 0, 0, 521, 0},
    {3, 521, 0, 16, 259, 17}, {3, 537, 0, 1, 521, 0}, {3, 522, 0, 0, 260, 17},
    {4, 99, 10, 17, 2313, 21}, {4, 255, 16, 2064, 3855, 2068}, {4, 4608 + 99, 266, 0, 2313, 4},
    {4, 200, 255, 0, 200, 128}, {4, 20, 10, 0, 512, 68}, {4, 255, 1, 0, 65280, 68},
    {5, 265, 10, 17, 19, 17}, {5, 265, 266, 0, 19, 0}, {5, 265, 256, 0, 9, 4},
    {5, 65535, 255, 2048, 0, 2116}, {5, 0, 0, 4053, 0, 3925}, {5, 2313, 10, 0, 99, 4},
    {5, 3333, 255, 0, 248, 128},
  };

  public static void main(String[] args) {
    Expect expect = new Expect("promise 8");
    for (int[] row : ROWS) {
      WordArithmetic x = Expect.withFlags(row[3]);
      expect.due(x.adjust(row[0], row[1], row[2]), row[4], "adjust", row[0], row[1], row[2]);
      expect.due(x.flags(), row[5], "flags", row[3], "flags after adjust", row[0], row[1], row[2]);
    }
    everyWord(expect);
    everyBase(expect);
    for (int adjustment = 0; adjustment < 6; adjustment++) {
      edges(expect, adjustment);
    }
    byNought(expect);
    wrongAdjustments(expect);
    expect.end();
  }

  private static void everyWord(Expect expect) {
    for (int adjustment = 0; adjustment < 4; adjustment++) {
      for (int word = 0; word < 65536; word += word < 512 || word > 65000 ? 1 : 11) {
        for (int flags = 0; flags < 4; flags++) {
          int some = flags % 2 + flags / 2 * 16;
          compare(expect, adjustment, word, 0, some);
          compare(expect, adjustment, word, 7, 4036 + some);
        }
      }
    }
  }

  private static void everyBase(Expect expect) {
    for (int base = 0; base < 256; base++) {
      for (int word = 0; word < 65536; word += word < 256 ? 1 : 61) {
        if (base > 0) {
          compare(expect, 4, word, base, 0);
          compare(expect, 4, word, base, Expect.ALL_FLAGS);
        }
        compare(expect, 5, word, base, 0);
        compare(expect, 5, word, base, Expect.ALL_FLAGS);
      }
    }
  }

  private static void edges(Expect expect, int adjustment) {
    for (int word : Expect.EDGES) {
      for (int base : Expect.EDGES) {
        if (adjustment != 4 || Math.floorMod(base, 256) != 0) {
          compare(expect, adjustment, word, base, 0);
          compare(expect, adjustment, word, base, Expect.ALL_FLAGS);
        }
      }
    }
  }

  private static void compare(Expect expect, int adjustment, int word, int base, int flags) {
    WordArithmetic x = Expect.withFlags(flags);
    Model model = new Model(false, flags);
    expect.due(x.adjust(adjustment, word, base), model.adjust(adjustment, word, base),
        "flags", flags, "adjust", adjustment, word, base);
    expect.due(x.flags(), model.flags(), "flags", flags, "flags after adjust", adjustment, word, base);
  }

  private static void byNought(Expect expect) {
    for (int base : new int[] {0, 256, -256, 65536, Integer.MIN_VALUE}) {
      for (int flags : new int[] {0, 17, Expect.ALL_FLAGS}) {
        WordArithmetic x = Expect.withFlags(flags);
        boolean thrown = false;
        try {
          x.adjust(4, 99, base);
        } catch (ArithmeticException e) {
          thrown = true;
        }
        expect.due(thrown, true, "adjust", 4, 99, base, "throws");
        expect.due(x.flags(), flags, "flags after adjust", 4, 99, base, "threw");
      }
    }
  }

  private static void wrongAdjustments(Expect expect) {
    for (int adjustment : new int[] {-1, 6, 7, 260, Integer.MIN_VALUE, Integer.MAX_VALUE}) {
      for (int base : new int[] {0, 10}) {
        WordArithmetic x = Expect.withFlags(1041);
        boolean thrown = false;
        try {
          x.adjust(adjustment, 99, base);
        } catch (IllegalArgumentException e) {
          thrown = true;
        }
        expect.due(thrown, true, "adjust", adjustment, 99, base, "throws");
        expect.due(x.flags(), 1041, "flags after adjust", adjustment, 99, base, "threw");
      }
    }
  }
}
