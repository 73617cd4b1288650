/** Counts a test's checks, prints the wrong ones and ends the test by them. */
final class Expect {
  static final int ALL_FLAGS = 4053;
  /** Numbers round every edge of bytes and words, some with bits above those that count. */
  static final int[] EDGES = {
    0, 1, 2, 5, 6, 7, 8, 9, 10, 15, 16, 17, 99, 100, 126, 127, 128, 129, 153, 154, 200, 254, 255,
    256, 257, 265, 4095, 4096, 4660, 32639, 32640, 32766, 32767, 32768, 32769, 43981, 65279, 65280,
    65409, 65534, 65535, 65536, 65537, 1000000, 16777215, 1073741824, Integer.MAX_VALUE - 1,
    Integer.MAX_VALUE, Integer.MIN_VALUE, Integer.MIN_VALUE + 1, -65537, -65536, -32769, -32768,
    -32767, -257, -256, -129, -128, -127, -7, -2, -1
  };
  private static final int MOST_PRINTED = 20;

  private final String test;
  private long checked = 0;
  private long wrong = 0;

  Expect(String test) {
    this.test = test;
  }

  static WordArithmetic withFlags(int flags) {
    WordArithmetic made = new WordArithmetic();
    made.set(flags);
    return made;
  }

  /** The call is given in parts, so that millions of right answers join no text. */
  void due(long got, long want, Object... call) {
    checked++;
    if (got == want) {
      return;
    }
    wrong++;
    if (wrong <= MOST_PRINTED) {
      System.out.println(told(call) + ": answered " + got + ", due is " + want);
    }
  }

  void due(boolean got, boolean want, Object... call) {
    due(got ? 1 : 0, want ? 1 : 0, call);
  }

  void end() {
    System.out.println(test + ": " + checked + " checks, " + wrong + " wrong");
    if (wrong > 0 || checked == 0) {
      System.exit(1);
    }
  }

  private static String told(Object[] call) {
    StringBuilder text = new StringBuilder();
    for (Object part : call) {
      text.append(text.length() == 0 ? "" : " ").append(part);
    }
    return text.toString();
  }
}
