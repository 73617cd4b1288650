/** What the document says of runs of calls and of conditions; Terms, 9 and 10, and promise 10. */
public final class BoundsOfCallsTest {
  private static final boolean BYTE = false;
  private static final boolean WORD = true;
  private static final int MOST_CALLS = 512;
  private static final int CALLS_A_ROUND = 4;
  private static final int REFUSED = 8;
  private static final String[] NAMES = {"O", "C", "Z", "S", "P"};
  private static final int[] EVEN_ONES = {0, 2, 4, 8, 10};

  public static void main(String[] args) {
    Expect expect = new Expect("bounds of calls");
    oneFlag(new Sentence(expect, "each two opposite: OVERFLOW, CARRY, ZERO, SIGN, PARITY"));
    several(new Sentence(expect, "CARRY or ZERO; SIGN and OVERFLOW differ; that, or ZERO"));
    noCondition(new Sentence(expect, "IllegalArgumentException when there is none such"));
    objectsApart(expect);
    throwsBetween(expect);
    for (int run = 0; run < 300; run++) {
      mostCalls(expect, run);
    }
    expect.end();
  }

  private static void oneFlag(Sentence says) {
    for (int k = 0; k < NAMES.length; k++) {
      String others = Sentence.ALL.replace(NAMES[k], "");
      for (int odd = 0; odd < 2; odd++) {
        says.holds(NAMES[k], EVEN_ONES[k] + odd, odd == 0);
        says.holds(Sentence.ALL, EVEN_ONES[k] + odd, odd == 0);
        says.holds("", EVEN_ONES[k] + odd, odd == 1);
        says.holds(others, EVEN_ONES[k] + odd, odd == 1);
      }
    }
  }

  private static void several(Sentence says) {
    for (int odd = 0; odd < 2; odd++) {
      says.holds("", 6 + odd, odd == 1);
      says.holds("PHSTIDO", 6 + odd, odd == 1);
      says.holds("C", 6 + odd, odd == 0);
      says.holds("Z", 6 + odd, odd == 0);
      says.holds("CZ", 6 + odd, odd == 0);
      says.holds("", 12 + odd, odd == 1);
      says.holds("SO", 12 + odd, odd == 1);
      says.holds("CPHZTID", 12 + odd, odd == 1);
      says.holds("S", 12 + odd, odd == 0);
      says.holds("O", 12 + odd, odd == 0);
      says.holds("", 14 + odd, odd == 1);
      says.holds("SO", 14 + odd, odd == 1);
      says.holds("CPHTID", 14 + odd, odd == 1);
      says.holds("S", 14 + odd, odd == 0);
      says.holds("O", 14 + odd, odd == 0);
      says.holds("Z", 14 + odd, odd == 0);
      says.holds("ZSO", 14 + odd, odd == 0);
      says.holds("ZS", 14 + odd, odd == 0);
    }
  }

  private static void noCondition(Sentence says) {
    for (int none : new int[] {-1, 16, 256, Integer.MIN_VALUE, Integer.MAX_VALUE}) {
      says.refuses(IllegalArgumentException.class, "holds " + none, x -> x.holds(none));
    }
  }

  private static void objectsApart(Expect expect) {
    WordArithmetic first = new WordArithmetic();
    WordArithmetic second = new WordArithmetic();
    first.operate(0, BYTE, 255, 1);
    expect.due(second.flags(), 0, "A new object: no flag is set, whatever another's are");
    second.operate(0, BYTE, 127, 1);
    expect.due(first.flags(), Sentence.flags("CPHZ"), "each with its flags: the first's stay");
    expect.due(new WordArithmetic().operate(2, BYTE, 0, 0), 0, "no CARRY there was: operate 2");
    expect.due(new WordArithmetic().shift(3, WORD, 0, 1), 0, "no CARRY there was: shift 3");
    expect.due(new WordArithmetic().adjust(0, 5, 0), 5, "no HALF and no CARRY there were: adjust 0");
  }

  /** The CARRY and HALF of before the throwing calls still count after them. */
  private static void throwsBetween(Expect expect) {
    WordArithmetic x = Expect.withFlags(Sentence.flags("CH"));
    for (int way = 0; way < REFUSED; way++) {
      expect.due(refused(x, way), true, "A call that throws: way", way);
    }
    expect.due(x.adjust(1, 258, 0), 256 + 156, "changes nothing: adjust(1, 258, 0)");
    for (int way = 0; way < REFUSED; way++) {
      expect.due(refused(x, way), true, "A call that throws: way", way);
    }
    expect.due(x.operate(2, BYTE, 1, 1), 3, "changes nothing: operate(2, false, 1, 1)");
    expect.due(x.flags(), Sentence.flags("P"), "flags after operate(2, false, 1, 1)");
  }

  private static boolean refused(WordArithmetic x, int way) {
    try {
      switch (way) {
        case 0: x.operate(13, WORD, 65535, 65535); break;
        case 1: x.operate(-1, BYTE, 0, 0); break;
        case 2: x.shift(8, BYTE, 255, 3); break;
        case 3: x.shift(4, WORD, 255, 256); break;
        case 4: x.divide(BYTE, false, 256, 1); break;
        case 5: x.divide(WORD, true, 1, 0); break;
        case 6: x.adjust(4, 99, 0); break;
        default: x.adjust(6, 99, 0); break;
      }
    } catch (IllegalArgumentException e) {
      return way < 4 || way == 7;
    } catch (ArithmeticException e) {
      return way > 3 && way < 7;
    }
    return false;
  }

  /** Four calls a round up to the last that counts, on one object; each run another row of them. */
  private static void mostCalls(Expect expect, int run) {
    WordArithmetic x = new WordArithmetic();
    int flags = 0;
    long state = run;
    for (int round = 0; round < MOST_CALLS / CALLS_A_ROUND; round++) {
      state = state * 6364136223846793005L + 1442695040888963407L;
      Step step = Step.of((int) (state >>> 33));
      Model model = new Model(step.wide, flags);
      expect.due(refused(x, step.b % REFUSED), true, "run", run, "round", round, "refused");
      expect.due(step.on(x), step.on(model), "run", run, "round", round, step);
      flags = model.flags();
      expect.due(x.holds(step.b % 5 * 2), condition(model, step.b % 5), "run", run, "round", round);
      expect.due(x.flags(), flags, "run", run, "round", round, step, "flags");
    }
  }

  private static boolean condition(Model model, int which) {
    boolean[] conditions = {
      model.overflow, model.carry, model.zero, model.carry || model.zero, model.sign
    };
    return conditions[which];
  }

  /** A call that changes flags: kind 0 an operation, 1 a shift, 2 an adjustment. */
  private record Step(int kind, int which, boolean wide, int a, int b) {
    static Step of(int pick) {
      int kind = pick % 3;
      int rest = pick / 3;
      // An adjustment is of bytes.
      return new Step(kind, rest % 104, kind < 2 && rest / 104 % 2 == 0, rest / 208, rest / 1000);
    }

    int on(WordArithmetic x) {
      switch (kind) {
        case 0: return x.operate(which % 13, wide, a, b);
        case 1: return x.shift(which % 8, wide, a, b % 256);
        default: return x.adjust(which % 4, a, 0);
      }
    }

    int on(Model model) {
      switch (kind) {
        case 0: return model.operate(which % 13, a, b);
        case 1: return model.shift(which % 8, a, b % 256);
        default: return model.adjust(which % 4, a, 0);
      }
    }
  }
}
