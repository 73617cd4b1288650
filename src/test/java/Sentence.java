/**
 * Checks of one sentence of the document, whose words it bears. Each call is on a new object with
 * the flags before, told by letters: C carry, P parity, H half, Z zero, S sign, T trap,
 * I interrupt, D direction, O overflow. The answers due are written out, not reckoned by Model.
 */
final class Sentence {
  static final String ALL = "CPHZSTIDO";
  private static final int[] BITS = {1, 4, 16, 64, 128, 256, 512, 1024, 2048};

  /** A call that is to throw. */
  interface Call {
    void on(WordArithmetic x);
  }

  private final Expect expect;
  private final String words;

  Sentence(Expect expect, String words) {
    this.expect = expect;
    this.words = words;
  }

  static int flags(String letters) {
    int flags = 0;
    for (char letter : letters.toCharArray()) {
      flags |= BITS[ALL.indexOf(letter)];
    }
    return flags;
  }

  private static WordArithmetic with(String before) {
    return Expect.withFlags(flags(before));
  }

  private void then(WordArithmetic x, String then, Object... call) {
    expect.due(x.flags(), flags(then), words, ": flags after", java.util.Arrays.toString(call));
  }

  void operate(String before, int operation, boolean wide, int a, int b, int answer, String then) {
    WordArithmetic x = with(before);
    expect.due(x.operate(operation, wide, a, b), answer, words, ": operate", operation, wide, a, b);
    then(x, then, before, "operate", operation, wide, a, b);
  }

  void shift(String before, int shift, boolean wide, int a, int times, int answer, String then) {
    WordArithmetic x = with(before);
    expect.due(x.shift(shift, wide, a, times), answer, words, ": shift", shift, wide, a, times);
    then(x, then, before, "shift", shift, wide, a, times);
  }

  void multiply(String before, boolean wide, boolean signed, int a, int b, int answer, String then) {
    WordArithmetic x = with(before);
    expect.due(x.multiply(wide, signed, a, b), answer, words, ": multiply", wide, signed, a, b);
    then(x, then, before, "multiply", wide, signed, a, b);
  }

  /** No flag changes by a quotient. */
  void divide(boolean wide, boolean signed, int a, int b, int rest, int quotient) {
    int size = wide ? 65536 : 256;
    WordArithmetic x = with("CHSD");
    expect.due(x.divide(wide, signed, a, b), rest * size + quotient,
        words, ": divide", wide, signed, a, b);
    then(x, "CHSD", "divide", wide, signed, a, b);
  }

  void adjust(String before, int adjustment, int word, int base, int answer, String then) {
    WordArithmetic x = with(before);
    expect.due(x.adjust(adjustment, word, base), answer, words, ": adjust", adjustment, word, base);
    then(x, then, before, "adjust", adjustment, word, base);
  }

  /** No flag changes by it. */
  void extend(boolean wide, int a, int answer) {
    WordArithmetic x = with("CHSD");
    expect.due(x.extend(wide, a), answer, words, ": extend", wide, a);
    then(x, "CHSD", "extend", wide, a);
  }

  /** No flag changes by it. */
  void holds(String flags, int condition, boolean answer) {
    WordArithmetic x = with(flags);
    expect.due(x.holds(condition), answer, words, ": holds", flags, condition);
    then(x, flags, "holds", condition);
  }

  /** The very exception, and no flag another then, whichever were set. */
  void refuses(Class<? extends RuntimeException> exception, String told, Call call) {
    for (String before : new String[] {"", ALL, "C", "PHZSTIDO", "HO"}) {
      WordArithmetic x = with(before);
      Object thrown = null;
      try {
        call.on(x);
      } catch (RuntimeException e) {
        thrown = e.getClass();
      }
      expect.due(thrown == exception, true, words, ":", told, "with", before, "throws", thrown);
      then(x, before, told, "threw");
    }
  }
}
