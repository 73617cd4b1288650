/** The bounds that the document names of adjustments: Terms, 8, and promise 8. */
public final class BoundsOfAdjustmentsTest {
  public static void main(String[] args) {
    Expect expect = new Expect("bounds of adjustments");
    sixMore(new Sentence(expect, "0: 6 more when its lowest four bits are above 9, or HALF was set"));
    ninetySixMore(new Sentence(expect, "0: 96 more when it was above 153, or CARRY was set"));
    sixLess(new Sentence(expect, "1: likewise 6 less"));
    ninetySixLess(new Sentence(expect, "1: likewise 96 less"));
    below(new Sentence(expect, "CARRY is set also when taking 6 off went below 0"));
    upperStays(new Sentence(expect, "0 and 1: l alone changes; by l"));
    digitMore(new Sentence(expect, "2: l 6 more, h 1 more, HALF and CARRY set; otherwise both not"));
    digitLess(new Sentence(expect, "3: likewise 6 less and 1 less"));
    parted(new Sentence(expect, "4: h is l / base cut off, l what is left; by l"));
    joined(new Sentence(expect, "5: l is h * base + l, h 0; by l"));
    noBase(new Sentence(expect, "base: its lowest eight bits; 0 to 3 go without it"));
    refused(new Sentence(expect, "ArithmeticException when base is 0; none such"));
    expect.end();
  }

  private static void sixMore(Sentence says) {
    says.adjust("", 0, 0, 0, 0, "PZ");
    says.adjust("", 0, 9, 0, 9, "P");
    says.adjust("", 0, 10, 0, 16, "H");
    says.adjust("", 0, 15, 0, 21, "H");
    says.adjust("", 0, 16, 0, 16, "");
    says.adjust("H", 0, 0, 0, 6, "PH");
    says.adjust("H", 0, 9, 0, 15, "PH");
    says.adjust("H", 0, 10, 0, 16, "H");
  }

  private static void ninetySixMore(Sentence says) {
    says.adjust("", 0, 153, 0, 153, "PS");
    says.adjust("", 0, 154, 0, 0, "CPHZ");
    says.adjust("", 0, 160, 0, 0, "CPZ");
    says.adjust("", 0, 144, 0, 144, "PS");
    says.adjust("H", 0, 153, 0, 159, "PHS");
    // Above 153 counts of what l was, not of what the 6 made of it.
    says.adjust("", 0, 143, 0, 149, "PHS");
    says.adjust("H", 0, 148, 0, 154, "PHS");
    says.adjust("C", 0, 0, 0, 96, "CP");
    says.adjust("C", 0, 9, 0, 105, "CP");
    says.adjust("C", 0, 153, 0, 249, "CPS");
    says.adjust("C", 0, 154, 0, 0, "CPHZ");
    says.adjust("", 0, 255, 0, 101, "CPH");
    says.adjust("CH", 0, 255, 0, 101, "CPH");
  }

  private static void sixLess(Sentence says) {
    says.adjust("", 1, 0, 0, 0, "PZ");
    says.adjust("", 1, 9, 0, 9, "P");
    says.adjust("", 1, 10, 0, 4, "H");
    says.adjust("", 1, 16, 0, 16, "");
    says.adjust("H", 1, 9, 0, 3, "PH");
    says.adjust("H", 1, 16, 0, 10, "PH");
    says.adjust("H", 1, 153, 0, 147, "PHS");
  }

  private static void ninetySixLess(Sentence says) {
    says.adjust("", 1, 153, 0, 153, "PS");
    says.adjust("", 1, 154, 0, 52, "CH");
    says.adjust("", 1, 160, 0, 64, "C");
    says.adjust("", 1, 255, 0, 153, "CPHS");
    says.adjust("C", 1, 96, 0, 0, "CPZ");
    says.adjust("C", 1, 95, 0, 249, "CPHS");
    says.adjust("C", 1, 89, 0, 249, "CPS");
    says.adjust("C", 1, 153, 0, 57, "CP");
  }

  private static void below(Sentence says) {
    says.adjust("H", 1, 6, 0, 0, "PHZ");
    says.adjust("H", 1, 5, 0, 255, "CPHS");
    says.adjust("H", 1, 0, 0, 250, "CPHS");
    says.adjust("CH", 1, 6, 0, 160, "CPHS");
    says.adjust("CH", 1, 5, 0, 159, "CPHS");
    // No 6 taken off: nothing went below 0 by it.
    says.adjust("", 1, 5, 0, 5, "P");
    says.adjust("", 1, 1, 0, 1, "");
    // Below 0 by the 96 alone, CARRY was set anyway.
    says.adjust("C", 1, 5, 0, 165, "CPS");
  }

  private static void upperStays(Sentence says) {
    for (int h : new int[] {0, 1, 128, 255}) {
      says.adjust("", 0, h * 256 + 255, 0, h * 256 + 101, "CPH");
      says.adjust("H", 1, h * 256, 0, h * 256 + 250, "CPHS");
      says.adjust("", 0, h * 256, 0, h * 256, "PZ");
      says.adjust("", 1, h * 256, 0, h * 256, "PZ");
    }
    says.adjust("STIDO", 0, 0, 0, 0, "PZTIDO");
    says.adjust("STIDO", 1, 0, 0, 0, "PZTIDO");
  }

  private static void digitMore(Sentence says) {
    says.adjust("C", 2, 9, 0, 9, "");
    says.adjust("", 2, 10, 0, 256, "CH");
    says.adjust("", 2, 15, 0, 261, "CH");
    says.adjust("C", 2, 16, 0, 0, "");
    says.adjust("C", 2, 249, 0, 9, "");
    says.adjust("", 2, 250, 0, 256, "CH");
    says.adjust("", 2, 255, 0, 261, "CH");
    says.adjust("H", 2, 0, 0, 262, "CH");
    says.adjust("H", 2, 9, 0, 271, "CH");
    says.adjust("", 2, 65280 + 10, 0, 0, "CH");
    says.adjust("", 2, 65280 + 9, 0, 65280 + 9, "");
    says.adjust("PZSTIDO", 2, 0, 0, 0, "PZSTIDO");
    says.adjust("PZSTIDO", 2, 10, 0, 256, "CPHZSTIDO");
  }

  private static void digitLess(Sentence says) {
    says.adjust("C", 3, 9, 0, 9, "");
    says.adjust("", 3, 10, 0, 65280 + 4, "CH");
    says.adjust("", 3, 256 + 15, 0, 9, "CH");
    says.adjust("C", 3, 249, 0, 9, "");
    says.adjust("H", 3, 0, 0, 65280 + 10, "CH");
    says.adjust("H", 3, 256, 0, 10, "CH");
    says.adjust("H", 3, 256 + 5, 0, 15, "CH");
    says.adjust("H", 3, 256 + 6, 0, 0, "CH");
    says.adjust("", 3, 65280 + 255, 0, 65024 + 9, "CH");
    says.adjust("PZSTIDO", 3, 0, 0, 0, "PZSTIDO");
    says.adjust("PZSTIDO", 3, 10, 0, 65284, "CPHZSTIDO");
  }

  private static void parted(Sentence says) {
    says.adjust("", 4, 9, 10, 9, "P");
    says.adjust("", 4, 10, 10, 256, "PZ");
    says.adjust("", 4, 255, 1, 65280, "PZ");
    says.adjust("", 4, 255, 255, 256, "PZ");
    says.adjust("", 4, 254, 255, 254, "S");
    says.adjust("", 4, 255, 128, 256 + 127, "");
    says.adjust("", 4, 0, 7, 0, "PZ");
    says.adjust("", 4, 65280, 7, 0, "PZ");
    says.adjust("CHTIDO", 4, 65280 + 8, 5, 259, "CPHTIDO");
    says.adjust("SZP", 4, 1, 10, 1, "");
  }

  private static void joined(Sentence says) {
    says.adjust("", 5, 256 + 55, 200, 255, "PS");
    says.adjust("", 5, 256 + 56, 200, 0, "PZ");
    says.adjust("", 5, 256 + 57, 200, 1, "");
    says.adjust("", 5, 65535, 255, 0, "PZ");
    says.adjust("", 5, 65535, 1, 254, "S");
    says.adjust("", 5, 0, 255, 0, "PZ");
    says.adjust("", 5, 65280, 0, 0, "PZ");
    says.adjust("", 5, 65280 + 127, 0, 127, "");
    says.adjust("CHTIDO", 5, 256 + 56, 200, 0, "CPHZTIDO");
    says.adjust("SZP", 5, 256, 1, 1, "");
  }

  private static void noBase(Sentence says) {
    for (int base : new int[] {0, 1, 256, -1, Integer.MIN_VALUE, Integer.MAX_VALUE}) {
      says.adjust("", 0, 10, base, 16, "H");
      says.adjust("", 1, 10, base, 4, "H");
      says.adjust("", 2, 10, base, 256, "CH");
      says.adjust("", 3, 10, base, 65284, "CH");
    }
    says.adjust("", 4, 9, 257, 2304, "PZ");
    says.adjust("", 4, 255, -1, 256, "PZ");
    says.adjust("", 5, 258, 256, 2, "");
    says.adjust("", 5, 258, -1, 1, "");
  }

  private static void refused(Sentence says) {
    for (int base : new int[] {0, 256, 65536, -256, Integer.MIN_VALUE}) {
      for (int word : new int[] {0, 99, 65535, -1}) {
        says.refuses(ArithmeticException.class, "adjust 4 " + word + " " + base,
            x -> x.adjust(4, word, base));
      }
    }
    for (int none : new int[] {-1, 6, 256, Integer.MIN_VALUE, Integer.MAX_VALUE}) {
      for (int base : new int[] {0, 10, 256}) {
        says.refuses(IllegalArgumentException.class, "adjust " + none + " by " + base,
            x -> x.adjust(none, 99, base));
      }
    }
  }
}
