/** The bounds that the document names of shifts: Terms, 6, and promise 5. */
public final class BoundsOfShiftsTest {
  private static final boolean BYTE = false;
  private static final boolean WORD = true;

  public static void main(String[] args) {
    Expect expect = new Expect("bounds of shifts");
    none(new Sentence(expect, "none: nothing changes"));
    turnLeft(new Sentence(expect, "0: the highest bit comes into CARRY and to the lowest place"));
    turnRight(new Sentence(expect, "1: the lowest one into CARRY and to the highest place"));
    throughLeft(new Sentence(expect, "2: through CARRY to the left"));
    throughRight(new Sentence(expect, "3: through CARRY to the right"));
    left(new Sentence(expect, "4 and 6 to the left: 0 to the lowest place"), 4);
    left(new Sentence(expect, "4 and 6 to the left: 0 to the lowest place"), 6);
    right(new Sentence(expect, "5 to the right: 0 to the highest place"));
    rightSigned(new Sentence(expect, "7 likewise, but the highest bit stays"));
    others(new Sentence(expect, "4 to 7 also go by the answer. HALF stays"));
    mostTimes(new Sentence(expect, "times is 0 .. 255"));
    refused(new Sentence(expect, "IllegalArgumentException: none such, or times is not 0 .. 255"));
    expect.end();
  }

  private static void none(Sentence says) {
    for (int shift = 0; shift < 8; shift++) {
      for (String flags : new String[] {"", Sentence.ALL, "C", "PHZSTIDO"}) {
        says.shift(flags, shift, BYTE, 129, 0, 129, flags);
        says.shift(flags, shift, BYTE, 0, 0, 0, flags);
        says.shift(flags, shift, WORD, 32769, 0, 32769, flags);
        says.shift(flags, shift, WORD, -1, 0, 65535, flags);
      }
    }
  }

  private static void turnLeft(Sentence says) {
    says.shift("", 0, BYTE, 128, 1, 1, "CO");
    says.shift("C", 0, BYTE, 64, 1, 128, "O");
    says.shift("O", 0, BYTE, 192, 1, 129, "C");
    says.shift("CO", 0, BYTE, 0, 1, 0, "");
    says.shift("", 0, BYTE, 1, 7, 128, "O");
    says.shift("", 0, BYTE, 1, 8, 1, "CO");
    says.shift("", 0, WORD, 128, 1, 256, "");
    says.shift("", 0, WORD, 32768, 1, 1, "CO");
    says.shift("", 0, WORD, 1, 15, 32768, "O");
    says.shift("", 0, WORD, 1, 16, 1, "CO");
  }

  private static void turnRight(Sentence says) {
    says.shift("", 1, BYTE, 1, 1, 128, "CO");
    says.shift("CO", 1, BYTE, 2, 1, 1, "");
    says.shift("O", 1, BYTE, 129, 1, 192, "C");
    says.shift("C", 1, BYTE, 128, 1, 64, "O");
    says.shift("", 1, BYTE, 128, 7, 1, "");
    says.shift("", 1, BYTE, 128, 8, 128, "CO");
    says.shift("", 1, WORD, 1, 1, 32768, "CO");
    says.shift("", 1, WORD, 256, 1, 128, "");
    says.shift("", 1, WORD, 32768, 15, 1, "");
    says.shift("", 1, WORD, 32768, 16, 32768, "CO");
  }

  private static void throughLeft(Sentence says) {
    says.shift("C", 2, BYTE, 0, 1, 1, "");
    says.shift("", 2, BYTE, 128, 1, 0, "CO");
    says.shift("C", 2, BYTE, 128, 1, 1, "CO");
    says.shift("", 2, BYTE, 64, 1, 128, "O");
    says.shift("CO", 2, BYTE, 192, 1, 129, "C");
    says.shift("", 2, BYTE, 1, 8, 0, "CO");
    says.shift("", 2, BYTE, 1, 9, 1, "");
    says.shift("C", 2, BYTE, 0, 9, 0, "CO");
    says.shift("C", 2, WORD, 0, 1, 1, "");
    says.shift("", 2, WORD, 1, 16, 0, "CO");
    says.shift("", 2, WORD, 1, 17, 1, "");
    says.shift("C", 2, WORD, 32768, 17, 32768, "C");
  }

  private static void throughRight(Sentence says) {
    says.shift("C", 3, BYTE, 0, 1, 128, "O");
    says.shift("O", 3, BYTE, 1, 1, 0, "C");
    says.shift("C", 3, BYTE, 1, 1, 128, "CO");
    says.shift("CO", 3, BYTE, 128, 1, 192, "");
    says.shift("", 3, BYTE, 128, 1, 64, "O");
    says.shift("", 3, BYTE, 128, 8, 0, "C");
    says.shift("", 3, BYTE, 128, 9, 128, "O");
    says.shift("C", 3, WORD, 0, 1, 32768, "O");
    says.shift("", 3, WORD, 32768, 16, 0, "C");
    says.shift("", 3, WORD, 32768, 17, 32768, "O");
  }

  private static void left(Sentence says, int shift) {
    says.shift("C", shift, BYTE, 64, 1, 128, "SO");
    says.shift("", shift, BYTE, 128, 1, 0, "CPZO");
    says.shift("O", shift, BYTE, 192, 1, 128, "CS");
    says.shift("CO", shift, BYTE, 32, 1, 64, "");
    says.shift("C", shift, BYTE, 0, 1, 0, "PZ");
    says.shift("", shift, BYTE, 255, 7, 128, "CS");
    says.shift("", shift, BYTE, 255, 8, 0, "CPZO");
    says.shift("", shift, BYTE, 255, 9, 0, "PZ");
    says.shift("", shift, WORD, 128, 1, 256, "P");
    says.shift("", shift, WORD, 65535, 15, 32768, "CPS");
    says.shift("", shift, WORD, 65535, 16, 0, "CPZO");
    says.shift("", shift, WORD, 65535, 17, 0, "PZ");
  }

  private static void right(Sentence says) {
    says.shift("O", 5, BYTE, 1, 1, 0, "CPZ");
    says.shift("C", 5, BYTE, 128, 1, 64, "O");
    says.shift("", 5, BYTE, 255, 1, 127, "CO");
    says.shift("O", 5, BYTE, 128, 2, 32, "");
    says.shift("", 5, BYTE, 255, 7, 1, "C");
    says.shift("", 5, BYTE, 255, 8, 0, "CPZ");
    says.shift("", 5, BYTE, 255, 9, 0, "PZ");
    says.shift("", 5, WORD, 32768, 1, 16384, "PO");
    says.shift("", 5, WORD, 256, 1, 128, "");
    says.shift("", 5, WORD, 65535, 15, 1, "C");
    says.shift("", 5, WORD, 65535, 16, 0, "CPZ");
    says.shift("", 5, WORD, 65535, 17, 0, "PZ");
  }

  private static void rightSigned(Sentence says) {
    says.shift("O", 7, BYTE, 128, 1, 192, "PS");
    says.shift("O", 7, BYTE, 64, 1, 32, "");
    says.shift("O", 7, BYTE, 1, 1, 0, "CPZ");
    says.shift("C", 7, BYTE, 128, 7, 255, "PS");
    says.shift("O", 7, BYTE, 128, 8, 255, "CPS");
    says.shift("", 7, BYTE, 127, 7, 0, "CPZ");
    says.shift("C", 7, BYTE, 127, 8, 0, "PZ");
    says.shift("O", 7, WORD, 32768, 1, 49152, "PS");
    says.shift("", 7, WORD, 128, 1, 64, "");
    says.shift("C", 7, WORD, 32768, 15, 65535, "PS");
    says.shift("", 7, WORD, 32768, 16, 65535, "CPS");
  }

  private static void others(Sentence says) {
    for (int turn = 0; turn < 4; turn++) {
      says.shift("PHZSTID", turn, BYTE, 4, 1, turn % 2 == 0 ? 8 : 2, "PHZSTID");
      says.shift("", turn, BYTE, 0, 1, 0, "");
    }
    says.shift("", 0, BYTE, 3, 2, 12, "");
    says.shift("", 1, BYTE, 3, 2, 192, "C");
    says.shift("", 2, BYTE, 3, 2, 12, "");
    says.shift("", 3, BYTE, 3, 2, 128, "CO");
    for (int shift = 4; shift < 8; shift++) {
      says.shift("PHZSTID", shift, BYTE, 4, 1, shift % 2 == 0 ? 8 : 2, "HTID");
      says.shift("S", shift, BYTE, 0, 1, 0, "PZ");
      says.shift("H", shift, WORD, 0, 1, 0, "PHZ");
    }
  }

  private static void mostTimes(Sentence says) {
    says.shift("", 0, BYTE, 1, 255, 128, "O");
    says.shift("", 0, WORD, 1, 255, 32768, "O");
    says.shift("", 1, BYTE, 1, 255, 2, "");
    says.shift("", 1, WORD, 1, 255, 2, "");
    says.shift("", 2, BYTE, 1, 255, 8, "");
    says.shift("C", 2, BYTE, 0, 255, 4, "");
    says.shift("C", 2, WORD, 4660, 255, 4660, "CO");
    says.shift("", 3, BYTE, 8, 255, 1, "");
    says.shift("C", 3, WORD, 4660, 255, 4660, "C");
    for (int shift = 4; shift < 7; shift++) {
      says.shift("CO", shift, BYTE, 255, 255, 0, "PZ");
      says.shift("CO", shift, WORD, 65535, 255, 0, "PZ");
    }
    says.shift("O", 7, BYTE, 128, 255, 255, "CPS");
    says.shift("O", 7, WORD, 32768, 255, 65535, "CPS");
  }

  private static void refused(Sentence says) {
    for (int none : new int[] {-1, 8, 256, Integer.MIN_VALUE, Integer.MAX_VALUE}) {
      for (int times : new int[] {0, 1, 255, 256, -1}) {
        says.refuses(IllegalArgumentException.class, "shift " + none + ", times " + times,
            x -> x.shift(none, BYTE, 129, times));
      }
    }
    for (int shift = 0; shift < 8; shift++) {
      int each = shift;
      for (int times : new int[] {-1, 256, 65536, Integer.MIN_VALUE, Integer.MAX_VALUE}) {
        says.refuses(IllegalArgumentException.class, "shift " + each + ", times " + times,
            x -> x.shift(each, WORD, 32769, times));
      }
    }
  }
}
