/** Promise 3: flags() tells the flags, and asking changes none. */
public final class Promise03FlagsTest {
  public static void main(String[] args) {
    Expect expect = new Expect("promise 3");
    WordArithmetic x = new WordArithmetic();
    expect.due(x.flags(), 0, "flags()");
    x.operate(0, false, 255, 1);
    expect.due(x.flags(), 1 + 4 + 16 + 64, "operate(0, false, 255, 1): flags()");
    expect.due(x.flags(), 1 + 4 + 16 + 64, "flags() again");
    x.operate(9, true, 32767, 0);
    expect.due(x.flags(), 1 + 4 + 16 + 128 + 2048, "operate(9, true, 32767, 0): flags()");
    x.set(256 + 512 + 1024);
    x.operate(0, false, 0, 0);
    expect.due(x.flags(), 4 + 64 + 256 + 512 + 1024, "set(1792), operate(0, false, 0, 0): flags()");
    for (int call = 0; call < 100; call++) {
      expect.due(x.flags(), 4 + 64 + 256 + 512 + 1024, "flags() again");
    }
    expect.end();
  }
}
