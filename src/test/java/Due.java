/** What all tests of the project share: counting answers that are not due, and writing TEXTS. */
final class Due {
    private final String test;
    private int wrong = 0;
    private int asked = 0;
    private String promise = "";

    Due(String test) {
        this.test = test;
    }

    void promise(int number, String name) {
        promise = "promise " + number + " (" + name + ")";
    }

    void name(String test) {
        promise = test;
    }

    void is(String call, long got, long want) {
        asked++;
        if (got != want) {
            wrong++;
            System.out.println(promise + ": " + call + " answered " + got + ", due is " + want);
        }
    }

    void fail(String what) {
        asked++;
        wrong++;
        System.out.println(promise + ": " + what);
    }

    void end() {
        System.out.println(test + ": " + asked + " answers, " + wrong + " not as due");
        if (wrong != 0) {
            System.exit(1);
        }
    }

    static void write(StreetKeys x, int t, String signs) {
        x.text(t, signs.length());
        for (int i = 0; i < signs.length(); i++) {
            x.put(t, i, signs.charAt(i));
        }
    }

    static StreetKeys street(String signs) {
        StreetKeys x = new StreetKeys();
        write(x, 0, signs);
        x.street(0);
        return x;
    }

    static StreetKeys street(String signs, String year) {
        StreetKeys x = street(signs);
        write(x, 1, year);
        x.year(1);
        return x;
    }
}
