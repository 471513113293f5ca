/** Counts the answers that are not the ones due; the tests beside it share it. */
final class Check {
    private int wrong = 0;
    private int asked = 0;

    void due(String call, long got, long want) {
        asked++;
        if (got != want) {
            wrong++;
            System.out.println(call + " answered " + got + ", due is " + want);
        }
    }

    void that(String what, boolean holds) {
        asked++;
        if (!holds) {
            wrong++;
            System.out.println("not so: " + what);
        }
    }

    int wrongSoFar() {
        return wrong;
    }

    void end(String name) {
        System.out.println(name + ": " + asked + " answers, " + wrong + " not as due");
        if (wrong != 0 || asked == 0) {
            System.exit(1);
        }
    }

    /** A new object with a TEXT 0 that holds these signs. */
    static BoneRods withText(String signs) {
        BoneRods x = new BoneRods();
        write(x, 0, signs);
        return x;
    }

    static void write(BoneRods x, int t, String signs) {
        x.text(t, signs.length());
        for (int i = 0; i < signs.length(); i++) {
            x.put(t, i, signs.charAt(i));
        }
    }

    /** A new object whose BOX is told by these signs. */
    static BoneRods withBox(String signs) {
        BoneRods x = withText(signs);
        int n = x.box(0);
        if (n < 2) {
            throw new IllegalStateException("no BOX: " + signs);
        }
        return x;
    }

    static void fill(BoneRods x, int r, int... ints) {
        x.row(r, ints.length);
        for (int i = 0; i < ints.length; i++) {
            x.lay(r, i, ints[i]);
        }
    }
}
