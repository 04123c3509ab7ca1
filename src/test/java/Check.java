/** Collects what is not as due; a test makes one, tells it each answer and ends with end(). */
final class Check {

    static final Class<IndexOutOfBoundsException> NO_PLACE = IndexOutOfBoundsException.class;
    static final Class<IllegalArgumentException> NO_VALUE = IllegalArgumentException.class;

    private int asked;
    private int wrong;
    private int promise;

    void promise(int number) {
        promise = number;
    }

    void due(String call, Object got, Object want) {
        asked++;
        if (!want.equals(got)) {
            tell(call + " answered " + got + ", due is " + want);
        }
    }

    /** A call that throws has to throw just this, and to leave the object as it was. */
    void throwsIt(String call, Kindcutter x, Class<? extends RuntimeException> want, Runnable run) {
        asked++;
        long before = x.digest();
        try {
            run.run();
            tell(call + " threw nothing, due is " + want.getName());
        } catch (RuntimeException e) {
            if (e.getClass() != want) {
                tell(call + " threw " + e.getClass().getName() + ", due is " + want.getName());
            }
        }
        if (x.digest() != before) {
            tell(call + " threw and changed something");
        }
    }

    void tell(String fault) {
        wrong++;
        System.out.println("promise " + promise + ": " + fault);
    }

    void end() {
        System.out.println(wrong == 0
            ? "all " + asked + " answers are as due"
            : wrong + " of " + asked + " answers are not as due");
        if (wrong != 0 || asked == 0) {
            System.exit(1);
        }
    }

    /** A new object whose text 0 has these signs. */
    static Kindcutter with(int... signs) {
        Kindcutter x = new Kindcutter();
        set(x, 0, signs);
        return x;
    }

    static void set(Kindcutter x, int text, int... signs) {
        x.clear(text);
        for (int sign : signs) {
            x.add(text, sign);
        }
    }

    /** A text of the characters of this one. */
    static Kindcutter with(String signs) {
        return with(signs.chars().toArray());
    }

    static int[] times(int many, int sign) {
        int[] signs = new int[many];
        java.util.Arrays.fill(signs, sign);
        return signs;
    }
}
