/** What the project's tests share: it prints each answer that is not the one that is due, and counts them. */
final class Due {
    private int asked = 0;
    private int wrong = 0;
    private String about = "";

    void about(String what) {
        about = what;
    }

    void is(long want, long got, String call) {
        asked++;
        if (got != want) {
            wrong++;
            System.out.println(about + ": " + call + " answered " + got + ", due is " + want);
        }
    }

    void isTrue(boolean holds, String what) {
        asked++;
        if (!holds) {
            wrong++;
            System.out.println(about + ": " + what);
        }
    }

    int wrongOnes() {
        return wrong;
    }

    void end() {
        System.out.println(wrong == 0 ? asked + " answers are as due" : wrong + " of " + asked + " are not as due");
        if (wrong != 0) {
            System.exit(1);
        }
    }

    /** Tells a town in letters; what town() answers. */
    static int tell(CoinsAreDoves x, String text) {
        for (int i = 0; i < text.length(); i++) {
            x.letter(text.charAt(i));
        }
        return x.town();
    }

    static CoinsAreDoves townOf(String... texts) {
        CoinsAreDoves x = new CoinsAreDoves();
        for (String text : texts) {
            tell(x, text);
        }
        return x;
    }
}
