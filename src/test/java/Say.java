/** Shortens what tests of the charter do again and again. */
final class Say {
    private Say() {
    }

    /** Puts a row of signs on an empty tape. */
    static void tape(AcidCity x, String s) {
        x.trim(0);
        for (int i = 0; i < s.length(); i += 12) {
            x.feed(four(s, i), four(s, i + 4), four(s, i + 8));
        }
        x.trim(s.length());
    }

    static int text(AcidCity x, String s) {
        tape(x, s);
        return x.text();
    }

    /** A TEXT that has passed and is in FORCE; everybody there says yes, and an HOUR begins. */
    static int law(AcidCity x, String s) {
        int made = text(x, s);
        x.hold(made);
        for (int one = 0; one < x.count(4); one++) {
            x.say(one, 1);
        }
        x.tally();
        x.run(60 - x.city(6) % 60);
        return made;
    }

    private static int four(String s, int from) {
        int v = 0;
        for (int i = from; i < from + 4; i++) {
            v = v << 8 | (i < s.length() ? s.charAt(i) & 255 : 0);
        }
        return v;
    }
}
