/** Counts and prints the answers that are not the ones that are due. */
final class Due {
    private int wrong = 0;
    private int asked = 0;

    void due(String call, long got, long want) {
        asked++;
        if (got != want) {
            wrong++;
            System.out.println(call + " answered " + got + ", due is " + want);
        }
    }

    void due(String call, double got, double want) {
        asked++;
        if (got != want) {
            wrong++;
            System.out.println(call + " answered " + got + ", due is " + want);
        }
    }

    void close(String name) {
        System.out.println(name + ": " + asked + " answers, " + wrong + " of them wrong");
        if (wrong != 0) {
            System.exit(1);
        }
    }

    /** Types a whole text in place of the one that was. */
    static void write(ZonedLight light, String text) {
        light.clearText();
        for (int i = 0; i < text.length(); i++) {
            light.type(text.charAt(i));
        }
    }

    /** A new object whose picture is asked by a text. */
    static ZonedLight asking(String text) {
        ZonedLight light = new ZonedLight();
        write(light, text);
        if (light.askAll() < 0) {
            throw new IllegalArgumentException(text);
        }
        light.clearText();
        return light;
    }
}
