/** Compiles a text, runs it to its end and tells how that went. */
final class Example {
    public static void main(String[] args) {
        System.out.println(told("var f; proc fact(n); begin if n > 1 then begin f := f * n; fact(n - 1) end end;"
                + " begin f := 1; fact(5); write f end."));
    }

    static String told(String text) {
        NestPascal x = new NestPascal();
        for (int i = 0; i < text.length(); i += 8) {
            if (!x.write(packed(text, i))) {
                return "too long, or a character that is not 32 .. 126";
            }
        }
        try {
            x.compile();
        } catch (IllegalArgumentException e) {
            return "error " + x.error(0) + " at " + x.error(1);
        }
        x.start();
        for (int i = 0; i < 100 && x.about(0) == 1; i++) {
            x.run(200);
        }
        return "state " + x.about(0) + ", the latest number is " + x.written(0);
    }

    /** Up to eight characters from a place on, the first in the highest byte; write refuses a byte of 255. */
    static long packed(String text, int from) {
        long w = 0;
        for (int i = from; i < from + 8; i++) {
            w = w << 8 | (i < text.length() ? Math.min(text.charAt(i), 255) : 0);
        }
        return w;
    }
}
