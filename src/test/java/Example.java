final class Example {
    /** Puts a text on an empty tape and has it read; answers what text() does. */
    static int tell(FreightShare desk, String text) {
        for (int at = 0; at < text.length(); at += 20) {
            desk.feed(four(text, at), four(text, at + 4), four(text, at + 8), four(text, at + 12), four(text, at + 16));
        }
        desk.end(text.length());
        return desk.text();
    }

    private static int four(String text, int at) {
        int number = 0;
        for (int k = at; k < at + 4; k++) {
            number = number << 8 | (k < text.length() ? text.charAt(k) & 255 : 0);
        }
        return number;
    }
}
