/** Types a text into THE BOOK, up to eight bytes a call. */
final class Texts {
    private Texts() {
    }

    static void type(SchoolPlay play, String text) {
        for (int i = 0; i < text.length(); i += 8) {
            String piece = text.substring(i, Math.min(text.length(), i + 8));
            play.type(packed(piece), piece.length());
        }
    }

    static long packed(String piece) {
        long v = 0;
        for (int i = 0; i < piece.length(); i++) {
            v = v << 8 | piece.charAt(i);
        }
        return v;
    }

    /** A text instead of that which THE BOOK has: what reading it answers. */
    static int read(SchoolPlay play, String text) {
        play.clear();
        type(play, text);
        return play.read();
    }
}
