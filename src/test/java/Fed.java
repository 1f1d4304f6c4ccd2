/** How a text goes into feed(): twenty bytes a call, filled up with blanks. */
final class Fed {
    private Fed() {
    }

    /** The five numbers of the bytes from a place on. */
    static int[] five(String text, int at) {
        int[] five = new int[5];
        for (int i = 0; i < 20; i++) {
            five[i / 4] = five[i / 4] << 8 | (at + i < text.length() ? text.charAt(at + i) : ' ');
        }
        return five;
    }

    /** What the last feed() answered. */
    static int feed(WalkingBridge x, String text) {
        int fed = 0;
        for (int at = 0; at < text.length(); at += 20) {
            int[] five = five(text, at);
            fed = x.feed(five[0], five[1], five[2], five[3], five[4]);
        }
        return fed;
    }

    static int tell(WalkingBridge x, String text) {
        feed(x, text);
        return x.text(text.length());
    }
}
