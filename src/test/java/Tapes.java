/** Puts texts on a post's tape and reads them. */
final class Tapes {
    private Tapes() {
    }

    static void put(BottledPost post, String text) {
        post.end(0);
        for (int at = 0; at < text.length(); at += 20) {
            int[] fours = new int[5];
            for (int i = 0; i < 20; i++) {
                int sign = at + i < text.length() ? text.charAt(at + i) & 255 : 0;
                fours[i / 4] = fours[i / 4] << 8 | sign;
            }
            post.feed(fours[0], fours[1], fours[2], fours[3], fours[4]);
        }
        post.end(text.length());
    }

    static int read(BottledPost post, String text) {
        put(post, text);
        return post.text();
    }

    /** A post whose currents all stay where they are. */
    static BottledPost still() {
        BottledPost post = new BottledPost();
        for (int tide = 0; tide < 3; tide++) for (int place = 0; place < 10; place++) post.current(tide, place, place);
        return post;
    }
}
