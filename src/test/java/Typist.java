/** Types whole texts into a session and reads whole texts out of it. */
final class Typist {
    private Typist() {
    }

    static int type(RationalSession session, String text) {
        int answer = session.line(-1);
        for (int i = 0; i < text.length(); i++) {
            answer = session.type(text.charAt(i));
        }
        return answer;
    }

    static int enter(RationalSession session, String text) {
        type(session, text);
        return session.enter();
    }

    static String text(RationalSession session, int label) {
        StringBuilder text = new StringBuilder();
        for (int i = 0; i < 1000 && session.text(label, i) > 0; i++) {
            text.append((char) session.text(label, i));
        }
        return text.toString();
    }

    static String line(RationalSession session) {
        StringBuilder text = new StringBuilder();
        for (int i = 0; i < session.line(-1); i++) {
            text.append((char) session.line(i));
        }
        return text.toString();
    }

    /** Up to eight characters as types takes them, the last one lowest. */
    static long pack(String text) {
        long packed = 0;
        for (int i = 0; i < text.length(); i++) {
            packed = packed << 8 | text.charAt(i);
        }
        return packed;
    }
}
