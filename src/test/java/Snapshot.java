/** All that a session shows, as one text: two that are equal tell that nothing has changed. */
final class Snapshot {
    private Snapshot() {
    }

    static String of(RationalSession session) {
        return "line " + Typist.line(session) + " of " + session.line(-1) + ", " + withoutLine(session);
    }

    static String withoutLine(RationalSession session) {
        StringBuilder all = new StringBuilder();
        all.append("bad place ").append(session.badPlace());
        all.append(", shapes ").append(session.shapes());
        for (int name = 0; name < 3; name++) {
            all.append(", name ").append(name).append(" ").append(session.bound(name));
        }
        all.append(", labels ").append(session.labels());
        for (int label = 1; label <= session.labels(); label++) {
            all.append("; ").append(session.shape(label)).append(" ").append(Typist.text(session, label));
            appendPart(all, session, label, false);
            appendPart(all, session, label, true);
        }
        return all.toString();
    }

    private static void appendPart(StringBuilder all, RationalSession session, int label, boolean denominator) {
        all.append(" degree ").append(session.degree(label, denominator)).append(":");
        for (int i = 0; i <= 12; i++) {
            all.append(" ").append(session.coefficient(label, denominator, i));
        }
    }
}
