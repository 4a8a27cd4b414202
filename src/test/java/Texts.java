/** Pieces of abbeys and years that several tests tell. */
final class Texts {
    private Texts() {
    }

    /** Thoughts a, b, .. of worth 1, 2, .. and of part 1. */
    static String thoughts(int many) {
        StringBuilder s = new StringBuilder();
        for (int i = 0; i < many; i++) {
            s.append("thought ").append((char) ('a' + i)).append(" worth ").append(i + 1).append(" part 1;");
        }
        return s.toString();
    }

    /** Tenants p, q, .. of one kind. */
    static String tenants(int many, String kind) {
        StringBuilder s = new StringBuilder();
        for (int i = 0; i < many; i++) {
            s.append("tenant ").append((char) ('p' + i)).append(' ').append(kind).append(';');
        }
        return s.toString();
    }

    /** Behind this one each of the followers may be thought. */
    static String behind(char one, String followers) {
        StringBuilder s = new StringBuilder();
        for (char follower : followers.toCharArray()) {
            s.append("follows ").append(follower).append(' ').append(one).append(';');
        }
        return s.toString();
    }

    /** Each of these may follow each of these. */
    static String allFollow(String names) {
        StringBuilder s = new StringBuilder();
        for (char one : names.toCharArray()) {
            s.append(behind(one, names));
        }
        return s.toString();
    }

    /** Each of these may be followed by the next one alone, the last one by the first. */
    static String ring(String names) {
        StringBuilder s = new StringBuilder();
        for (int i = 0; i < names.length(); i++) {
            s.append(behind(names.charAt(i), names.substring((i + 1) % names.length()).substring(0, 1)));
        }
        return s.toString();
    }
}
