/** What all tests of boundaries share. */
abstract class Edges extends Bench {
    static Document document;

    /** The checks that follow are about this passage of the document. */
    static void edge(String heading, String passage) {
        about = heading + ", '" + passage + "'";
        if (!document.quote(heading, passage)) {
            due("once in the document", "not so");
        }
    }
}
