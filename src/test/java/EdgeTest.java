/** Each sentence of the document that names a boundary case by a test of its own; no word of it is left out. */
public final class EdgeTest {
    private EdgeTest() {
    }

    public static void main(String[] args) throws Exception {
        Edges e = new Edges();
        HouseEdges.tell(e);
        NightEdges.tell(e);
        BookingEdges.tell(e);
        ReceiptEdges.tell(e);
        e.close();
    }
}
