public final class SeaTest {
    public static void main(String[] args) {
        Check check = new Check("SeaTest");
        BottledPost post = new BottledPost();
        check.due("is(1)", post.is(1), 227);
        check.close();
    }
}
