import java.io.IOException;

/**
 * The document from its first line to its last: every sentence that names a boundary case, and
 * every refused call, has a test of its own, at its place and under its own words. What no test
 * quotes is wrong.
 */
public final class DocumentTest {
    public static void main(String[] args) throws IOException {
        Page.open();
        TermsEdges.run();
        FightTermsEdges.run();
        OtherTermsEdges.run();
        SeaEdges.run();
        MovesEdges.run();
        FightsEdges.run();
        WhatIfEdges.run();
        TextEdges.run();
        StateEdges.run();
        Page.close();
        Due.finish("DocumentTest");
    }
}
