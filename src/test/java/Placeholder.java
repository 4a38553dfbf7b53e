public class Placeholder { public static void main(String[] a) {} }
