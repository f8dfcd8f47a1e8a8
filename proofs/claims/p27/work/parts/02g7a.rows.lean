set_option maxRecDepth 20000 in
theorem ggi_1 : GoodIn wsL_law (.code yL_isSo cL_isSo 11 (some .boolean) :: wsL_isSo_r1) := goodIn_r _ [268, 269, 270, 271, 2, 272, 104, 273, 274, 275, 276, 101, 277, 238, 239, 240, 23, 196, 233, 234, 235, 236, 188, 189, 37] (by decide +kernel) (by decide +kernel)
set_option maxRecDepth 20000 in
theorem ggi_2 : GoodIn wsL_law (wsL_isSo_r2) := goodIn_r _ [190, 278, 279, 280, 281, 16, 282, 283, 284, 285, 20, 118, 219, 220, 221, 222, 223, 224, 225, 103, 226, 227, 144, 228] (by decide +kernel) (by decide +kernel)
set_option maxRecDepth 20000 in
theorem ggi_3 : GoodIn wsL_law (wsL_isSo_r3) := goodIn_r _ [229, 230, 231, 232, 218, 237, 197, 198, 199, 200, 286, 287, 288, 289, 290, 291, 292, 293, 180, 100, 294, 295, 296, 297] (by decide +kernel) (by decide +kernel)
