set_option maxRecDepth 20000 in
theorem ggi_7 : GoodIn wsL_law (wsL_isSo_r7) := goodIn_r _ [105, 106, 107, 108, 109, 110, 323, 324, 325, 326, 41, 42, 43, 44, 327, 328, 329, 330, 331, 332, 333, 181, 182, 183] (by decide +kernel) (by decide +kernel)
set_option maxRecDepth 20000 in
theorem ggi_8 : GoodIn wsL_law (wsL_isSo_r8) := goodIn_r _ [184, 334, 335, 336, 337, 247, 338, 339, 340, 341, 248, 342, 343, 344, 345, 346, 347, 348, 349, 63, 64, 350, 351, 352] (by decide +kernel) (by decide +kernel)
set_option maxRecDepth 20000 in
theorem ggi_9 : GoodIn wsL_law (wsL_isSo_r9) := goodIn_r _ [353, 354, 355, 356, 357, 358, 359, 360, 361, 362, 363, 364, 365, 366, 367, 368, 369, 370, 371, 372, 373] (by decide +kernel) (by decide +kernel)
