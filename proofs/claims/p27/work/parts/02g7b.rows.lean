set_option maxRecDepth 20000 in
theorem ggi_4 : GoodIn wsL_law (wsL_isSo_r4) := goodIn_r _ [145, 146, 298, 299, 300, 201, 202, 203, 204, 205, 206, 301, 302, 303, 304, 305, 306, 307, 308, 253, 254, 255, 185, 186] (by decide +kernel) (by decide +kernel)
set_option maxRecDepth 20000 in
theorem ggi_5 : GoodIn wsL_law (wsL_isSo_r5) := goodIn_r _ [187, 309, 310, 311, 312, 14, 313, 93, 94, 95, 89, 314, 315, 316, 317, 318, 148, 149, 13, 150, 151, 152, 153, 154] (by decide +kernel) (by decide +kernel)
set_option maxRecDepth 20000 in
theorem ggi_6 : GoodIn wsL_law (wsL_isSo_r6) := goodIn_r _ [58, 155, 156, 157, 158, 57, 159, 160, 161, 162, 30, 75, 76, 77, 78, 29, 90, 91, 92, 319, 320, 321, 322, 245] (by decide +kernel) (by decide +kernel)
