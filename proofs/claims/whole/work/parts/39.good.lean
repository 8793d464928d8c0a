/-! the law's words, by their places in the tables -/
set_option maxRecDepth 20000 in
theorem kl_g_X3_init : GoodIn lw_tbl (wsX3_init) := goodIn_r _ [32, 33, 34, 35, 36, 37, 15, 86, 57, 58, 16, 87, 67, 88, 69, 17, 39, 40, 41, 55, 42, 56, 43, 44, 45, 60, 61, 62, 63, 71, 72, 73, 74, 76, 77, 78, 46, 48, 50, 52, 89, 91, 93, 64, 79, 81, 83] rfl (by decide +kernel)
set_option maxRecDepth 20000 in
theorem kl_g_X4_init : GoodIn lw_tbl (wsX4_init) := goodIn_r _ [436, 437, 34, 35, 56, 439, 55, 440, 441, 442, 460, 443, 444, 445, 447, 449, 451, 453, 455, 457] rfl (by decide +kernel)
set_option maxRecDepth 20000 in
theorem kl_g_L_put : GoodIn lw_tbl (va_wsS RL 37 yL_put wsL_put) := goodIn_r _ [274, 275, 13, 276, 277, 278, 279, 280, 281, 14, 282, 283, 22, 359, 24, 86, 100, 101, 102, 103, 104, 105, 106, 107, 108, 109, 15, 110, 45, 42, 43, 111, 112, 23, 113, 114, 115, 116, 117, 118, 119, 120, 121, 122, 123, 124, 125, 351, 352, 353, 354, 44, 355, 356, 357, 358, 375, 376, 377, 378, 379, 89, 91, 93, 46, 48, 50, 52, 19, 305, 314, 318, 321, 323, 306, 307, 34, 35, 308, 313, 319, 339, 295, 340, 297, 341, 299, 309, 311, 301, 335, 336, 338, 301, 326, 327, 328, 329, 329, 330, 331, 332, 332, 333, 334, 335, 325, 284, 292, 293, 294, 296, 298, 300, 304, 303, 302, 19, 305, 314, 318, 321, 323, 306, 307, 34, 35, 308, 313, 319, 339, 295, 340, 297, 341, 299, 309, 311, 301, 335, 336, 338, 301, 370, 371, 372, 329, 329, 330, 331, 332, 332, 333, 334, 335, 369, 360, 362, 316, 363, 364, 365, 366, 304, 303, 367] rfl (by decide +kernel)
set_option maxRecDepth 20000 in
theorem kl_g_X4_put : GoodIn lw_tbl (wsV RL 42 RX4 yX4_put wsX4_put) := goodIn_r _ [465, 466, 467, 18, 468, 439, 438, 440, 441, 442, 469, 470, 18, 471, 472, 474, 5, 475, 476, 478, 6, 479, 480, 481, 483, 7, 484, 485, 487, 8, 488, 445, 447, 449, 451, 453, 455, 457] rfl (by decide +kernel)
set_option maxRecDepth 20000 in
theorem kl_g_X4_thrown : GoodIn lw_tbl (wsV RL 43 RX4 yX4_thrown wsX4_thrown) := goodIn_r _ [461, 462, 463, 18, 464, 438, 445, 447, 449, 451, 453, 455, 457] rfl (by decide +kernel)
set_option maxRecDepth 20000 in
theorem kl_g_X4_get : GoodIn lw_tbl (wsV RL 50 RX4 yX4_get wsX4_get) := goodIn_r _ [489, 490, 491, 18, 492, 438, 442, 469, 470, 18, 471, 472, 474, 5, 475, 439, 476, 478, 6, 479, 440, 441, 480, 481, 483, 7, 484, 445, 447, 449, 451, 453, 455, 457] rfl (by decide +kernel)
set_option maxRecDepth 20000 in
theorem kl_g_X3_remove : GoodIn lw_tbl (wsV RL 51 RX3 yX3_remove wsX3_remove) := goodIn_r _ [96, 97, 98, 14, 99, 86, 100, 101, 14, 102, 103, 104, 105, 106, 107, 108, 109, 15, 110, 45, 42, 43, 111, 112, 23, 113, 114, 115, 116, 117, 118, 119, 120, 121, 122, 123, 124, 125, 126, 127, 128, 129, 44, 89, 91, 93, 46, 48, 50, 52] rfl (by decide +kernel)
set_option maxRecDepth 20000 in
theorem kl_g_X4_remove : GoodIn lw_tbl (wsV RL 55 RX4 yX4_remove wsX4_remove) := goodIn_r _ [493, 494, 495, 18, 496, 438, 439, 469, 470, 18, 471, 472, 474, 5, 475, 476, 478, 6, 479, 440, 441, 480, 481, 483, 7, 484, 485, 487, 8, 488, 442, 445, 447, 449, 451, 453, 455, 457] rfl (by decide +kernel)
set_option maxRecDepth 20000 in
theorem kl_g_X3_size : GoodIn lw_tbl (wsV RL 56 RX3 yX3_size wsX3_size) := goodIn_r _ [130, 131, 132, 14, 133, 86, 134, 135, 136, 15, 137, 45, 89, 91, 93, 46, 48, 50, 52] rfl (by decide +kernel)
set_option maxRecDepth 20000 in
theorem kl_g_X4_size : GoodIn lw_tbl (wsV RL 59 RX4 yX4_size wsX4_size) := goodIn_r _ [497, 498, 499, 18, 500, 438, 439, 445, 447, 449, 451, 453, 455, 457] rfl (by decide +kernel)
set_option maxRecDepth 20000 in
theorem kl_g_X3_within : GoodIn lw_tbl (wsV RL 60 RX3 yX3_within wsX3_within) := goodIn_r _ [138, 139, 140, 14, 141, 86, 100, 101, 14, 102, 103, 104, 105, 106, 142, 143, 144, 15, 145, 45, 42, 43, 147, 148, 156, 157, 27, 158, 149, 150, 23, 151, 152, 153, 26, 154, 155, 89, 91, 93, 46, 48, 50, 52] rfl (by decide +kernel)
set_option maxRecDepth 20000 in
theorem kl_g_X4_within : GoodIn lw_tbl (wsV RL 63 RX4 yX4_within wsX4_within) := goodIn_r _ [501, 502, 503, 18, 504, 438, 439, 469, 470, 18, 471, 505, 507, 9, 508, 441, 440, 445, 447, 449, 451, 453, 455, 457] rfl (by decide +kernel)
set_option maxRecDepth 20000 in
theorem kl_g_X3_rank : GoodIn lw_tbl (wsV RL 64 RX3 yX3_rank wsX3_rank) := goodIn_r _ [159, 160, 161, 14, 162, 86, 100, 101, 14, 102, 103, 104, 105, 106, 107, 108, 109, 15, 110, 45, 42, 43, 111, 112, 23, 113, 114, 115, 116, 117, 89, 91, 93, 46, 48, 50, 52] rfl (by decide +kernel)
set_option maxRecDepth 20000 in
theorem kl_g_X4_rank : GoodIn lw_tbl (wsV RL 67 RX4 yX4_rank wsX4_rank) := goodIn_r _ [509, 510, 511, 18, 512, 438, 469, 470, 18, 471, 472, 474, 5, 475, 439, 476, 478, 6, 479, 440, 441, 480, 445, 447, 449, 451, 453, 455, 457] rfl (by decide +kernel)
set_option maxRecDepth 20000 in
theorem kl_g_X3_forks : GoodIn lw_tbl (wsV RL 68 RX3 yX3_forks wsX3_forks) := goodIn_r _ [163, 164, 165, 14, 166, 87, 86, 167, 168, 169, 16, 170, 171, 135, 136, 15, 137, 45, 172, 173, 174, 175, 42, 43, 122, 123, 124, 125, 147, 14, 148, 156, 157, 27, 158, 149, 150, 23, 151, 152, 153, 26, 154, 155, 176, 178, 0, 179, 180, 181, 182, 63, 183, 184, 185, 186, 187, 188, 189, 190, 192, 1, 193, 89, 91, 93, 46, 48, 50, 52, 64] rfl (by decide +kernel)
set_option maxRecDepth 20000 in
theorem kl_g_X4_forks : GoodIn lw_tbl (wsV RL 72 RX4 yX4_forks wsX4_forks) := goodIn_r _ [513, 514, 515, 18, 516, 438, 439, 441, 440, 469, 470, 18, 471, 505, 507, 9, 508, 517, 519, 10, 520, 521, 522, 523, 524, 525, 526, 445, 447, 449, 451, 453, 455, 457] rfl (by decide +kernel)
set_option maxRecDepth 20000 in
theorem kl_g_X3_depth : GoodIn lw_tbl (wsV RL 73 RX3 yX3_depth wsX3_depth) := goodIn_r _ [194, 195, 196, 14, 197, 86, 100, 101, 14, 102, 103, 104, 105, 106, 198, 199, 200, 15, 201, 45, 42, 43, 202, 173, 174, 175, 122, 123, 124, 125, 147, 148, 156, 157, 27, 158, 149, 150, 23, 151, 152, 153, 26, 154, 155, 203, 204, 205, 206, 207, 208, 89, 91, 93, 46, 48, 50, 52] rfl (by decide +kernel)
set_option maxRecDepth 20000 in
theorem kl_g_X4_depth : GoodIn lw_tbl (wsV RL 76 RX4 yX4_depth wsX4_depth) := goodIn_r _ [527, 528, 529, 18, 530, 438, 469, 470, 18, 471, 517, 519, 10, 520, 439, 441, 440, 505, 507, 9, 508, 521, 522, 523, 445, 447, 449, 451, 453, 455, 457] rfl (by decide +kernel)
set_option maxRecDepth 20000 in
theorem kl_g_X3_open : GoodIn lw_tbl (wsV RL 77 RX3 yX3_open wsX3_open) := goodIn_r _ [209, 210, 211, 14, 212, 86, 213, 215, 2, 14, 216, 88, 217, 218, 219, 17, 220, 77, 221, 222, 223, 224, 76, 78, 225, 226, 227, 15, 228, 45, 42, 43, 44, 89, 91, 93, 79, 81, 83, 46, 48, 50, 52] rfl (by decide +kernel)
set_option maxRecDepth 20000 in
theorem kl_g_X4_open : GoodIn lw_tbl (wsV RL 80 RX4 yX4_open wsX4_open) := goodIn_r _ [531, 532, 533, 18, 534, 438, 443, 444, 439, 485, 487, 8, 18, 488, 440, 441, 442, 445, 447, 449, 451, 453, 455, 457] rfl (by decide +kernel)
set_option maxRecDepth 20000 in
theorem kl_g_X3_close : GoodIn lw_tbl (wsV RL 81 RX3 yX3_close wsX3_close) := goodIn_r _ [229, 230, 231, 14, 232, 233, 235, 3, 14, 236, 213, 215, 2, 216, 88, 217, 218, 219, 17, 220, 77, 237, 238, 239, 240, 89, 91, 93, 79, 81, 83] rfl (by decide +kernel)
set_option maxRecDepth 20000 in
theorem kl_g_X4_close : GoodIn lw_tbl (wsV RL 84 RX4 yX4_close wsX4_close) := goodIn_r _ [535, 536, 537, 18, 538, 438, 443, 539, 541, 11, 18, 542, 445, 447, 449, 451, 453, 455, 457] rfl (by decide +kernel)
set_option maxRecDepth 20000 in
theorem kl_g_L_seek : GoodIn lw_tbl (va_wsS RL 85 yL_seek wsL_seek) := goodIn_r _ [405, 406, 13, 407, 277, 278, 408, 409, 410, 14, 411, 283, 22, 359, 24, 100, 101, 102, 233, 235, 3, 236, 213, 215, 2, 216, 88, 217, 218, 219, 17, 220, 77, 103, 104, 105, 106, 413, 414, 415, 416, 76, 78, 417, 108, 109, 15, 110, 45, 42, 43, 111, 112, 23, 113, 114, 115, 116, 117, 418, 123, 124, 125, 89, 91, 93, 79, 81, 83, 46, 48, 50, 52, 19, 305, 314, 318, 321, 323, 306, 307, 34, 35, 308, 313, 319, 339, 295, 340, 297, 341, 299, 309, 311, 301, 335, 336, 338, 301, 326, 327, 328, 329, 329, 330, 331, 332, 332, 333, 334, 335, 325, 284, 292, 293, 294, 296, 298, 300, 304, 303, 302, 19, 305, 314, 318, 321, 323, 306, 307, 34, 35, 308, 313, 319, 339, 295, 340, 297, 341, 299, 309, 311, 301, 335, 336, 338, 301, 370, 371, 372, 329, 329, 330, 331, 332, 332, 333, 334, 335, 369, 360, 362, 316, 363, 364, 365, 366, 304, 303, 367] rfl (by decide +kernel)
set_option maxRecDepth 20000 in
theorem kl_g_X4_seek : GoodIn lw_tbl (wsV RL 88 RX4 yX4_seek wsX4_seek) := goodIn_r _ [543, 544, 545, 18, 546, 438, 444, 439, 539, 541, 11, 18, 542, 443, 469, 470, 471, 472, 474, 5, 475, 476, 478, 6, 479, 440, 441, 480, 445, 447, 449, 451, 453, 455, 457] rfl (by decide +kernel)
set_option maxRecDepth 20000 in
theorem kl_g_L_next : GoodIn lw_tbl (va_wsS RL 89 yL_next wsL_next) := goodIn_r _ [419, 420, 13, 421, 278, 422, 423, 424, 14, 425, 359, 24, 233, 235, 3, 236, 213, 215, 2, 216, 88, 217, 218, 219, 17, 220, 77, 426, 427, 428, 429, 78, 76, 431, 157, 27, 158, 430, 135, 136, 15, 137, 45, 418, 123, 124, 125, 89, 91, 93, 79, 81, 83, 46, 48, 50, 52, 19, 305, 314, 318, 321, 323, 306, 307, 34, 35, 308, 313, 319, 339, 295, 340, 297, 341, 299, 309, 311, 301, 335, 336, 338, 301, 370, 371, 372, 329, 329, 330, 331, 332, 332, 333, 334, 335, 369, 360, 362, 316, 363, 364, 365, 366, 304, 303, 367] rfl (by decide +kernel)
set_option maxRecDepth 20000 in
theorem kl_g_X4_next : GoodIn lw_tbl (wsV RL 92 RX4 yX4_next wsX4_next) := goodIn_r _ [547, 548, 549, 18, 550, 438, 444, 439, 539, 541, 11, 18, 542, 443, 445, 447, 449, 451, 453, 455, 457] rfl (by decide +kernel)
set_option maxRecDepth 20000 in
theorem kl_g_X3_key : GoodIn lw_tbl (wsV RL 93 RX3 yX3_key wsX3_key) := goodIn_r _ [241, 242, 243, 14, 244, 233, 235, 3, 14, 236, 213, 215, 2, 216, 88, 217, 218, 219, 17, 220, 77, 245, 246, 247, 248, 76, 78, 249, 250, 251, 15, 252, 42, 122, 123, 124, 125, 45, 89, 91, 93, 79, 81, 83, 46, 48, 50, 52] rfl (by decide +kernel)
set_option maxRecDepth 20000 in
theorem kl_g_X4_key : GoodIn lw_tbl (wsV RL 97 RX4 yX4_key wsX4_key) := goodIn_r _ [551, 552, 553, 18, 554, 438, 440, 555, 557, 12, 18, 558, 444, 439, 539, 541, 11, 542, 443, 445, 447, 449, 451, 453, 455, 457] rfl (by decide +kernel)
set_option maxRecDepth 20000 in
theorem kl_g_X3_length : GoodIn lw_tbl (wsV RL 98 RX3 yX3_length wsX3_length) := goodIn_r _ [253, 254, 255, 14, 256, 233, 235, 3, 14, 236, 213, 215, 2, 216, 88, 217, 218, 219, 17, 220, 77, 257, 258, 259, 260, 76, 78, 261, 187, 188, 15, 189, 43, 122, 123, 124, 125, 45, 89, 91, 93, 79, 81, 83, 46, 48, 50, 52] rfl (by decide +kernel)
set_option maxRecDepth 20000 in
theorem kl_g_X4_length : GoodIn lw_tbl (wsV RL 101 RX4 yX4_length wsX4_length) := goodIn_r _ [559, 560, 561, 18, 562, 438, 441, 555, 557, 12, 18, 558, 444, 439, 539, 541, 11, 542, 443, 445, 447, 449, 451, 453, 455, 457] rfl (by decide +kernel)
set_option maxRecDepth 20000 in
theorem kl_g_X3_value : GoodIn lw_tbl (wsV RL 102 RX3 yX3_value wsX3_value) := goodIn_r _ [262, 263, 264, 14, 265, 233, 235, 3, 14, 236, 213, 215, 2, 216, 88, 217, 218, 219, 17, 220, 77, 266, 267, 268, 269, 76, 78, 270, 271, 272, 15, 273, 44, 122, 123, 124, 125, 45, 89, 91, 93, 79, 81, 83, 46, 48, 50, 52] rfl (by decide +kernel)
set_option maxRecDepth 20000 in
theorem kl_g_X4_value : GoodIn lw_tbl (wsV RL 105 RX4 yX4_value wsX4_value) := goodIn_r _ [563, 564, 565, 18, 566, 438, 442, 555, 557, 12, 18, 558, 444, 439, 539, 541, 11, 542, 443, 445, 447, 449, 451, 453, 455, 457] rfl (by decide +kernel)
set_option maxRecDepth 20000 in
theorem kl_g_L_get : GoodIn lw_tbl (va_wsS RL 47 yL_get kwL_get) := goodIn_r _ [380, 381, 13, 382, 277, 383, 384, 385, 386, 14, 387, 283, 22, 388, 25, 86, 100, 101, 102, 103, 104, 105, 106, 107, 108, 109, 15, 110, 45, 42, 43, 111, 112, 23, 113, 114, 115, 116, 117, 118, 119, 120, 121, 122, 123, 124, 125, 404, 271, 272, 273, 44, 89, 91, 93, 46, 48, 50, 52, 19, 305, 314, 318, 321, 323, 306, 307, 34, 35, 308, 313, 319, 339, 295, 340, 297, 341, 299, 309, 311, 301, 335, 336, 338, 301, 326, 327, 328, 329, 329, 330, 331, 332, 332, 333, 334, 335, 325, 284, 292, 293, 294, 296, 298, 300, 304, 303, 302, 19, 305, 314, 318, 321, 323, 306, 307, 34, 35, 308, 313, 319, 339, 295, 340, 297, 341, 299, 309, 311, 301, 335, 336, 338, 301, 399, 400, 401, 329, 329, 330, 331, 332, 332, 333, 334, 335, 398, 389, 391, 317, 392, 393, 394, 395, 304, 303, 396] rfl (by decide +kernel)
theorem kl_w35 : Cond.constantLong RL 35 4294967295 ∈ lw_tbl := List.mem_of_getElem? (i := 567) (by decide +kernel)
theorem kl_t28 : Cond.classLink RL 8 RX3 ∈ lw_tbl := List.mem_of_getElem? (i := 28) (by decide +kernel)
theorem kl_t29 : Cond.instantiable RX3 3 ∈ lw_tbl := List.mem_of_getElem? (i := 29) (by decide +kernel)
theorem kl_t14 : Cond.initialized RX3 ∈ lw_tbl := List.mem_of_getElem? (i := 14) (by decide +kernel)
theorem kl_t432 : Cond.classLink RL 32 RX4 ∈ lw_tbl := List.mem_of_getElem? (i := 432) (by decide +kernel)
theorem kl_t433 : Cond.instantiable RX4 7 ∈ lw_tbl := List.mem_of_getElem? (i := 433) (by decide +kernel)
theorem kl_t18 : Cond.initialized RX4 ∈ lw_tbl := List.mem_of_getElem? (i := 18) (by decide +kernel)
theorem kl_t55 : Cond.arrayClass .long ∈ lw_tbl := List.mem_of_getElem? (i := 55) (by decide +kernel)
theorem kl_t56 : Cond.arrayClass .int ∈ lw_tbl := List.mem_of_getElem? (i := 56) (by decide +kernel)
theorem kl_t460 : Cond.arrayClass .boolean ∈ lw_tbl := List.mem_of_getElem? (i := 460) (by decide +kernel)
theorem kl_t31 : Cond.instanceMethod yX3_init ∈ lw_tbl := List.mem_of_getElem? (i := 31) (by decide +kernel)
theorem kl_t30 : Cond.methodLink RL 31 yX3_init ∈ lw_tbl := List.mem_of_getElem? (i := 30) (by decide +kernel)
theorem kl_t434 : Cond.methodLink RL 34 yX4_init ∈ lw_tbl := List.mem_of_getElem? (i := 434) (by decide +kernel)
theorem kl_t435 : Cond.instanceMethod yX4_init ∈ lw_tbl := List.mem_of_getElem? (i := 435) (by decide +kernel)
theorem kl_t58 : Cond.instantiable RX0 1 ∈ lw_tbl := List.mem_of_getElem? (i := 58) (by decide +kernel)
theorem kl_t37 : Cond.instantiable RX1 4 ∈ lw_tbl := List.mem_of_getElem? (i := 37) (by decide +kernel)
theorem kl_t69 : Cond.instantiable RX2 3 ∈ lw_tbl := List.mem_of_getElem? (i := 69) (by decide +kernel)
theorem kl_t68 : Cond.arrayOver (.object "ForkStore$Reader") ∈ lw_tbl := List.mem_of_getElem? (i := 68) (by decide +kernel)
theorem kl_t146 : Cond.methodLinkNest RX1 36 yX3_bytesInCommon RX3 ∈ lw_tbl := List.mem_of_getElem? (i := 146) (by decide +kernel)
theorem kl_t38 : Cond.methodLinkNest RX3 9 yX1_init RX3 ∈ lw_tbl := List.mem_of_getElem? (i := 38) (by decide +kernel)
theorem kl_t59 : Cond.methodLinkNest RX3 18 yX0_init RX3 ∈ lw_tbl := List.mem_of_getElem? (i := 59) (by decide +kernel)
theorem kl_t70 : Cond.methodLinkNest RX3 29 yX2_init RX3 ∈ lw_tbl := List.mem_of_getElem? (i := 70) (by decide +kernel)
theorem kl_t75 : Cond.methodLinkNest RX2 11 yX1_init RX3 ∈ lw_tbl := List.mem_of_getElem? (i := 75) (by decide +kernel)
theorem kl_t324 : Cond.stringRef RX3 36 "a key has 0 to 8 bytes" ∈ lw_tbl := List.mem_of_getElem? (i := 324) (by decide +kernel)
theorem kl_t368 : Cond.stringRef RX3 63 "120 keys have values" ∈ lw_tbl := List.mem_of_getElem? (i := 368) (by decide +kernel)
theorem kl_t397 : Cond.stringRef RX3 72 "the key has no value" ∈ lw_tbl := List.mem_of_getElem? (i := 397) (by decide +kernel)
theorem kl_t412 : Cond.stringRef RX3 114 "the reader is not open" ∈ lw_tbl := List.mem_of_getElem? (i := 412) (by decide +kernel)
theorem kl_t285 : Cond.castable "java/lang/IllegalArgumentException" "java/lang/IllegalArgumentException" ∈ lw_tbl := List.mem_of_getElem? (i := 285) (by decide +kernel)
theorem kl_t361 : Cond.castable "java/lang/IllegalStateException" "java/lang/IllegalStateException" ∈ lw_tbl := List.mem_of_getElem? (i := 361) (by decide +kernel)
theorem kl_t390 : Cond.castable "java/util/NoSuchElementException" "java/util/NoSuchElementException" ∈ lw_tbl := List.mem_of_getElem? (i := 390) (by decide +kernel)
theorem kl_t287 : Cond.declares (Bundle.initS "java/lang/RuntimeException") ∈ lw_tbl := List.mem_of_getElem? (i := 287) (by decide +kernel)
theorem kl_t289 : Cond.declares (Bundle.initS "java/lang/Exception") ∈ lw_tbl := List.mem_of_getElem? (i := 289) (by decide +kernel)
theorem kl_t291 : Cond.declares (Bundle.initS Bundle.tN) ∈ lw_tbl := List.mem_of_getElem? (i := 291) (by decide +kernel)
theorem kl_t310 : Cond.laysStatic Bundle.tN "UNASSIGNED_STACK" Bundle.steD ∈ lw_tbl := List.mem_of_getElem? (i := 310) (by decide +kernel)
theorem kl_t312 : Cond.laysStatic Bundle.tN "SUPPRESSED_SENTINEL" Bundle.listD ∈ lw_tbl := List.mem_of_getElem? (i := 312) (by decide +kernel)
theorem kl_t19 : Cond.initialized Bundle.tN ∈ lw_tbl := List.mem_of_getElem? (i := 19) (by decide +kernel)
theorem kl_iX0 : ∀ w ∈ wsX00, w ∈ lw_tbl := fun w h => (goodIn_r wsX00 [64] (by decide +kernel) (by decide +kernel) w h).1
theorem kl_iX1 : ∀ w ∈ wsX10, w ∈ lw_tbl := fun w h => (goodIn_r wsX10 [46, 48, 50, 52] (by decide +kernel) (by decide +kernel) w h).1
theorem kl_iX2 : ∀ w ∈ wsX20, w ∈ lw_tbl := fun w h => (goodIn_r wsX20 [79, 81, 83] (by decide +kernel) (by decide +kernel) w h).1
theorem kl_iX3 : ∀ w ∈ wsX30, w ∈ lw_tbl := fun w h => (goodIn_r wsX30 [89, 91, 93] (by decide +kernel) (by decide +kernel) w h).1
theorem kl_iX4 : ∀ w ∈ wsX40, w ∈ lw_tbl := fun w h => (goodIn_r wsX40 [445, 447, 449, 451, 453, 455, 457] (by decide +kernel) (by decide +kernel) w h).1
