set_option maxRecDepth 20000 in
theorem ggL_law_X11_init : GoodIn wsL_law wsX11_init := goodIn_r _ [8, 9, 10, 11, 12, 13, 14, 15, 16, 17, 18, 19, 20, 21, 22, 23, 24, 25, 26, 27, 28, 29, 30, 31, 32, 33, 34, 35, 36, 37, 38, 39, 40, 41, 42, 43, 44, 45, 46, 47, 48, 49, 50, 51, 52, 53, 54, 55, 56, 57, 58, 59, 60, 61, 62, 63, 64, 65, 66, 67, 68, 69, 70, 71, 72, 73, 74, 75, 76, 77, 78, 79, 80, 81, 82, 83, 84, 85, 86, 87, 88, 89, 90, 91, 92, 93, 94, 95, 96, 97, 98, 824, 825, 826, 827, 828, 829, 830, 795, 796, 797, 798, 799, 800, 801, 802, 803, 804, 805, 831, 832, 833, 834, 835, 836, 837, 838, 839, 840, 841, 842, 843, 844, 845, 846, 847, 848, 849, 850, 851, 852, 853, 854, 855, 856] (by decide +kernel) (by decide +kernel)
set_option maxRecDepth 20000 in
theorem gL_law_X11_init : GoodIn wsL_law (wsX11_init) := ggL_law_X11_init
set_option maxRecDepth 20000 in
theorem ggL_law_X12_init : GoodIn wsL_law wsX12_init := goodIn_r _ [101, 102, 10, 11, 57, 103, 104, 105, 106, 107, 84, 108, 109, 110, 111, 112, 113, 114, 115, 116, 5, 117, 118, 119, 120, 121, 122, 123, 124, 125, 126, 127, 128, 129, 130, 131, 132, 133, 134, 135, 136, 137, 138, 139, 140, 141, 142, 143, 144, 145, 146, 147, 148, 149, 150, 151, 152, 806, 807, 808, 809, 810, 811, 812, 813, 814, 815, 816, 817, 818, 819, 820, 821, 822, 823] (by decide +kernel) (by decide +kernel)
set_option maxRecDepth 20000 in
theorem gL_law_X12_init : GoodIn wsL_law (wsX12_init) := ggL_law_X12_init
set_option maxRecDepth 20000 in
theorem ggL_law_X11_type : GoodIn wsL_law wsX11_type := goodIn_r _ [156, 15, 157, 158, 159, 2, 160, 161, 162, 163, 14, 164, 165, 58, 795, 796, 797, 798, 799, 800, 801, 802, 803, 804, 805, 824, 825, 826, 827, 828, 829, 830] (by decide +kernel) (by decide +kernel)
set_option maxRecDepth 20000 in
theorem gL_law_X11_type : GoodIn wsL_law (wsV RL 13 RX11 yX11_type wsX11_type) := goodIn_app (goodIn_of _ (by decide +kernel)) ggL_law_X11_type
set_option maxRecDepth 20000 in
theorem ggL_law_X12_type : GoodIn wsL_law wsX12_type := goodIn_r _ [169, 130, 103, 134, 135, 5, 136, 806, 807, 808, 809, 810, 811, 812, 813, 814, 815, 816, 817, 818, 819, 820, 821, 822, 823] (by decide +kernel) (by decide +kernel)
set_option maxRecDepth 20000 in
theorem gL_law_X12_type : GoodIn wsL_law (wsV RL 17 RX12 yX12_type wsX12_type) := goodIn_app (goodIn_of _ (by decide +kernel)) ggL_law_X12_type
set_option maxRecDepth 20000 in
theorem ggL_law_X11_clear : GoodIn wsL_law wsX11_clear := goodIn_r _ [173, 15, 157, 795, 796, 797, 798, 799, 800, 801, 802, 803, 804, 805, 824, 825, 826, 827, 828, 829, 830] (by decide +kernel) (by decide +kernel)
set_option maxRecDepth 20000 in
theorem gL_law_X11_clear : GoodIn wsL_law (wsV RL 18 RX11 yX11_clear wsX11_clear) := goodIn_app (goodIn_of _ (by decide +kernel)) ggL_law_X11_clear
set_option maxRecDepth 20000 in
theorem ggL_law_X12_clear : GoodIn wsL_law wsX12_clear := goodIn_r _ [177, 130, 806, 807, 808, 809, 810, 811, 812, 813, 814, 815, 816, 817, 818, 819, 820, 821, 822, 823] (by decide +kernel) (by decide +kernel)
set_option maxRecDepth 20000 in
theorem gL_law_X12_clear : GoodIn wsL_law (wsV RL 22 RX12 yX12_clear wsX12_clear) := goodIn_app (goodIn_of _ (by decide +kernel)) ggL_law_X12_clear
set_option maxRecDepth 20000 in
theorem ggL_law_X11_piece : GoodIn wsL_law wsX11_piece := goodIn_r _ [181, 15, 20, 182, 19, 24, 30, 183, 184, 157, 185, 186, 187, 14, 188, 59, 189, 190, 191, 192, 193, 18, 194, 195, 196, 197, 198, 199, 200, 201, 202, 203, 165, 204, 205, 206, 207, 208, 58, 159, 2, 160, 209, 210, 211, 212, 213, 214, 215, 216, 217, 218, 219, 220, 221, 222, 223, 224, 225, 226, 227, 228, 229, 230, 231, 232, 233, 234, 235, 236, 237, 238, 239, 240, 63, 64, 65, 241, 242, 243, 244, 245, 246, 247, 248, 249, 250, 251, 252, 253, 254, 255, 256, 66, 257, 258, 259, 260, 261, 262, 263, 264, 265, 266, 267, 268, 269, 270, 271, 23, 272, 273, 274, 275, 276, 277, 278, 795, 796, 797, 798, 799, 800, 801, 802, 803, 804, 805, 824, 825, 826, 827, 828, 829, 830, 847, 848, 849, 850, 851, 852, 853, 831, 832, 833, 834, 835, 836, 837, 838, 839, 840, 841, 842, 843, 844, 845, 846] (by decide +kernel) (by decide +kernel)
set_option maxRecDepth 20000 in
theorem gL_law_X11_piece : GoodIn wsL_law (wsV RL 23 RX11 yX11_piece wsX11_piece) := goodIn_app (goodIn_of _ (by decide +kernel)) ggL_law_X11_piece
set_option maxRecDepth 20000 in
theorem ggL_law_X12_piece : GoodIn wsL_law wsX12_piece := goodIn_r _ [282, 124, 130, 104, 114, 115, 116, 5, 117, 105, 118, 119, 120, 121, 122, 123, 125, 103, 126, 127, 128, 129, 131, 132, 133, 134, 135, 136, 137, 138, 139, 140, 141, 142, 143, 144, 145, 146, 147, 148, 149, 150, 151, 106, 152, 108, 806, 807, 808, 809, 810, 811, 812, 813, 814, 815, 816, 817, 818, 819, 820, 821, 822, 823] (by decide +kernel) (by decide +kernel)
set_option maxRecDepth 20000 in
theorem gL_law_X12_piece : GoodIn wsL_law (wsV RL 26 RX12 yX12_piece wsX12_piece) := goodIn_app (goodIn_of _ (by decide +kernel)) ggL_law_X12_piece
set_option maxRecDepth 20000 in
theorem ggL_law_X11_section : GoodIn wsL_law wsX11_section := goodIn_r _ [286, 19, 24, 287, 288, 289, 246, 247, 18, 248, 195, 290, 242, 243, 244, 63, 245, 291, 292, 293, 294, 64, 295, 296, 297, 298, 65, 299, 300, 2, 301, 302, 303, 304, 305, 306, 307, 308, 309, 310, 311, 312, 313, 314, 315, 316, 317, 318, 319, 320, 197, 198, 321, 795, 796, 797, 798, 799, 800, 801, 802, 803, 804, 805, 840, 841, 842, 843, 844, 845, 846, 831, 832, 833, 834, 835, 836, 837, 838, 839] (by decide +kernel) (by decide +kernel)
set_option maxRecDepth 20000 in
theorem gL_law_X11_section : GoodIn wsL_law (wsV RL 27 RX11 yX11_section wsX11_section) := goodIn_app (goodIn_of _ (by decide +kernel)) ggL_law_X11_section
set_option maxRecDepth 20000 in
theorem ggL_law_X12_section : GoodIn wsL_law wsX12_section := goodIn_r _ [325, 104, 106, 326, 327, 328, 5, 329, 134, 135, 136, 330, 331, 332, 333, 334, 335, 336, 337, 338, 339, 340, 341, 342, 343, 344, 345, 346, 347, 348, 806, 807, 808, 809, 810, 811, 812, 813, 814, 815, 816, 817, 818, 819, 820, 821, 822, 823] (by decide +kernel) (by decide +kernel)
set_option maxRecDepth 20000 in
theorem gL_law_X12_section : GoodIn wsL_law (wsV RL 31 RX12 yX12_section wsX12_section) := goodIn_app (goodIn_of _ (by decide +kernel)) ggL_law_X12_section
set_option maxRecDepth 20000 in
theorem ggL_law_X11_thing : GoodIn wsL_law wsX11_thing := goodIn_r _ [352, 19, 353, 354, 355, 18, 356, 196, 357, 358, 359, 360, 66, 361, 795, 796, 797, 798, 799, 800, 801, 802, 803, 804, 805, 831, 832, 833, 834, 835, 836, 837, 838, 839] (by decide +kernel) (by decide +kernel)
set_option maxRecDepth 20000 in
theorem gL_law_X11_thing : GoodIn wsL_law (wsV RL 32 RX11 yX11_thing wsX11_thing) := goodIn_app (goodIn_of _ (by decide +kernel)) ggL_law_X11_thing
set_option maxRecDepth 20000 in
theorem ggL_law_X12_thing : GoodIn wsL_law wsX12_thing := goodIn_r _ [365, 104, 134, 135, 5, 136, 806, 807, 808, 809, 810, 811, 812, 813, 814, 815, 816, 817, 818, 819, 820, 821, 822, 823] (by decide +kernel) (by decide +kernel)
set_option maxRecDepth 20000 in
theorem gL_law_X12_thing : GoodIn wsL_law (wsV RL 35 RX12 yX12_thing wsX12_thing) := goodIn_app (goodIn_of _ (by decide +kernel)) ggL_law_X12_thing
set_option maxRecDepth 20000 in
theorem ggL_law_X11_bar : GoodIn wsL_law wsX11_bar := goodIn_r _ [369, 19, 24, 287, 158, 159, 2, 160, 370, 371, 372, 18, 373, 195, 300, 301, 309, 310, 311, 312, 63, 64, 245, 246, 247, 248, 290, 242, 243, 244, 305, 306, 307, 308, 295, 296, 297, 298, 65, 795, 796, 797, 798, 799, 800, 801, 802, 803, 804, 805, 840, 841, 842, 843, 844, 845, 846, 831, 832, 833, 834, 835, 836, 837, 838, 839] (by decide +kernel) (by decide +kernel)
set_option maxRecDepth 20000 in
theorem gL_law_X11_bar : GoodIn wsL_law (wsV RL 36 RX11 yX11_bar wsX11_bar) := goodIn_app (goodIn_of _ (by decide +kernel)) ggL_law_X11_bar
set_option maxRecDepth 20000 in
theorem ggL_law_X12_bar : GoodIn wsL_law wsX12_bar := goodIn_r _ [377, 104, 134, 135, 5, 136, 378, 379, 380, 381, 106, 334, 335, 336, 330, 331, 332, 333, 337, 338, 339, 340, 341, 342, 343, 344, 806, 807, 808, 809, 810, 811, 812, 813, 814, 815, 816, 817, 818, 819, 820, 821, 822, 823] (by decide +kernel) (by decide +kernel)
set_option maxRecDepth 20000 in
theorem gL_law_X12_bar : GoodIn wsL_law (wsV RL 39 RX12 yX12_bar wsX12_bar) := goodIn_app (goodIn_of _ (by decide +kernel)) ggL_law_X12_bar
set_option maxRecDepth 20000 in
theorem ggL_law_X11_bars : GoodIn wsL_law wsX11_bars := goodIn_r _ [385, 24, 288, 19, 287, 386, 387, 158, 159, 2, 160, 388, 389, 390, 18, 391, 195, 321, 306, 307, 308, 300, 301, 309, 310, 311, 312, 63, 64, 245, 246, 247, 248, 392, 393, 394, 23, 395, 278, 70, 396, 266, 267, 268, 273, 274, 275, 276, 277, 303, 304, 397, 398, 399, 400, 199, 317, 318, 319, 320, 197, 198, 401, 242, 243, 244, 795, 796, 797, 798, 799, 800, 801, 802, 803, 804, 805, 840, 841, 842, 843, 844, 845, 846, 831, 832, 833, 834, 835, 836, 837, 838, 839] (by decide +kernel) (by decide +kernel)
set_option maxRecDepth 20000 in
theorem gL_law_X11_bars : GoodIn wsL_law (wsV RL 40 RX11 yX11_bars wsX11_bars) := goodIn_app (goodIn_of _ (by decide +kernel)) ggL_law_X11_bars
set_option maxRecDepth 20000 in
theorem ggL_law_X12_bars : GoodIn wsL_law wsX12_bars := goodIn_r _ [405, 106, 134, 135, 5, 136, 406, 407, 408, 409, 104, 337, 338, 339, 340, 334, 335, 336, 341, 342, 343, 344, 410, 411, 412, 413, 414, 415, 416, 417, 806, 807, 808, 809, 810, 811, 812, 813, 814, 815, 816, 817, 818, 819, 820, 821, 822, 823] (by decide +kernel) (by decide +kernel)
set_option maxRecDepth 20000 in
theorem gL_law_X12_bars : GoodIn wsL_law (wsV RL 43 RX12 yX12_bars wsX12_bars) := goodIn_app (goodIn_of _ (by decide +kernel)) ggL_law_X12_bars
set_option maxRecDepth 20000 in
theorem ggL_law_X11_slips : GoodIn wsL_law wsX11_slips := goodIn_r _ [421, 422, 24, 386, 158, 159, 2, 160, 392, 393, 394, 23, 395, 278, 70, 396, 266, 267, 268, 273, 274, 275, 276, 277, 303, 304, 795, 796, 797, 798, 799, 800, 801, 802, 803, 804, 805, 840, 841, 842, 843, 844, 845, 846] (by decide +kernel) (by decide +kernel)
set_option maxRecDepth 20000 in
theorem gL_law_X11_slips : GoodIn wsL_law (wsV RL 44 RX11 yX11_slips wsX11_slips) := goodIn_app (goodIn_of _ (by decide +kernel)) ggL_law_X11_slips
set_option maxRecDepth 20000 in
theorem ggL_law_X12_slips : GoodIn wsL_law wsX12_slips := goodIn_r _ [426, 427, 106, 134, 135, 5, 136, 410, 411, 412, 413, 806, 807, 808, 809, 810, 811, 812, 813, 814, 815, 816, 817, 818, 819, 820, 821, 822, 823] (by decide +kernel) (by decide +kernel)
set_option maxRecDepth 20000 in
theorem gL_law_X12_slips : GoodIn wsL_law (wsV RL 47 RX12 yX12_slips wsX12_slips) := goodIn_app (goodIn_of _ (by decide +kernel)) ggL_law_X12_slips
set_option maxRecDepth 20000 in
theorem ggL_law_X11_cue : GoodIn wsL_law wsX11_cue := goodIn_r _ [431, 19, 24, 288, 287, 422, 386, 432, 433, 434, 18, 435, 436, 371, 372, 373, 195, 300, 2, 301, 309, 310, 311, 312, 63, 64, 245, 246, 247, 248, 321, 306, 307, 308, 289, 392, 393, 394, 23, 395, 278, 70, 396, 266, 267, 268, 273, 274, 275, 276, 277, 303, 304, 295, 296, 297, 298, 65, 437, 438, 439, 440, 441, 442, 443, 220, 444, 445, 795, 796, 797, 798, 799, 800, 801, 802, 803, 804, 805, 840, 841, 842, 843, 844, 845, 846, 831, 832, 833, 834, 835, 836, 837, 838, 839] (by decide +kernel) (by decide +kernel)
set_option maxRecDepth 20000 in
theorem gL_law_X11_cue : GoodIn wsL_law (wsV RL 48 RX11 yX11_cue wsX11_cue) := goodIn_app (goodIn_of _ (by decide +kernel)) ggL_law_X11_cue
set_option maxRecDepth 20000 in
theorem ggL_law_X12_cue : GoodIn wsL_law wsX12_cue := goodIn_r _ [449, 104, 106, 427, 330, 331, 332, 5, 333, 334, 335, 336, 337, 338, 339, 340, 341, 342, 343, 344, 410, 411, 412, 413, 450, 451, 452, 806, 807, 808, 809, 810, 811, 812, 813, 814, 815, 816, 817, 818, 819, 820, 821, 822, 823] (by decide +kernel) (by decide +kernel)
set_option maxRecDepth 20000 in
theorem gL_law_X12_cue : GoodIn wsL_law (wsV RL 51 RX12 yX12_cue wsX12_cue) := goodIn_app (goodIn_of _ (by decide +kernel)) ggL_law_X12_cue
set_option maxRecDepth 20000 in
theorem ggL_law_X11_cuts : GoodIn wsL_law wsX11_cuts := goodIn_r _ [456, 19, 24, 287, 288, 289, 246, 247, 18, 248, 195, 313, 314, 315, 316, 300, 2, 301, 317, 318, 319, 320, 197, 198, 321, 306, 307, 308, 309, 310, 311, 312, 63, 64, 245, 392, 393, 394, 23, 395, 278, 70, 396, 266, 267, 268, 273, 274, 275, 276, 277, 303, 304, 388, 389, 390, 391, 795, 796, 797, 798, 799, 800, 801, 802, 803, 804, 805, 840, 841, 842, 843, 844, 845, 846, 831, 832, 833, 834, 835, 836, 837, 838, 839] (by decide +kernel) (by decide +kernel)
set_option maxRecDepth 20000 in
theorem gL_law_X11_cuts : GoodIn wsL_law (wsV RL 52 RX11 yX11_cuts wsX11_cuts) := goodIn_app (goodIn_of _ (by decide +kernel)) ggL_law_X11_cuts
set_option maxRecDepth 20000 in
theorem ggL_law_X12_cuts : GoodIn wsL_law wsX12_cuts := goodIn_r _ [460, 106, 326, 327, 328, 5, 329, 104, 134, 135, 136, 345, 346, 347, 348, 334, 335, 336, 330, 331, 332, 333, 337, 338, 339, 340, 341, 342, 343, 344, 410, 411, 412, 413, 406, 407, 408, 409, 806, 807, 808, 809, 810, 811, 812, 813, 814, 815, 816, 817, 818, 819, 820, 821, 822, 823] (by decide +kernel) (by decide +kernel)
set_option maxRecDepth 20000 in
theorem gL_law_X12_cuts : GoodIn wsL_law (wsV RL 55 RX12 yX12_cuts wsX12_cuts) := goodIn_app (goodIn_of _ (by decide +kernel)) ggL_law_X12_cuts
set_option maxRecDepth 20000 in
theorem ggL_law_X11_waits : GoodIn wsL_law wsX11_waits := goodIn_r _ [464, 24, 465, 158, 159, 2, 160, 392, 393, 394, 23, 395, 278, 70, 396, 266, 267, 268, 273, 274, 275, 276, 277, 303, 304, 795, 796, 797, 798, 799, 800, 801, 802, 803, 804, 805, 840, 841, 842, 843, 844, 845, 846] (by decide +kernel) (by decide +kernel)
set_option maxRecDepth 20000 in
theorem gL_law_X11_waits : GoodIn wsL_law (wsV RL 56 RX11 yX11_waits wsX11_waits) := goodIn_app (goodIn_of _ (by decide +kernel)) ggL_law_X11_waits
set_option maxRecDepth 20000 in
theorem ggL_law_X12_waits : GoodIn wsL_law wsX12_waits := goodIn_r _ [469, 106, 134, 135, 5, 136, 410, 411, 412, 413, 806, 807, 808, 809, 810, 811, 812, 813, 814, 815, 816, 817, 818, 819, 820, 821, 822, 823] (by decide +kernel) (by decide +kernel)
set_option maxRecDepth 20000 in
theorem gL_law_X12_waits : GoodIn wsL_law (wsV RL 59 RX12 yX12_waits wsX12_waits) := goodIn_app (goodIn_of _ (by decide +kernel)) ggL_law_X12_waits
set_option maxRecDepth 20000 in
theorem ggL_law_X11_undo : GoodIn wsL_law wsX11_undo := goodIn_r _ [473, 24, 474, 475, 476, 477, 23, 478, 278, 70, 273, 274, 275, 276, 277, 795, 796, 797, 798, 799, 800, 801, 802, 803, 804, 805, 840, 841, 842, 843, 844, 845, 846] (by decide +kernel) (by decide +kernel)
set_option maxRecDepth 20000 in
theorem gL_law_X11_undo : GoodIn wsL_law (wsV RL 60 RX11 yX11_undo wsX11_undo) := goodIn_app (goodIn_of _ (by decide +kernel)) ggL_law_X11_undo
set_option maxRecDepth 20000 in
theorem ggL_law_X12_undo : GoodIn wsL_law wsX12_undo := goodIn_r _ [482, 106, 806, 807, 808, 809, 810, 811, 812, 813, 814, 815, 816, 817, 818, 819, 820, 821, 822, 823] (by decide +kernel) (by decide +kernel)
set_option maxRecDepth 20000 in
theorem gL_law_X12_undo : GoodIn wsL_law (wsV RL 63 RX12 yX12_undo wsX12_undo) := goodIn_app (goodIn_of _ (by decide +kernel)) ggL_law_X12_undo
set_option maxRecDepth 20000 in
theorem ggL_law_X11_now : GoodIn wsL_law wsX11_now := goodIn_r _ [486, 24, 288, 386, 465, 287, 387, 19, 487, 422, 302, 303, 2, 304, 388, 389, 390, 18, 391, 195, 321, 306, 307, 308, 300, 301, 309, 310, 311, 312, 63, 64, 245, 246, 247, 248, 397, 398, 399, 400, 199, 317, 318, 319, 320, 197, 198, 401, 242, 243, 244, 488, 489, 490, 491, 492, 493, 494, 495, 496, 314, 315, 316, 795, 796, 797, 798, 799, 800, 801, 802, 803, 804, 805, 840, 841, 842, 843, 844, 845, 846, 831, 832, 833, 834, 835, 836, 837, 838, 839] (by decide +kernel) (by decide +kernel)
set_option maxRecDepth 20000 in
theorem gL_law_X11_now : GoodIn wsL_law (wsV RL 64 RX11 yX11_now wsX11_now) := goodIn_app (goodIn_of _ (by decide +kernel)) ggL_law_X11_now
set_option maxRecDepth 20000 in
theorem ggL_law_X12_now : GoodIn wsL_law wsX12_now := goodIn_r _ [500, 104, 106, 427, 406, 407, 408, 5, 409, 337, 338, 339, 340, 334, 335, 336, 341, 342, 343, 344, 414, 415, 416, 417, 501, 502, 503, 504, 345, 346, 347, 348, 330, 331, 332, 333, 806, 807, 808, 809, 810, 811, 812, 813, 814, 815, 816, 817, 818, 819, 820, 821, 822, 823] (by decide +kernel) (by decide +kernel)
set_option maxRecDepth 20000 in
theorem gL_law_X12_now : GoodIn wsL_law (wsV RL 67 RX12 yX12_now wsX12_now) := goodIn_app (goodIn_of _ (by decide +kernel)) ggL_law_X12_now
set_option maxRecDepth 20000 in
theorem ggL_law_X11_trim : GoodIn wsL_law wsX11_trim := goodIn_r _ [508, 19, 487, 24, 287, 158, 159, 2, 160, 488, 489, 490, 491, 288, 492, 493, 494, 18, 495, 195, 496, 314, 315, 316, 300, 301, 317, 318, 319, 320, 197, 198, 321, 306, 307, 308, 309, 310, 311, 312, 63, 64, 245, 246, 247, 248, 509, 510, 511, 512, 513, 514, 515, 516, 517, 518, 519, 520, 398, 399, 400, 199, 401, 242, 243, 244, 795, 796, 797, 798, 799, 800, 801, 802, 803, 804, 805, 831, 832, 833, 834, 835, 836, 837, 838, 839, 840, 841, 842, 843, 844, 845, 846] (by decide +kernel) (by decide +kernel)
set_option maxRecDepth 20000 in
theorem gL_law_X11_trim : GoodIn wsL_law (wsV RL 68 RX11 yX11_trim wsX11_trim) := goodIn_app (goodIn_of _ (by decide +kernel)) ggL_law_X11_trim
set_option maxRecDepth 20000 in
theorem ggL_law_X12_trim : GoodIn wsL_law wsX12_trim := goodIn_r _ [524, 104, 106, 134, 135, 5, 136, 501, 502, 503, 504, 345, 346, 347, 348, 334, 335, 336, 330, 331, 332, 333, 337, 338, 339, 340, 341, 342, 343, 344, 414, 415, 416, 417, 525, 526, 527, 806, 807, 808, 809, 810, 811, 812, 813, 814, 815, 816, 817, 818, 819, 820, 821, 822, 823] (by decide +kernel) (by decide +kernel)
set_option maxRecDepth 20000 in
theorem gL_law_X12_trim : GoodIn wsL_law (wsV RL 71 RX12 yX12_trim wsX12_trim) := goodIn_app (goodIn_of _ (by decide +kernel)) ggL_law_X12_trim
set_option maxRecDepth 20000 in
theorem ggL_law_X11_odds : GoodIn wsL_law wsX11_odds := goodIn_r _ [531, 19, 487, 24, 287, 158, 159, 2, 160, 488, 489, 490, 491, 288, 492, 493, 494, 18, 495, 195, 496, 314, 315, 316, 300, 301, 317, 318, 319, 320, 197, 198, 321, 306, 307, 308, 309, 310, 311, 312, 63, 64, 245, 246, 247, 248, 532, 533, 534, 535, 520, 398, 399, 400, 199, 401, 242, 243, 244, 536, 537, 538, 539, 540, 541, 542, 543, 795, 796, 797, 798, 799, 800, 801, 802, 803, 804, 805, 831, 832, 833, 834, 835, 836, 837, 838, 839, 840, 841, 842, 843, 844, 845, 846] (by decide +kernel) (by decide +kernel)
set_option maxRecDepth 20000 in
theorem gL_law_X11_odds : GoodIn wsL_law (wsV RL 72 RX11 yX11_odds wsX11_odds) := goodIn_app (goodIn_of _ (by decide +kernel)) ggL_law_X11_odds
set_option maxRecDepth 20000 in
theorem ggL_law_X12_odds : GoodIn wsL_law wsX12_odds := goodIn_r _ [547, 104, 106, 134, 135, 5, 136, 501, 502, 503, 504, 345, 346, 347, 348, 334, 335, 336, 330, 331, 332, 333, 337, 338, 339, 340, 341, 342, 343, 344, 414, 415, 416, 417, 806, 807, 808, 809, 810, 811, 812, 813, 814, 815, 816, 817, 818, 819, 820, 821, 822, 823] (by decide +kernel) (by decide +kernel)
set_option maxRecDepth 20000 in
theorem gL_law_X12_odds : GoodIn wsL_law (wsV RL 76 RX12 yX12_odds wsX12_odds) := goodIn_app (goodIn_of _ (by decide +kernel)) ggL_law_X12_odds
set_option maxRecDepth 20000 in
theorem ggL_law_X11_hears : GoodIn wsL_law wsX11_hears := goodIn_r _ [551, 30, 183, 158, 159, 2, 160, 552, 553, 554, 29, 555, 556, 74, 75, 795, 796, 797, 798, 799, 800, 801, 802, 803, 804, 805, 847, 848, 849, 850, 851, 852, 853] (by decide +kernel) (by decide +kernel)
set_option maxRecDepth 20000 in
theorem gL_law_X11_hears : GoodIn wsL_law (wsV RL 77 RX11 yX11_hears wsX11_hears) := goodIn_app (goodIn_of _ (by decide +kernel)) ggL_law_X11_hears
set_option maxRecDepth 20000 in
theorem ggL_law_X12_hears : GoodIn wsL_law wsX12_hears := goodIn_r _ [560, 152, 109, 134, 135, 5, 136, 806, 807, 808, 809, 810, 811, 812, 813, 814, 815, 816, 817, 818, 819, 820, 821, 822, 823] (by decide +kernel) (by decide +kernel)
set_option maxRecDepth 20000 in
theorem gL_law_X12_hears : GoodIn wsL_law (wsV RL 80 RX12 yX12_hears wsX12_hears) := goodIn_app (goodIn_of _ (by decide +kernel)) ggL_law_X12_hears
set_option maxRecDepth 20000 in
theorem ggL_law_X11_forget : GoodIn wsL_law wsX11_forget := goodIn_r _ [564, 30, 183, 795, 796, 797, 798, 799, 800, 801, 802, 803, 804, 805, 847, 848, 849, 850, 851, 852, 853] (by decide +kernel) (by decide +kernel)
set_option maxRecDepth 20000 in
theorem gL_law_X11_forget : GoodIn wsL_law (wsV RL 81 RX11 yX11_forget wsX11_forget) := goodIn_app (goodIn_of _ (by decide +kernel)) ggL_law_X11_forget
set_option maxRecDepth 20000 in
theorem ggL_law_X12_forget : GoodIn wsL_law wsX12_forget := goodIn_r _ [568, 152, 806, 807, 808, 809, 810, 811, 812, 813, 814, 815, 816, 817, 818, 819, 820, 821, 822, 823] (by decide +kernel) (by decide +kernel)
set_option maxRecDepth 20000 in
theorem gL_law_X12_forget : GoodIn wsL_law (wsV RL 84 RX12 yX12_forget wsX12_forget) := goodIn_app (goodIn_of _ (by decide +kernel)) ggL_law_X12_forget
set_option maxRecDepth 20000 in
theorem ggL_law_X11_places : GoodIn wsL_law wsX11_places := goodIn_r _ [572, 30, 19, 24, 287, 158, 159, 2, 160, 573, 574, 575, 29, 576, 77, 577, 578, 579, 580, 581, 582, 76, 300, 301, 583, 310, 311, 18, 312, 63, 64, 245, 246, 247, 248, 195, 584, 296, 297, 298, 65, 585, 586, 587, 588, 556, 74, 75, 303, 304, 589, 590, 591, 592, 593, 594, 595, 596, 597, 219, 220, 221, 598, 599, 600, 601, 602, 603, 604, 795, 796, 797, 798, 799, 800, 801, 802, 803, 804, 805, 840, 841, 842, 843, 844, 845, 846, 847, 848, 849, 850, 851, 852, 853, 831, 832, 833, 834, 835, 836, 837, 838, 839] (by decide +kernel) (by decide +kernel)
set_option maxRecDepth 20000 in
theorem gL_law_X11_places : GoodIn wsL_law (wsV RL 85 RX11 yX11_places wsX11_places) := goodIn_app (goodIn_of _ (by decide +kernel)) ggL_law_X11_places
set_option maxRecDepth 20000 in
theorem ggL_law_X12_places : GoodIn wsL_law wsX12_places := goodIn_r _ [608, 134, 135, 5, 136, 609, 610, 611, 612, 613, 614, 615, 616, 104, 106, 110, 341, 342, 343, 344, 334, 335, 336, 406, 407, 408, 409, 337, 338, 339, 340, 617, 618, 619, 620, 152, 109, 806, 807, 808, 809, 810, 811, 812, 813, 814, 815, 816, 817, 818, 819, 820, 821, 822, 823] (by decide +kernel) (by decide +kernel)
set_option maxRecDepth 20000 in
theorem gL_law_X12_places : GoodIn wsL_law (wsV RL 88 RX12 yX12_places wsX12_places) := goodIn_app (goodIn_of _ (by decide +kernel)) ggL_law_X12_places
set_option maxRecDepth 20000 in
theorem ggL_law_X11_listen : GoodIn wsL_law wsX11_listen := goodIn_r _ [624, 30, 19, 24, 287, 573, 574, 575, 29, 576, 77, 577, 578, 579, 580, 581, 582, 76, 300, 2, 301, 583, 310, 311, 18, 312, 63, 64, 245, 246, 247, 248, 195, 584, 296, 297, 298, 65, 585, 586, 587, 588, 556, 74, 75, 303, 304, 589, 590, 591, 592, 593, 594, 595, 596, 597, 219, 220, 221, 598, 599, 600, 625, 626, 627, 628, 629, 630, 631, 632, 78, 159, 160, 633, 795, 796, 797, 798, 799, 800, 801, 802, 803, 804, 805, 840, 841, 842, 843, 844, 845, 846, 847, 848, 849, 850, 851, 852, 853, 831, 832, 833, 834, 835, 836, 837, 838, 839] (by decide +kernel) (by decide +kernel)
set_option maxRecDepth 20000 in
theorem gL_law_X11_listen : GoodIn wsL_law (wsV RL 89 RX11 yX11_listen wsX11_listen) := goodIn_app (goodIn_of _ (by decide +kernel)) ggL_law_X11_listen
set_option maxRecDepth 20000 in
theorem ggL_law_X12_listen : GoodIn wsL_law wsX12_listen := goodIn_r _ [637, 111, 110, 609, 610, 611, 5, 612, 613, 614, 615, 616, 104, 106, 341, 342, 343, 344, 334, 335, 336, 406, 407, 408, 409, 337, 338, 339, 340, 617, 618, 619, 620, 152, 109, 806, 807, 808, 809, 810, 811, 812, 813, 814, 815, 816, 817, 818, 819, 820, 821, 822, 823] (by decide +kernel) (by decide +kernel)
set_option maxRecDepth 20000 in
theorem gL_law_X12_listen : GoodIn wsL_law (wsV RL 92 RX12 yX12_listen wsX12_listen) := goodIn_app (goodIn_of _ (by decide +kernel)) ggL_law_X12_listen
set_option maxRecDepth 20000 in
theorem ggL_law_X11_pack : GoodIn wsL_law wsX11_pack := goodIn_r _ [641, 19, 642, 34, 24, 287, 643, 644, 645, 33, 646, 647, 648, 649, 650, 651, 82, 300, 2, 301, 652, 296, 297, 18, 298, 65, 245, 246, 247, 248, 195, 653, 310, 311, 312, 63, 64, 654, 655, 656, 657, 83, 658, 358, 359, 360, 66, 361, 354, 355, 356, 196, 659, 660, 661, 662, 85, 663, 664, 665, 666, 667, 668, 669, 670, 671, 672, 673, 674, 675, 514, 515, 516, 517, 518, 519, 676, 677, 678, 679, 680, 681, 682, 683, 684, 795, 796, 797, 798, 799, 800, 801, 802, 803, 804, 805, 831, 832, 833, 834, 835, 836, 837, 838, 839, 840, 841, 842, 843, 844, 845, 846, 854, 855, 856] (by decide +kernel) (by decide +kernel)
set_option maxRecDepth 20000 in
theorem gL_law_X11_pack : GoodIn wsL_law (wsV RL 93 RX11 yX11_pack wsX11_pack) := goodIn_app (goodIn_of _ (by decide +kernel)) ggL_law_X11_pack
set_option maxRecDepth 20000 in
theorem ggL_law_X12_pack : GoodIn wsL_law wsX12_pack := goodIn_r _ [688, 104, 113, 134, 135, 5, 136, 525, 526, 527, 689, 690, 691, 692, 112, 693, 694, 695, 696, 106, 334, 335, 336, 341, 342, 343, 344, 806, 807, 808, 809, 810, 811, 812, 813, 814, 815, 816, 817, 818, 819, 820, 821, 822, 823] (by decide +kernel) (by decide +kernel)
set_option maxRecDepth 20000 in
theorem gL_law_X12_pack : GoodIn wsL_law (wsV RL 96 RX12 yX12_pack wsX12_pack) := goodIn_app (goodIn_of _ (by decide +kernel)) ggL_law_X12_pack
set_option maxRecDepth 20000 in
theorem ggL_law_X11_mark : GoodIn wsL_law wsX11_mark := goodIn_r _ [700, 19, 422, 36, 158, 159, 2, 160, 289, 246, 247, 18, 248, 195, 701, 702, 703, 704, 705, 44, 706, 707, 708, 709, 710, 38, 711, 712, 242, 243, 244, 63, 245, 713, 296, 297, 298, 65, 714, 715, 53, 716, 717, 718, 719, 720, 721, 722, 723, 724, 47, 725, 726, 727, 728, 729, 730, 41, 731, 732, 733, 734, 735, 292, 293, 294, 64, 736, 737, 738, 50, 739, 740, 741, 742, 743, 795, 796, 797, 798, 799, 800, 801, 802, 803, 804, 805, 831, 832, 833, 834, 835, 836, 837, 838, 839, 840, 841, 842, 843, 844, 845, 846] (by decide +kernel) (by decide +kernel)
set_option maxRecDepth 20000 in
theorem gL_law_X11_mark : GoodIn wsL_law (wsV RL 97 RX11 yX11_mark wsX11_mark) := goodIn_app (goodIn_of _ (by decide +kernel)) ggL_law_X11_mark
set_option maxRecDepth 20000 in
theorem ggL_law_X12_mark : GoodIn wsL_law wsX12_mark := goodIn_r _ [747, 427, 748, 749, 750, 751, 752, 753, 104, 106, 134, 135, 5, 136, 326, 327, 328, 329, 806, 807, 808, 809, 810, 811, 812, 813, 814, 815, 816, 817, 818, 819, 820, 821, 822, 823] (by decide +kernel) (by decide +kernel)
set_option maxRecDepth 20000 in
theorem gL_law_X12_mark : GoodIn wsL_law (wsV RL 100 RX12 yX12_mark wsX12_mark) := goodIn_app (goodIn_of _ (by decide +kernel)) ggL_law_X12_mark
set_option maxRecDepth 20000 in
theorem ggL_law_X11_keep : GoodIn wsL_law wsX11_keep := goodIn_r _ [757, 24, 184, 288, 158, 159, 2, 160, 758, 759, 760, 761, 25, 26, 762, 763, 764, 23, 765, 273, 274, 275, 276, 277, 278, 70, 396, 266, 267, 268, 795, 796, 797, 798, 799, 800, 801, 802, 803, 804, 805, 840, 841, 842, 843, 844, 845, 846] (by decide +kernel) (by decide +kernel)
set_option maxRecDepth 20000 in
theorem gL_law_X11_keep : GoodIn wsL_law (wsV RL 101 RX11 yX11_keep wsX11_keep) := goodIn_app (goodIn_of _ (by decide +kernel)) ggL_law_X11_keep
set_option maxRecDepth 20000 in
theorem ggL_law_X12_keep : GoodIn wsL_law wsX12_keep := goodIn_r _ [769, 107, 106, 108, 134, 135, 5, 136, 806, 807, 808, 809, 810, 811, 812, 813, 814, 815, 816, 817, 818, 819, 820, 821, 822, 823] (by decide +kernel) (by decide +kernel)
set_option maxRecDepth 20000 in
theorem gL_law_X12_keep : GoodIn wsL_law (wsV RL 104 RX12 yX12_keep wsX12_keep) := goodIn_app (goodIn_of _ (by decide +kernel)) ggL_law_X12_keep
set_option maxRecDepth 20000 in
theorem ggL_law_X11_back : GoodIn wsL_law wsX11_back := goodIn_r _ [773, 184, 24, 288, 158, 159, 2, 160, 299, 300, 301, 758, 759, 760, 761, 25, 26, 762, 763, 764, 23, 765, 273, 274, 275, 276, 277, 278, 70, 396, 266, 267, 268, 795, 796, 797, 798, 799, 800, 801, 802, 803, 804, 805, 840, 841, 842, 843, 844, 845, 846] (by decide +kernel) (by decide +kernel)
set_option maxRecDepth 20000 in
theorem gL_law_X11_back : GoodIn wsL_law (wsV RL 105 RX11 yX11_back wsX11_back) := goodIn_app (goodIn_of _ (by decide +kernel)) ggL_law_X11_back
set_option maxRecDepth 20000 in
theorem ggL_law_X12_back : GoodIn wsL_law wsX12_back := goodIn_r _ [777, 108, 106, 107, 134, 135, 5, 136, 806, 807, 808, 809, 810, 811, 812, 813, 814, 815, 816, 817, 818, 819, 820, 821, 822, 823] (by decide +kernel) (by decide +kernel)
set_option maxRecDepth 20000 in
theorem gL_law_X12_back : GoodIn wsL_law (wsV RL 108 RX12 yX12_back wsX12_back) := goodIn_app (goodIn_of _ (by decide +kernel)) ggL_law_X12_back
set_option maxRecDepth 20000 in
theorem ggL_law_X11_count : GoodIn wsL_law wsX11_count := goodIn_r _ [781, 19, 487, 642, 30, 183, 24, 474, 15, 157, 795, 796, 797, 798, 799, 800, 801, 802, 803, 804, 805, 831, 832, 833, 834, 835, 836, 837, 838, 839, 847, 848, 849, 850, 851, 852, 853, 840, 841, 842, 843, 844, 845, 846, 824, 825, 826, 827, 828, 829, 830] (by decide +kernel) (by decide +kernel)
set_option maxRecDepth 20000 in
theorem gL_law_X11_count : GoodIn wsL_law (wsV RL 109 RX11 yX11_count wsX11_count) := goodIn_app (goodIn_of _ (by decide +kernel)) ggL_law_X11_count
set_option maxRecDepth 20000 in
theorem ggL_law_X12_count : GoodIn wsL_law wsX12_count := goodIn_r _ [785, 104, 152, 106, 130, 806, 807, 808, 809, 810, 811, 812, 813, 814, 815, 816, 817, 818, 819, 820, 821, 822, 823] (by decide +kernel) (by decide +kernel)
set_option maxRecDepth 20000 in
theorem gL_law_X12_count : GoodIn wsL_law (wsV RL 112 RX12 yX12_count wsX12_count) := goodIn_app (goodIn_of _ (by decide +kernel)) ggL_law_X12_count
set_option maxRecDepth 20000 in
theorem ggL_law_X11_trace : GoodIn wsL_law wsX11_trace := goodIn_r _ [789, 790, 795, 796, 797, 798, 799, 800, 801, 802, 803, 804, 805] (by decide +kernel) (by decide +kernel)
set_option maxRecDepth 20000 in
theorem gL_law_X11_trace : GoodIn wsL_law (wsV RL 113 RX11 yX11_trace wsX11_trace) := goodIn_app (goodIn_of _ (by decide +kernel)) ggL_law_X11_trace
set_option maxRecDepth 20000 in
theorem ggL_law_X12_trace : GoodIn wsL_law wsX12_trace := goodIn_r _ [794, 748, 806, 807, 808, 809, 810, 811, 812, 813, 814, 815, 816, 817, 818, 819, 820, 821, 822, 823] (by decide +kernel) (by decide +kernel)
set_option maxRecDepth 20000 in
theorem gL_law_X12_trace : GoodIn wsL_law (wsV RL 117 RX12 yX12_trace wsX12_trace) := goodIn_app (goodIn_of _ (by decide +kernel)) ggL_law_X12_trace
