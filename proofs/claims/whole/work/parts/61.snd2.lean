/-! SOUND 2: printed by gen_snd.py: names, return types and rooms of the methods by number; the tables have the words that they need -/
def yML : List MethodName := [yX2_init, yX2_size, yX2_at, yX2_put, yX2_takeAt, yX2_takeLast, yX2_dropFirst, yX2_clear, yX2_countOf, yX2_lastIndexOf, yX2_mixedInto, yX2_copyFrom, yX0_init, yX0_size, yX0_lines, yX0_startOf, yX0_lengthOf, yX0_sortAt, yX0_wantedAt, yX0_turnedAt, yX0_wrongAt, yX0_about, yX0_add, yX0_endLine, yX0_putRight, yX0_clear, yX0_errors, yX0_turnedSorts, yX0_countOf, yX0_errorAt, yX0_mixedInto, yX0_copyFrom, yX3_init, yX3_boxOf, yX3_formeOf, yX3_putBack, yX3_buySorts, yX3_spillSorts, yX3_cleanBox, yX3_setText, yX3_lenderFor, yX3_correctForme, yX3_correctPlace, yX3_distributeForme, yX3_slips, yX3_pieForme, yX3_sortFromHeap, yX3_number, yX3_allSorts, yX3_sortsInBoxes, yX3_foulSorts, yX3_countInBoxes, yX3_sortsInFormes, yX3_countInFormes, yX3_errorsInFormes, yX3_turnedInFormes, yX3_copyFrom, yX1_init, yX1_size, yX1_save, yX1_restore, yX1_dropOldest, yX4_init, yX4_buy, yX4_buyLacking, yX4_spill, yX4_clean, yX4_set, yX4_letter, yX4_inBox, yX4_value, yX4_setLine, yX4_correct, yX4_distribute, yX4_pie, yX4_sortHeap, yX4_forme, yX4_places, yX4_place, yX4_proof, yX4_inHeap, yX4_errorsIfSet, yX4_turnedIfSet, yX4_copies, yX4_bestToDistribute, yX4_order, yX4_append, yX4_clearText, yX4_undo, yX4_digest, yX4_aboutLetter, yX4_aboutForme, yX4_lackingOf, yX4_settingGoes, yX4_trialGoes, yX4_requireLetter, yX4_requireForme, yX4_requireIndex, yX4_requireRange, yX4_requireRoomFor, yX4_widthOf, yX4_mixed, yJ9_floorMod_7cf53, yX5_init, yX5_thrown, yX5_in, yX5_fine, yX5_throwing, yX5_save, yX5_laysAside, yX5_takesBack, yX5_isLetter, yX5_isForme, yX5_widthOf, yX5_puts, yX5_takes, yX5_countIn, yX5_foulIn, yX5_inBoxes, yX5_takesOwn, yX5_empties, yX5_lineAt, yX5_places0, yX5_of, yX5_isWrong, yX5_countOf, yX5_countAll, yX5_sorts, yX5_loosens, yX5_buys, yX5_buy, yX5_lacking, yX5_buyLacking, yX5_spill, yX5_clean, yX5_set, yX5_inAllBoxes, yX5_inTheHeap, yX5_letterOf, yX5_letter, yX5_inBox, yX5_allFoul, yX5_valueOf, yX5_value, yX5_lender, yX5_sets, yX5_wrongInLine, yX5_turnedInLine, yX5_setLine, yX5_corrects, yX5_correct, yX5_distributes, yX5_distribute, yX5_pie, yX5_sortHeap, yX5_formeOf, yX5_forme, yX5_isLine, yX5_places, yX5_placeOf, yX5_place, yX5_proof, yX5_inHeap, yX5_errorsIfSet, yX5_turnedIfSet, yX5_copies, yX5_bestToDistribute, yX5_order, yX5_append, yX5_clearText, yX5_undo, yX5_hashBoxes, yX5_hashForme, yX5_digest, yL_buy, yL_buyLacking, yL_spill, yL_clean, yL_set, yL_letter, yL_inBox, yL_value, yL_setLine, yL_correct, yL_distribute, yL_pie, yL_sortHeap, yL_forme, yL_places, yL_place, yL_proof, yL_inHeap, yL_append, yL_undo, yL_law]
def yM (μ : Nat) : MethodName := yML.getD μ ⟨"", "", ""⟩
def rtML : List (Option FieldType) := [none, (some .int), (some .int), none, (some .int), (some .int), none, none, (some .int), (some .int), (some .long), none, none, (some .int), (some .int), (some .int), (some .int), (some .int), (some .int), (some .boolean), (some .boolean), (some .int), none, none, none, none, (some .int), (some .int), (some .int), (some .int), (some .long), none, none, (some (.object "SortsCase$Row")), (some (.object "SortsCase$Forme")), none, none, none, (some .int), (some .boolean), (some (.object "SortsCase$Row")), (some .int), (some .boolean), (some .int), (some .boolean), none, (some .int), (some .int), (some .int), (some .int), (some .int), (some .int), (some .int), (some .int), (some .int), (some .int), none, none, (some .int), none, none, none, none, (some .int), (some .int), (some .int), (some .int), (some .int), (some .int), (some .int), (some .int), (some .int), (some .int), (some .int), (some .int), (some .int), (some .int), (some .int), (some .int), (some .int), (some .int), (some .int), (some .int), (some .int), (some .int), (some .double), (some .int), (some .int), (some .int), (some .long), (some .int), (some .int), (some .int), (some .boolean), (some .boolean), none, none, none, none, none, (some .int), (some .long), (some .int), none, (some .int), (some .boolean), (some .int), (some .int), none, none, none, (some .boolean), (some .boolean), (some .int), none, (some .int), (some .int), (some .int), (some .int), (some .boolean), (some .int), (some .int), (some .int), (some .int), (some .boolean), (some .int), (some .int), (some .int), none, none, (some .int), (some .int), (some .int), (some .int), (some .int), (some .int), (some .int), (some .int), (some .int), (some .int), (some .int), (some .int), (some .int), (some .int), (some .int), (some .boolean), (some .int), (some .int), (some .int), (some .int), (some .int), (some .int), (some .int), (some .int), (some .int), (some .int), (some .int), (some .boolean), (some .int), (some .int), (some .int), (some .int), (some .int), (some .int), (some .int), (some .int), (some .int), (some .double), (some .int), (some .int), (some .int), (some .long), (some .long), (some .long), (some .int), (some .int), (some .int), (some .int), (some .int), (some .int), (some .int), (some .int), (some .int), (some .int), (some .int), (some .int), (some .int), (some .int), (some .int), (some .int), (some .int), (some .int), (some .int), (some .int), (some .boolean)]
def rtM (μ : Nat) : Option FieldType := rtML.getD μ none
def hhML : List (List (Nat × Nat × Nat × Nat)) := [[], [], [], [], [], [], [], [], [], [], [], [], [], [], [], [], [], [], [], [], [], [], [], [], [], [], [], [], [], [], [], [], [], [], [], [], [], [], [], [], [], [], [], [], [], [], [], [], [], [], [], [], [], [], [], [], [], [], [], [], [], [], [], [], [], [], [], [], [], [], [], [], [], [], [], [], [], [], [], [], [], [], [], [], [], [], [], [], [], [], [], [], [], [], [], [], [], [], [], [], [], [], [], [], [], [], [], [], [], [], [], [], [], [], [], [], [], [], [], [], [], [], [], [], [], [], [], [], [], [], [], [], [], [], [], [], [], [], [], [], [], [], [], [], [], [], [], [], [], [], [], [], [], [], [], [], [], [], [], [], [], [], [], [], [], [], [], [], [], [], [], [], [], [], [(0, 10, 13, 13), (0, 10, 17, 15), (0, 10, 21, 17)], [(0, 8, 11, 17)], [(0, 12, 15, 13), (0, 12, 19, 15), (0, 12, 23, 17)], [(0, 9, 12, 13)], [(0, 10, 13, 15)], [(0, 10, 13, 13), (0, 10, 17, 15)], [(0, 10, 13, 13)], [(0, 9, 12, 15)], [(0, 9, 12, 13), (0, 9, 15, 17)], [(0, 9, 12, 13)], [(0, 9, 12, 13)], [(0, 9, 12, 13)], [(0, 9, 12, 15)], [(0, 10, 13, 13), (0, 10, 17, 15)], [(0, 10, 13, 13)], [(0, 14, 17, 13), (0, 14, 21, 15)], [(0, 10, 13, 13)], [(0, 9, 12, 13)], [(0, 9, 12, 15), (0, 9, 15, 17)], [(0, 8, 11, 17)], []]
def hhM (μ : Nat) : List (Nat × Nat × Nat × Nat) := hhML.getD μ []
def rmML : List (Nat × Nat) := [(1, 21), (0, 0), (0, 0), (0, 0), (1, 26), (2, 48), (1, 26), (0, 0), (1, 21), (1, 21), (1, 23), (1, 26), (1, 12), (0, 0), (0, 0), (0, 0), (1, 21), (0, 0), (0, 0), (0, 0), (1, 21), (2, 42), (0, 0), (0, 0), (0, 0), (0, 0), (2, 42), (1, 21), (1, 21), (2, 42), (3, 64), (1, 26), (2, 42), (1, 22), (1, 22), (2, 43), (3, 64), (3, 68), (3, 64), (3, 68), (2, 43), (4, 90), (3, 64), (2, 43), (0, 0), (1, 21), (3, 64), (4, 89), (2, 45), (1, 20), (2, 44), (2, 44), (1, 20), (2, 44), (3, 64), (2, 43), (2, 47), (3, 63), (0, 0), (3, 69), (3, 69), (0, 0), (4, 84), (8, 123), (7, 103), (8, 123), (8, 123), (7, 104), (8, 123), (8, 123), (7, 110), (8, 134), (8, 123), (8, 123), (8, 123), (7, 104), (8, 136), (8, 123), (8, 123), (8, 123), (7, 103), (6, 134), (6, 134), (5, 114), (5, 114), (3, 66), (6, 82), (1, 20), (6, 90), (6, 136), (3, 70), (5, 113), (2, 44), (5, 114), (4, 94), (7, 103), (7, 103), (6, 82), (6, 82), (6, 82), (0, 0), (0, 0), (0, 0), (1, 12), (0, 0), (0, 0), (0, 0), (0, 0), (0, 0), (0, 0), (0, 0), (1, 25), (1, 25), (0, 0), (0, 0), (0, 0), (0, 0), (1, 24), (0, 0), (0, 0), (1, 24), (0, 0), (1, 21), (1, 21), (2, 45), (3, 68), (4, 94), (5, 115), (1, 21), (1, 23), (6, 135), (1, 24), (6, 135), (2, 45), (2, 47), (1, 25), (0, 0), (0, 0), (5, 115), (6, 137), (2, 45), (2, 45), (6, 135), (7, 156), (1, 24), (2, 48), (0, 0), (0, 0), (3, 71), (3, 68), (4, 94), (2, 45), (3, 71), (2, 45), (1, 25), (4, 94), (5, 117), (2, 45), (3, 67), (3, 68), (4, 92), (3, 68), (1, 25), (3, 71), (3, 71), (3, 71), (3, 71), (3, 67), (1, 25), (1, 21), (1, 21), (6, 137), (5, 117), (7, 165), (9, 145), (8, 125), (9, 146), (9, 144), (8, 127), (9, 145), (9, 146), (8, 131), (9, 156), (9, 144), (9, 144), (9, 144), (8, 125), (9, 158), (9, 146), (9, 148), (9, 145), (8, 124), (7, 103), (7, 110), (10, 188)]
def rmM (μ : Nat) : Nat × Nat := rmML.getD μ (0, 0)
def psML : List (List Nat) := [[82, 83, 86, 81, 48],
  [87, 232, 48],
  [86, 87, 241, 48],
  [86, 87, 321, 48],
  [86, 87, 259, 239, 240, 208, 258, 48],
  [87, 255, 256, 257, 254, 48],
  [86, 87, 208, 710, 48],
  [87, 346, 48],
  [87, 259, 239, 240, 338, 48],
  [87, 259, 239, 240, 432, 48],
  [87, 259, 239, 240, 360, 353, 359, 48],
  [86, 87, 208, 205, 204, 48],
  [98, 99, 100, 101, 102, 97, 50],
  [103, 312, 50],
  [104, 417, 50],
  [102, 453, 50],
  [104, 450, 451, 452, 449, 50],
  [100, 283, 50],
  [99, 287, 50],
  [101, 279, 50],
  [276, 277, 278, 280, 281, 282, 284, 285, 286, 275, 50],
  [276, 277, 278, 280, 281, 282, 284, 285, 286, 272, 273, 274, 458, 50],
  [99, 100, 101, 103, 263, 50],
  [102, 103, 104, 267, 50],
  [99, 100, 101, 437, 50],
  [103, 104, 228, 50],
  [103, 272, 273, 274, 271, 50],
  [103, 276, 277, 278, 295, 50],
  [103, 280, 281, 282, 402, 50],
  [104, 450, 451, 452, 272, 273, 274, 446, 447, 448, 746, 50],
  [104, 450, 451, 452, 446, 447, 448, 454, 353, 455, 456, 457, 445, 50],
  [99, 100, 101, 102, 103, 104, 219, 220, 218, 50],
  [73, 74, 118, 76, 119, 79, 80, 120, 124, 95, 96, 72, 47],
  [118, 198, 199, 197, 47],
  [119, 198, 199, 214, 47],
  [194, 195, 196, 318, 319, 320, 441, 47],
  [124, 438, 439, 440, 126, 599, 47],
  [194, 195, 196, 318, 319, 320, 251, 252, 253, 619, 47],
  [194, 195, 196, 438, 439, 440, 237, 230, 231, 238, 239, 240, 433, 256, 257, 127, 630, 47],
  [194, 195, 196, 251, 252, 253, 237, 230, 231, 238, 239, 240, 127, 242, 243, 244, 260, 261, 262, 264, 265, 266, 236, 47],
  [194, 195, 196, 237, 230, 231, 246, 247, 245, 47],
  [127, 309, 310, 311, 423, 273, 274, 424, 425, 426, 422, 47],
  [194, 195, 196, 438, 439, 440, 433, 256, 257, 428, 285, 286, 313, 281, 282, 429, 430, 431, 434, 435, 436, 427, 47],
  [194, 195, 196, 318, 319, 320, 127, 309, 310, 311, 313, 281, 282, 128, 314, 315, 316, 322, 226, 227, 308, 47],
  [123, 317, 47],
  [120, 318, 319, 320, 309, 310, 311, 313, 281, 282, 322, 226, 227, 694, 47],
  [120, 438, 439, 440, 237, 230, 231, 238, 239, 240, 127, 706, 707, 708, 709, 705, 47],
  [120, 124, 126, 237, 230, 231, 127, 128, 123, 365, 328, 329, 366, 367, 368, 370, 371, 372, 374, 332, 333, 375, 376, 377, 380, 381, 382, 364, 47],
  [120, 237, 230, 231, 365, 328, 329, 366, 367, 368, 373, 47],
  [118, 237, 230, 231, 330, 47],
  [194, 195, 196, 237, 230, 231, 335, 336, 337, 334, 47],
  [118, 335, 336, 337, 394, 47],
  [119, 309, 310, 311, 369, 47],
  [119, 399, 400, 401, 398, 47],
  [119, 379, 269, 270, 378, 47],
  [119, 384, 293, 294, 383, 47],
  [120, 124, 194, 195, 196, 126, 127, 128, 123, 201, 202, 203, 211, 212, 213, 215, 216, 217, 193, 47],
  [153, 154, 157, 156, 71, 152, 51],
  [158, 462, 51],
  [157, 158, 591, 593, 7, 595, 191, 192, 590, 51],
  [157, 158, 595, 191, 192, 775, 51],
  [157, 158, 594, 51],
  [65, 68, 70, 71, 166, 146, 147, 80, 167, 148, 150, 151, 168, 169, 164, 165, 96, 170, 64, 46],
  [166, 168, 473, 474, 547, 548, 566, 568, 6, 587, 588, 589, 596, 597, 598, 389, 195, 196, 229, 230, 231, 472, 46],
  [166, 168, 566, 568, 6, 587, 588, 589, 596, 597, 598, 405, 407, 3, 606, 46],
  [166, 168, 473, 474, 547, 548, 587, 588, 589, 389, 195, 196, 229, 230, 231, 550, 614, 560, 571, 615, 581, 616, 617, 618, 613, 46],
  [166, 168, 473, 474, 587, 588, 589, 627, 628, 629, 626, 46],
  [166, 168, 547, 548, 587, 588, 589, 122, 125, 637, 46],
  [473, 474, 547, 548, 385, 387, 2, 644, 46],
  [166, 473, 474, 389, 195, 196, 229, 230, 231, 476, 477, 404, 239, 240, 651, 46],
  [166, 547, 548, 361, 362, 363, 658, 46],
  [166, 167, 168, 587, 588, 589, 229, 230, 231, 571, 581, 666, 667, 304, 212, 213, 414, 415, 416, 186, 188, 0, 669, 233, 234, 235, 665, 46],
  [166, 168, 587, 588, 589, 666, 667, 304, 212, 213, 419, 420, 421, 676, 46],
  [166, 168, 587, 588, 589, 666, 667, 304, 212, 213, 305, 306, 307, 683, 46],
  [166, 168, 587, 588, 589, 229, 230, 231, 666, 667, 304, 212, 213, 691, 692, 693, 121, 690, 46],
  [166, 168, 547, 548, 587, 588, 589, 702, 703, 704, 701, 46],
  [547, 548, 666, 667, 410, 412, 4, 717, 46],
  [166, 476, 477, 666, 667, 304, 212, 213, 414, 415, 416, 725, 447, 448, 724, 46],
  [166, 547, 548, 476, 477, 666, 667, 304, 212, 213, 414, 415, 416, 725, 447, 448, 733, 451, 452, 734, 456, 457, 732, 46],
  [166, 666, 667, 304, 212, 213, 479, 742, 521, 743, 744, 745, 741, 46],
  [166, 229, 230, 231, 476, 477, 404, 239, 240, 121, 753, 46],
  [170, 186, 188, 0, 268, 269, 270, 185, 46],
  [170, 186, 188, 0, 292, 293, 294, 291, 46],
  [166, 167, 169, 170, 229, 230, 231, 268, 269, 270, 190, 191, 192, 221, 223, 1, 299, 46],
  [166, 169, 170, 304, 212, 213, 305, 306, 307, 268, 269, 270, 190, 191, 192, 221, 223, 1, 303, 46],
  [166, 327, 328, 329, 331, 332, 333, 326, 46],
  [167, 229, 230, 231, 550, 560, 571, 581, 761, 762, 763, 319, 320, 760, 46],
  [167, 229, 230, 231, 343, 344, 345, 342, 46],
  [166, 168, 571, 581, 459, 460, 461, 771, 772, 773, 774, 770, 46],
  [166, 167, 168, 389, 195, 196, 229, 230, 231, 385, 387, 2, 361, 362, 363, 304, 212, 213, 121, 410, 412, 4, 459, 460, 461, 351, 352, 353, 356, 357, 358, 442, 443, 444, 350, 46],
  [166, 389, 195, 196, 229, 230, 231, 405, 407, 3, 404, 239, 240, 121, 390, 336, 337, 391, 392, 393, 395, 396, 397, 403, 247, 388, 46],
  [166, 169, 304, 212, 213, 414, 415, 416, 419, 420, 421, 268, 269, 270, 292, 293, 294, 190, 191, 192, 418, 310, 311, 413, 46],
  [166, 167, 389, 195, 196, 390, 336, 337, 409, 408, 46],
  [166, 169, 190, 191, 192, 221, 223, 1, 189, 46],
  [167, 169, 170, 229, 230, 231, 233, 234, 235, 225, 226, 227, 224, 46],
  [476, 477, 475, 46],
  [476, 477, 668, 46],
  [479, 521, 520, 478, 46],
  [550, 560, 559, 549, 46],
  [166, 571, 581, 570, 371, 372, 580, 569, 46],
  [249, 248, 46],
  [355, 354, 46],
  [200, 49],
  [781, 782, 783, 784, 786, 788, 790, 791, 780, 52],
  [789, 816, 52],
  [827, 52],
  [789, 883, 52],
  [789, 831, 52],
  [782, 783, 785, 867, 52],
  [782, 784, 966, 52],
  [782, 784, 978, 52],
  [824, 825, 826, 823, 52],
  [825, 826, 912, 962, 52],
  [938, 52],
  [782, 875, 52],
  [782, 899, 52],
  [782, 879, 52],
  [876, 878, 19, 927, 52],
  [782, 840, 52],
  [782, 990, 52],
  [788, 876, 878, 19, 896, 898, 22, 907, 52],
  [855, 52],
  [782, 853, 854, 852, 52],
  [782, 853, 854, 863, 52],
  [860, 862, 15, 859, 52],
  [782, 860, 862, 15, 849, 851, 13, 856, 858, 14, 848, 52],
  [845, 847, 12, 844, 52],
  [782, 837, 839, 10, 841, 843, 11, 836, 52],
  [782, 853, 854, 1002, 52],
  [782, 872, 874, 18, 871, 52],
  [825, 826, 876, 878, 19, 821, 822, 828, 830, 8, 832, 833, 835, 9, 864, 866, 16, 868, 870, 17, 880, 882, 20, 820, 52],
  [786, 876, 878, 19, 787, 891, 52],
  [828, 830, 8, 833, 835, 9, 864, 866, 16, 868, 870, 17, 880, 882, 20, 888, 890, 21, 887, 52],
  [825, 826, 876, 878, 19, 896, 898, 22, 872, 874, 18, 821, 822, 828, 830, 8, 832, 864, 866, 16, 880, 882, 20, 895, 52],
  [782, 788, 872, 874, 18, 821, 822, 828, 830, 8, 864, 866, 16, 880, 882, 20, 904, 906, 23, 903, 52],
  [782, 825, 826, 912, 828, 830, 8, 864, 866, 16, 880, 882, 20, 913, 914, 911, 52],
  [782, 931, 52],
  [782, 935, 52],
  [782, 876, 878, 19, 841, 843, 11, 888, 890, 21, 924, 926, 25, 928, 930, 26, 932, 934, 27, 936, 937, 923, 52],
  [825, 826, 821, 822, 828, 830, 8, 880, 882, 20, 919, 920, 922, 24, 918, 52],
  [782, 876, 878, 19, 821, 822, 828, 830, 8, 880, 882, 20, 942, 52],
  [924, 926, 25, 955, 52],
  [782, 837, 839, 10, 841, 843, 11, 833, 835, 9, 952, 954, 29, 951, 52],
  [825, 826, 828, 830, 8, 880, 882, 20, 947, 948, 950, 28, 946, 52],
  [782, 876, 878, 19, 936, 937, 974, 52],
  [782, 786, 790, 791, 896, 898, 22, 787, 971, 973, 32, 970, 52],
  [786, 790, 791, 787, 1052, 52],
  [791, 787, 1060, 52],
  [782, 786, 790, 791, 853, 854, 828, 830, 8, 864, 866, 16, 880, 882, 20, 787, 960, 961, 963, 965, 30, 967, 969, 31, 975, 977, 33, 959, 52],
  [782, 853, 854, 860, 862, 15, 849, 851, 13, 856, 858, 14, 872, 874, 18, 987, 989, 35, 986, 52],
  [828, 830, 8, 864, 866, 16, 880, 882, 20, 960, 961, 983, 985, 34, 982, 52],
  [782, 860, 862, 15, 849, 851, 13, 872, 874, 18, 999, 1001, 37, 998, 52],
  [828, 830, 8, 864, 866, 16, 880, 882, 20, 960, 961, 995, 997, 36, 994, 52],
  [782, 860, 862, 15, 849, 851, 13, 828, 830, 8, 864, 866, 16, 880, 882, 20, 960, 961, 999, 1001, 37, 1006, 52],
  [782, 825, 826, 872, 874, 18, 828, 830, 8, 864, 866, 16, 880, 882, 20, 914, 1010, 52],
  [782, 845, 847, 12, 963, 965, 30, 975, 977, 33, 983, 985, 34, 1019, 52],
  [825, 826, 828, 830, 8, 880, 882, 20, 960, 961, 1015, 1016, 1018, 38, 1014, 52],
  [782, 825, 826, 960, 961, 1027, 52],
  [849, 851, 13, 828, 830, 8, 880, 882, 20, 1024, 1026, 39, 1023, 52],
  [860, 862, 15, 856, 858, 14, 1036, 52],
  [825, 826, 849, 851, 13, 828, 830, 8, 880, 882, 20, 1024, 1026, 39, 1032, 1033, 1035, 40, 1031, 52],
  [782, 849, 851, 13, 856, 858, 14, 828, 830, 8, 880, 882, 20, 960, 961, 1040, 52],
  [782, 825, 826, 828, 830, 8, 880, 882, 20, 1044, 52],
  [880, 882, 20, 963, 965, 30, 967, 969, 31, 975, 977, 33, 1049, 1051, 41, 1048, 52],
  [880, 882, 20, 963, 965, 30, 967, 969, 31, 975, 977, 33, 1057, 1059, 42, 1056, 52],
  [880, 882, 20, 787, 963, 965, 30, 967, 969, 31, 975, 977, 33, 1049, 1051, 41, 1064, 52],
  [880, 882, 20, 963, 965, 30, 967, 969, 31, 975, 977, 33, 995, 997, 36, 1049, 1051, 41, 1068, 52],
  [789, 837, 839, 10, 952, 954, 29, 1072, 52],
  [786, 825, 826, 828, 830, 8, 880, 882, 20, 787, 1077, 1078, 1076, 52],
  [880, 882, 20, 787, 1082, 52],
  [782, 783, 785, 828, 830, 8, 880, 882, 20, 1086, 52],
  [782, 788, 920, 922, 24, 1092, 1096, 52],
  [782, 849, 851, 13, 1016, 1018, 38, 1033, 1035, 40, 1092, 1100, 52],
  [782, 786, 789, 785, 787, 948, 950, 28, 1092, 1091, 1093, 1095, 43, 1097, 1099, 44, 1090, 52],
  [469, 470, 471, 466, 467, 468, 465, 45],
  [603, 604, 605, 468, 602, 45],
  [610, 611, 612, 466, 467, 468, 609, 45],
  [623, 624, 625, 466, 622, 45],
  [634, 635, 636, 467, 633, 45],
  [641, 642, 643, 466, 467, 640, 45],
  [648, 649, 650, 466, 647, 45],
  [655, 656, 657, 467, 654, 45],
  [662, 663, 664, 466, 468, 661, 45],
  [673, 674, 675, 466, 672, 45],
  [680, 681, 682, 466, 679, 45],
  [687, 688, 689, 466, 686, 45],
  [698, 699, 700, 467, 697, 45],
  [714, 715, 716, 466, 467, 713, 45],
  [721, 722, 723, 466, 720, 45],
  [729, 730, 731, 466, 467, 728, 45],
  [738, 739, 740, 466, 737, 45],
  [750, 751, 752, 466, 749, 45],
  [757, 758, 759, 467, 468, 756, 45],
  [767, 768, 769, 468, 766, 45],
  [60, 62, 63, 776, 778, 779, 463, 464, 817, 818, 819, 813, 814, 815, 600, 601, 884, 885, 886, 607, 608, 892, 893, 894, 620, 621, 900, 901, 902, 631, 632, 908, 909, 910, 638, 639, 915, 916, 917, 645, 646, 939, 940, 941, 652, 653, 943, 944, 945, 659, 660, 956, 957, 958, 670, 671, 979, 980, 981, 677, 678, 991, 992, 993, 684, 685, 1003, 1004, 1005, 695, 696, 1007, 1008, 1009, 711, 712, 1011, 1012, 1013, 718, 719, 1020, 1021, 1022, 726, 727, 1028, 1029, 1030, 735, 736, 1037, 1038, 1039, 747, 748, 1041, 1042, 1043, 182, 183, 184, 1045, 1046, 1047, 288, 289, 290, 1053, 1054, 1055, 296, 297, 298, 1061, 1062, 1063, 300, 301, 302, 1065, 1066, 1067, 323, 324, 325, 1069, 1070, 1071, 754, 755, 1073, 1074, 1075, 339, 340, 341, 1079, 1080, 1081, 764, 765, 1083, 1084, 1085, 347, 348, 349, 1087, 1088, 1089]]
def strL : List String := ["there is no such thing", "out of range", "there would be too many sorts", "the boxes are the same", "the box has fewer sorts", "the line cannot be set", "the index is negative", "neither a letter nor a space", "the text is full", "there is no saved state"]
def nstL : List (String × Nat) := [("SortsCase$Shop", 34), ("SortsCase", 141), ("SortsCase", 90), ("SortsCase", 94), ("SortsCase", 37), ("SortsCase$Shop", 81), ("SortsCase$Row", 38), ("SortsCase$Forme", 51)]
def nM : Nat := 195
def eNm (E : Nat) : String := if E = 1 then "java/lang/IndexOutOfBoundsException" else if E = 2 then "java/lang/IllegalArgumentException" else "java/lang/IllegalStateException"
def icE (E : Nat) : Nat := if E = 1 then 163 else if E = 2 then 76 else 83
abbrev exN : List String := ["java/lang/RuntimeException", "java/lang/Exception"]
def nst (own : String) (i : Nat) : Bool := nstL.contains (own, i)
def lkF (own : String) (i : Nat) (ref n d : String) : Cond := if nst own i = true then .fieldLinkNest own i ref n d RX4 else .fieldLink own i ref n d
def lkM (own : String) (i : Nat) (y : MethodName) : Cond := if nst own i = true then .methodLinkNest own i y RX4 else .methodLink own i y
def natN (a : Nat) : MethodName := if a = 0 then Lib.Math.max.name else if a = 1 then Lib.Math.min.name else arraycopyName
/-- the word of the method's code -/
def cdW (μ : Nat) : Cond := match hhM μ with
  | [] => .code (yM μ) (mt μ).1 (mt μ).2.2.1.1 (rtM μ)
  | q :: t => .codeWith (yM μ) (mt μ).1 (mt μ).2.2.1.1 (rtM μ) (q :: t)
/-- the words that an entry of a pool needs -/
def wdE (own : String) (i : Nat) (q : LI) : List Cond :=
  if q.1 ≤ 1 then [lkF own i (cNm q.2.1) (tFd q.2.1 q.2.2.1).2.1 (tFd q.2.1 q.2.2.1).2.2.1]
  else if q.1 = 2 then [lkM own i (yM q.2.1), .instanceMethod (yM q.2.1), .selects (cNm q.2.2.2.toNatClampNeg) (yM q.2.1) (yM q.2.1)]
  else if q.1 = 3 then [lkM own i (yM q.2.1), .static (yM q.2.1)]
  else if q.1 = 4 then [lkM own i (yM q.2.1), .instanceMethod (yM q.2.1)]
  else if q.1 = 5 then [.classLink own i (cNm q.2.1)]
  else if q.1 = 6 then [.methodLink own i Lib.objectInit]
  else if q.1 = 7 then [.fieldLink own i RX4 "WIDTHS" "[I"]
  else if q.1 = 8 then [.classLink own i (eNm q.2.1)]
  else if q.1 = 9 then [.methodLink own i (natN q.2.1)]
  else if q.1 = 10 then [.constantLong own i q.2.2.2]
  else if q.1 = 12 then [.methodLink own i ⟨eNm q.2.1, "<init>", "(Ljava/lang/String;)V"⟩]
  else if q.1 = 13 then [.stringRef own i (strL.getD q.2.1 "")]
  else []
def wdM (μ : Nat) : List Cond := (mt μ).2.1.flatMap (fun e => wdE (yM μ).cls e.1 e.2) ++ (((hhM μ).zip (mt μ).2.2.2).map (fun q => Cond.classLink (yM μ).cls q.1.2.2.2 (eNm q.2.2.2.2)) ++ if μ = k_L_law then [] else [cdW μ, .initialized (yM μ).cls])
def cll (μ ν : Nat) : Bool := decide (ν < nM) && (decide (ν ≠ k_L_law) && (decide ((rmM ν).1 + 1 ≤ (rmM μ).1) && decide (8 + ((mt ν).2.2.1.1 + 11) + (rmM ν).2 ≤ (rmM μ).2)))
def par (ν n : Nat) : Bool := (parseMethodDescriptor (yM ν).desc).map (fun d => d.parameters.length) == some n
def chkE (μ i : Nat) (q : LI) : Bool :=
  if q.1 ≤ 1 then decide (q.2.1 < 6) && decide (q.2.2.1 < nFd q.2.1)
  else if q.1 = 2 then cll μ q.2.1 && ((yM q.2.1).cls == cNm q.2.2.2.toNatClampNeg && (decide (hhM q.2.1 = []) && par q.2.1 (q.2.2.1 - 1)))
  else if q.1 = 3 then cll μ q.2.1 && par q.2.1 q.2.2.1
  else if q.1 = 4 then cll μ q.2.1 && ((yM q.2.1).name == "<init>" && (decide (hhM q.2.1 = []) && (par q.2.1 (q.2.2.1 - 1) && decide (rtM q.2.1 = none))))
  else if q.1 = 5 then decide (q.2.1 < 6)
  else if q.1 = 6 then decide (1 ≤ (rmM μ).1) && decide (12 ≤ (rmM μ).2)
  else if q.1 = 8 then (yM μ).cls == RX4 && (decide (1 ≤ q.2.1) && (decide (q.2.1 ≤ 3) && (decide (6 ≤ (rmM μ).1) && decide (82 ≤ (rmM μ).2))))
  else if q.1 = 9 then decide (1 ≤ (rmM μ).1) && decide (26 ≤ (rmM μ).2 ∨ (q.2.1 ≤ 1 ∧ 21 ≤ (rmM μ).2))
  else if q.1 = 12 then decide (i = icE q.2.1)
  else true
def rkc (ini : Nat) (rt : Option FieldType) (y : MethodName) : Bool :=
  if ini = 11 then decide (rt = some .int) else if ini = 12 then decide (rt = some .boolean) else if ini = 13 then decide (rt = some .long) else if ini = 14 then decide (rt = some .double)
  else if ini = 15 then (match rt with
    | some (.object _) => true
    | some (.array _) => true
    | _ => false)
  else if ini = 10 then decide (rt = none)
  else decide (rt = none) && (decide (1 ≤ ini) && (decide (ini ≤ 6) && (y.name == "<init>" && y.cls == cNm (ini - 1))))
def hck (hh exc : List (Nat × Nat × Nat × Nat)) : Bool := match hh, exc with
  | [], [] => true
  | q :: t, e :: u => (q.1 == e.1) && ((q.2.1 == e.2.1) && ((q.2.2.1 == e.2.2.1) && (decide (1 ≤ e.2.2.2) && (decide (e.2.2.2 ≤ 3) && (decide (q.2.2.2 ≠ 0) && hck t u)))))
  | _, _ => false
def okM (μ : Nat) : Bool := decide ((wdM μ).map some = (psML.getD μ []).map (fun i => lw_tbl[i]?)) && ((mt μ).2.1.all (fun e => chkE μ e.1 e.2) && (plainFor (yM μ) && (((yM μ).cls != "java/lang/invoke/MethodHandle") && (((yM μ).cls != "java/lang/invoke/VarHandle") && (rkc (mt μ).2.2.1.2 (rtM μ) (yM μ) && hck (hhM μ) (mt μ).2.2.2)))))
/-- the words that the classes, rows and the machine's own methods need -/
def gW : List Cond := (List.range 6).flatMap (fun k => [.instantiable (cNm k) (nFd k), .initialized (cNm k)] ++ u_ws (cNm k) (tFd k) (nFd k)) ++ ([.arrayClass .int, .arrayClass .long, .arrayOver (.object RX0), .arrayOver (.object RX2), .arrayOver (.object RX3), .instanceMethod Lib.objectInit, .code Lib.objectInit ⟨#[0xb1]⟩ 1 none, .static Lib.Math.max.name, .static Lib.Math.min.name, .initialized "java/lang/Math", .code Lib.Math.max.name Lib.Math.max.code 2 (some .int), .code Lib.Math.min.name Lib.Math.min.code 2 (some .int), .native arraycopyName, .static arraycopyName, .initialized "java/lang/System", .initialized (eNm 1), .initialized (eNm 2), .initialized (eNm 3), .castable (eNm 1) (eNm 1), .castable (eNm 2) (eNm 2), .castable (eNm 3) (eNm 3)]
  ++ (vx_atS RX4 163 (eNm 1) exN ++ (vx_atS RX4 76 (eNm 2) exN ++ vx_atS RX4 83 (eNm 3) exN)))
theorem gW_in : gW.all (fun w => decide (w ∈ lw_tbl)) = true := by decide +kernel

theorem okM_g0 : (List.range 3).all (fun i => okM (3 * 0 + i)) = true := by decide +kernel
theorem okM_g1 : (List.range 3).all (fun i => okM (3 * 1 + i)) = true := by decide +kernel
theorem okM_g2 : (List.range 3).all (fun i => okM (3 * 2 + i)) = true := by decide +kernel
theorem okM_g3 : (List.range 3).all (fun i => okM (3 * 3 + i)) = true := by decide +kernel
theorem okM_g4 : (List.range 3).all (fun i => okM (3 * 4 + i)) = true := by decide +kernel
theorem okM_g5 : (List.range 3).all (fun i => okM (3 * 5 + i)) = true := by decide +kernel
theorem okM_g6 : (List.range 3).all (fun i => okM (3 * 6 + i)) = true := by decide +kernel
theorem okM_g7 : (List.range 3).all (fun i => okM (3 * 7 + i)) = true := by decide +kernel
theorem okM_g8 : (List.range 3).all (fun i => okM (3 * 8 + i)) = true := by decide +kernel
theorem okM_g9 : (List.range 3).all (fun i => okM (3 * 9 + i)) = true := by decide +kernel
theorem okM_g10 : (List.range 3).all (fun i => okM (3 * 10 + i)) = true := by decide +kernel
theorem okM_g11 : (List.range 3).all (fun i => okM (3 * 11 + i)) = true := by decide +kernel
theorem okM_g12 : (List.range 3).all (fun i => okM (3 * 12 + i)) = true := by decide +kernel
theorem okM_g13 : (List.range 3).all (fun i => okM (3 * 13 + i)) = true := by decide +kernel
theorem okM_g14 : (List.range 3).all (fun i => okM (3 * 14 + i)) = true := by decide +kernel
theorem okM_g15 : (List.range 3).all (fun i => okM (3 * 15 + i)) = true := by decide +kernel
theorem okM_g16 : (List.range 3).all (fun i => okM (3 * 16 + i)) = true := by decide +kernel
theorem okM_g17 : (List.range 3).all (fun i => okM (3 * 17 + i)) = true := by decide +kernel
theorem okM_g18 : (List.range 3).all (fun i => okM (3 * 18 + i)) = true := by decide +kernel
theorem okM_g19 : (List.range 3).all (fun i => okM (3 * 19 + i)) = true := by decide +kernel
theorem okM_g20 : (List.range 3).all (fun i => okM (3 * 20 + i)) = true := by decide +kernel
theorem okM_g21 : (List.range 3).all (fun i => okM (3 * 21 + i)) = true := by decide +kernel
theorem okM_g22 : (List.range 3).all (fun i => okM (3 * 22 + i)) = true := by decide +kernel
theorem okM_g23 : (List.range 3).all (fun i => okM (3 * 23 + i)) = true := by decide +kernel
theorem okM_g24 : (List.range 3).all (fun i => okM (3 * 24 + i)) = true := by decide +kernel
theorem okM_g25 : (List.range 3).all (fun i => okM (3 * 25 + i)) = true := by decide +kernel
theorem okM_g26 : (List.range 3).all (fun i => okM (3 * 26 + i)) = true := by decide +kernel
theorem okM_g27 : (List.range 3).all (fun i => okM (3 * 27 + i)) = true := by decide +kernel
theorem okM_g28 : (List.range 3).all (fun i => okM (3 * 28 + i)) = true := by decide +kernel
theorem okM_g29 : (List.range 3).all (fun i => okM (3 * 29 + i)) = true := by decide +kernel
theorem okM_g30 : (List.range 3).all (fun i => okM (3 * 30 + i)) = true := by decide +kernel
theorem okM_g31 : (List.range 3).all (fun i => okM (3 * 31 + i)) = true := by decide +kernel
theorem okM_g32 : (List.range 3).all (fun i => okM (3 * 32 + i)) = true := by decide +kernel
theorem okM_g33 : (List.range 3).all (fun i => okM (3 * 33 + i)) = true := by decide +kernel
theorem okM_g34 : (List.range 3).all (fun i => okM (3 * 34 + i)) = true := by decide +kernel
theorem okM_g35 : (List.range 3).all (fun i => okM (3 * 35 + i)) = true := by decide +kernel
theorem okM_g36 : (List.range 3).all (fun i => okM (3 * 36 + i)) = true := by decide +kernel
theorem okM_g37 : (List.range 3).all (fun i => okM (3 * 37 + i)) = true := by decide +kernel
theorem okM_g38 : (List.range 3).all (fun i => okM (3 * 38 + i)) = true := by decide +kernel
theorem okM_g39 : (List.range 3).all (fun i => okM (3 * 39 + i)) = true := by decide +kernel
theorem okM_g40 : (List.range 3).all (fun i => okM (3 * 40 + i)) = true := by decide +kernel
theorem okM_g41 : (List.range 3).all (fun i => okM (3 * 41 + i)) = true := by decide +kernel
theorem okM_g42 : (List.range 3).all (fun i => okM (3 * 42 + i)) = true := by decide +kernel
theorem okM_g43 : (List.range 3).all (fun i => okM (3 * 43 + i)) = true := by decide +kernel
theorem okM_g44 : (List.range 3).all (fun i => okM (3 * 44 + i)) = true := by decide +kernel
theorem okM_g45 : (List.range 3).all (fun i => okM (3 * 45 + i)) = true := by decide +kernel
theorem okM_g46 : (List.range 3).all (fun i => okM (3 * 46 + i)) = true := by decide +kernel
theorem okM_g47 : (List.range 3).all (fun i => okM (3 * 47 + i)) = true := by decide +kernel
theorem okM_g48 : (List.range 3).all (fun i => okM (3 * 48 + i)) = true := by decide +kernel
theorem okM_g49 : (List.range 3).all (fun i => okM (3 * 49 + i)) = true := by decide +kernel
theorem okM_g50 : (List.range 3).all (fun i => okM (3 * 50 + i)) = true := by decide +kernel
theorem okM_g51 : (List.range 3).all (fun i => okM (3 * 51 + i)) = true := by decide +kernel
theorem okM_g52 : (List.range 3).all (fun i => okM (3 * 52 + i)) = true := by decide +kernel
theorem okM_g53 : (List.range 3).all (fun i => okM (3 * 53 + i)) = true := by decide +kernel
theorem okM_g54 : (List.range 3).all (fun i => okM (3 * 54 + i)) = true := by decide +kernel
theorem okM_g55 : (List.range 3).all (fun i => okM (3 * 55 + i)) = true := by decide +kernel
theorem okM_g56 : (List.range 3).all (fun i => okM (3 * 56 + i)) = true := by decide +kernel
theorem okM_g57 : (List.range 3).all (fun i => okM (3 * 57 + i)) = true := by decide +kernel
theorem okM_g58 : (List.range 3).all (fun i => okM (3 * 58 + i)) = true := by decide +kernel
theorem okM_g59 : (List.range 3).all (fun i => okM (3 * 59 + i)) = true := by decide +kernel
theorem okM_g60 : (List.range 3).all (fun i => okM (3 * 60 + i)) = true := by decide +kernel
theorem okM_g61 : (List.range 3).all (fun i => okM (3 * 61 + i)) = true := by decide +kernel
theorem okM_g62 : (List.range 3).all (fun i => okM (3 * 62 + i)) = true := by decide +kernel
theorem okM_g63 : (List.range 3).all (fun i => okM (3 * 63 + i)) = true := by decide +kernel
theorem okM_g64 : (List.range 3).all (fun i => okM (3 * 64 + i)) = true := by decide +kernel
theorem okM_g : ∀ k, k < 65 → (List.range 3).all (fun i => okM (3 * k + i)) = true
  | 0, _ => okM_g0
  | 1, _ => okM_g1
  | 2, _ => okM_g2
  | 3, _ => okM_g3
  | 4, _ => okM_g4
  | 5, _ => okM_g5
  | 6, _ => okM_g6
  | 7, _ => okM_g7
  | 8, _ => okM_g8
  | 9, _ => okM_g9
  | 10, _ => okM_g10
  | 11, _ => okM_g11
  | 12, _ => okM_g12
  | 13, _ => okM_g13
  | 14, _ => okM_g14
  | 15, _ => okM_g15
  | 16, _ => okM_g16
  | 17, _ => okM_g17
  | 18, _ => okM_g18
  | 19, _ => okM_g19
  | 20, _ => okM_g20
  | 21, _ => okM_g21
  | 22, _ => okM_g22
  | 23, _ => okM_g23
  | 24, _ => okM_g24
  | 25, _ => okM_g25
  | 26, _ => okM_g26
  | 27, _ => okM_g27
  | 28, _ => okM_g28
  | 29, _ => okM_g29
  | 30, _ => okM_g30
  | 31, _ => okM_g31
  | 32, _ => okM_g32
  | 33, _ => okM_g33
  | 34, _ => okM_g34
  | 35, _ => okM_g35
  | 36, _ => okM_g36
  | 37, _ => okM_g37
  | 38, _ => okM_g38
  | 39, _ => okM_g39
  | 40, _ => okM_g40
  | 41, _ => okM_g41
  | 42, _ => okM_g42
  | 43, _ => okM_g43
  | 44, _ => okM_g44
  | 45, _ => okM_g45
  | 46, _ => okM_g46
  | 47, _ => okM_g47
  | 48, _ => okM_g48
  | 49, _ => okM_g49
  | 50, _ => okM_g50
  | 51, _ => okM_g51
  | 52, _ => okM_g52
  | 53, _ => okM_g53
  | 54, _ => okM_g54
  | 55, _ => okM_g55
  | 56, _ => okM_g56
  | 57, _ => okM_g57
  | 58, _ => okM_g58
  | 59, _ => okM_g59
  | 60, _ => okM_g60
  | 61, _ => okM_g61
  | 62, _ => okM_g62
  | 63, _ => okM_g63
  | 64, _ => okM_g64
  | k + 65, h => absurd h (by omega)
theorem okM_all {μ : Nat} (h : μ < nM) : okM μ = true := by
  have h0 : μ < 195 := h
  have h1 := List.all_eq_true.mp (okM_g (μ / 3) (by omega)) (μ % 3) (List.mem_range.mpr (by omega))
  have e : 3 * (μ / 3) + μ % 3 = μ := by omega
  rw [e] at h1
  exact h1
