set_option maxRecDepth 100000 in
def M_X12_init : ab_M := (yX12_init, cX12_init, 1, none, 12, 0, [
  [oo (.aload_n 0) 1, om (.invokespecial 7) 4 0 Lib.objectInit, nn, nn, oo (.aload_n 0) 5, oo (.sipush 2000) 8, nn, nn, oo (.newarray .byte) 10, nn, of (.putfield 13) 13 12 1, nn, nn, oo (.aload_n 0) 14, oo (.sipush 2000) 17, nn],
  [nn, oo (.newarray .byte) 19, nn, of (.putfield 17) 22 12 3, nn, nn, oo (.aload_n 0) 23, oo (.sipush 403) 26, nn, nn, oo (.newarray .int) 28, nn, of (.putfield 20) 31 12 5, nn, nn, oo (.aload_n 0) 32],
  [oo (.sipush 403) 35, nn, nn, oo (.newarray .int) 37, nn, of (.putfield 24) 40 12 6, nn, nn, oo (.aload_n 0) 41, oo (.sipush 403) 44, nn, nn, oo (.newarray .int) 46, nn, of (.putfield 27) 49 12 7, nn],
  [nn, oo (.aload_n 0) 50, oo (.sipush 403) 53, nn, nn, oo (.newarray .long) 55, nn, of (.putfield 30) 58 12 8, nn, nn, oo (.aload_n 0) 59, oo (.bipush 21) 61, nn, oo (.newarray .long) 63, nn, of (.putfield 34) 66 12 9],
  [nn, nn, oo (.aload_n 0) 67, oo (.iconst (-1)) 68, of (.putfield 37) 71 12 17, nn, nn, oo (.aload_n 0) 72, oo (.iconst 2) 73, oo (.newarray .int) 75, nn, of (.putfield 40) 78 12 20, nn, nn, oo (.aload_n 0) 79, oo (.bipush 8) 81],
  [nn, oo (.newarray .long) 83, nn, of (.putfield 43) 86 12 21, nn, nn, oo (.aload_n 0) 87, oo (.bipush 8) 89, nn, oo (.newarray .int) 91, nn, of (.putfield 46) 94 12 22, nn, nn, oo (.aload_n 0) 95, oo (.bipush 8) 97],
  [nn, oo (.newarray .int) 99, nn, of (.putfield 49) 102 12 23, nn, nn, oo (.aload_n 0) 103, oo (.iconst 2) 104, oo (.newarray .int) 106, nn, of (.putfield 52) 109 12 24, nn, nn, oo (.aload_n 0) 110, oo (.bipush 16) 112, nn],
  [oo (.newarray .long) 114, nn, of (.putfield 55) 117 12 25, nn, nn, oo (.aload_n 0) 118, oo (.iconst 2) 119, oo (.newarray .int) 121, nn, of (.putfield 58) 124 12 26, nn, nn, oo (.aload_n 0) 125, oo (.bipush 8) 127, nn, oo (.newarray .long) 129],
  [nn, of (.putfield 61) 132 12 27, nn, nn, oo (.aload_n 0) 133, oo (.bipush 8) 135, nn, oo (.newarray .int) 137, nn, of (.putfield 64) 140 12 28, nn, nn, oo (.aload_n 0) 141, oo (.bipush 8) 143, nn, oo (.newarray .int) 145],
  [nn, of (.putfield 67) 148 12 29, nn, nn, oo (.aload_n 0) 149, oo (.bipush 8) 151, nn, oo (.newarray .int) 153, nn, of (.putfield 70) 156 12 30, nn, nn, oo (.aload_n 0) 157, oo (.iconst 4) 158, oo (.newarray .int) 160, nn],
  [of (.putfield 73) 163 12 31, nn, nn, oo (.aload_n 0) 164, oo (.iconst 2) 165, oo (.newarray .int) 167, nn, of (.putfield 76) 170 12 32, nn, nn, oo (.aload_n 0) 171, oo (.iconst 2) 172, oo (.newarray .int) 174, nn, of (.putfield 79) 177 12 33, nn],
  [nn, oo (.aload_n 0) 178, oo (.bipush 6) 180, nn, oo (.newarray .int) 182, nn, of (.putfield 82) 185 12 34, nn, nn, oo (.aload_n 0) 186, oo (.bipush 6) 188, nn, oo (.newarray .int) 190, nn, of (.putfield 85) 193 12 35, nn],
  [nn, oo (.aload_n 0) 194, oo (.sipush 260) 197, nn, nn, oo (.newarray .boolean) 199, nn, of (.putfield 88) 202 12 37, nn, nn, oo (.aload_n 0) 203, oo (.sipush 260) 206, nn, nn, oo (.newarray .int) 208, nn],
  [of (.putfield 92) 211 12 38, nn, nn, oo (.aload_n 0) 212, oo (.sipush 260) 215, nn, nn, oo (.newarray .int) 217, nn, of (.putfield 95) 220 12 39, nn, nn, oo (.aload_n 0) 221, oo (.sipush 260) 224, nn, nn],
  [oo (.newarray .int) 226, nn, of (.putfield 98) 229 12 40, nn, nn, oo (.aload_n 0) 230, oo (.sipush 260) 233, nn, nn, oo (.newarray .int) 235, nn, of (.putfield 101) 238 12 41, nn, nn, oo (.aload_n 0) 239, oo (.sipush 840) 242],
  [nn, nn, oo (.newarray .int) 244, nn, of (.putfield 104) 247 12 43, nn, nn, oo (.aload_n 0) 248, oo (.sipush 840) 251, nn, nn, oo (.newarray .int) 253, nn, of (.putfield 107) 256 12 44, nn, nn],
  [oo (.aload_n 0) 257, oo (.bipush 64) 259, nn, oo (.newarray .int) 261, nn, of (.putfield 110) 264 12 45, nn, nn, oo (.aload_n 0) 265, oo (.bipush 9) 267, nn, oo (.newarray .int) 269, nn, of (.putfield 113) 272 12 47, nn, nn],
  [oo (.aload_n 0) 273, oo (.sipush 400) 276, nn, nn, oo (.newarray .int) 278, nn, of (.putfield 116) 281 12 48, nn, nn, oo (.aload_n 0) 282, oo (.sipush 141) 285, nn, nn, oo (.newarray .int) 287, nn, of (.putfield 119) 290 12 50],
  [nn, nn, oo (.aload_n 0) 291, oo (.sipush 141) 294, nn, nn, oo (.newarray .int) 296, nn, of (.putfield 122) 299 12 51, nn, nn, oo (.aload_n 0) 300, oo (.bipush 32) 302, nn, oo (.newarray .int) 304, nn],
  [of (.putfield 125) 307 12 55, nn, nn, oo (.aload_n 0) 308, oo (.bipush 32) 310, nn, oo (.newarray .int) 312, nn, of (.putfield 128) 315 12 56, nn, nn, oo (.aload_n 0) 316, oo (.bipush 32) 318, nn, oo (.newarray .boolean) 320, nn],
  [of (.putfield 131) 323 12 57, nn, nn, oo (.aload_n 0) 324, oo (.sipush 5640) 327, nn, nn, oo (.newarray .int) 329, nn, of (.putfield 134) 332 12 59, nn, nn, oo (.aload_n 0) 333, oo (.bipush 80) 335, nn, oo (.newarray .int) 337],
  [nn, of (.putfield 137) 340 12 61, nn, nn, oo (.aload_n 0) 341, oo (.sipush 10240) 344, nn, nn, oo (.newarray .int) 346, nn, of (.putfield 140) 349 12 62, nn, nn, oo (.aload_n 0) 350, oo (.bipush 27) 352, nn],
  [oo (.newarray .int) 354, nn, of (.putfield 143) 357 12 64, nn, nn, oo (.aload_n 0) 358, oo (.bipush 20) 360, nn, oo (.newarray .int) 362, nn, of (.putfield 146) 365 12 66, nn, nn, oo (.aload_n 0) 366, oo (.bipush 20) 368, nn],
  [oo (.newarray .boolean) 370, nn, of (.putfield 149) 373 12 67, nn, nn, oo (.aload_n 0) 374, oo (.iconst 3) 375, oo (.newarray .boolean) 377, nn, of (.putfield 152) 380 12 68, nn, nn, oo (.aload_n 0) 381, oo (.sipush 423) 384, nn, nn],
  [oo (.newarray .int) 386, nn, of (.putfield 155) 389 12 69, nn, nn, oo (.aload_n 0) 390, oo (.iconst 0) 391, om (.invokevirtual 158) 394 0 yX12_plain, nn, nn, oo (.aload_n 0) 395, oo (.iconst 1) 396, om (.invokevirtual 158) 399 0 yX12_plain, nn, nn, oo (.aload_n 0) 400],
  [of (.getfield 34) 403 12 9, nn, nn, oo (.iconst 0) 404, oo (.bipush 108) 406, nn, oo (.bipush 101) 408, nn, oo (.bipush 116) 410, nn, oo (.bipush 116) 412, nn, oo (.bipush 101) 414, nn, oo (.bipush 114) 416, nn],
  [oo (.iconst 0) 417, om (.invokestatic 162) 420 0 yX12_word, nn, nn, oo .lastore 421, oo (.aload_n 0) 422, of (.getfield 34) 425 12 9, nn, nn, oo (.iconst 1) 426, oo (.bipush 119) 428, nn, oo (.bipush 111) 430, nn, oo (.bipush 114) 432, nn],
  [oo (.bipush 100) 434, nn, oo (.iconst 0) 435, oo (.iconst 0) 436, oo (.iconst 0) 437, om (.invokestatic 162) 440 0 yX12_word, nn, nn, oo .lastore 441, oo (.aload_n 0) 442, of (.getfield 34) 445 12 9, nn, nn, oo (.iconst 2) 446, oo (.bipush 112) 448, nn],
  [oo (.bipush 105) 450, nn, oo (.bipush 99) 452, nn, oo (.bipush 107) 454, nn, oo (.bipush 101) 456, nn, oo (.bipush 114) 458, nn, oo (.iconst 0) 459, om (.invokestatic 162) 462 0 yX12_word, nn, nn, oo .lastore 463, oo (.aload_n 0) 464],
  [of (.getfield 34) 467 12 9, nn, nn, oo (.iconst 3) 468, oo (.bipush 98) 470, nn, oo (.bipush 108) 472, nn, oo (.bipush 111) 474, nn, oo (.bipush 119) 476, nn, oo (.bipush 115) 478, nn, oo (.iconst 0) 479, oo (.iconst 0) 480],
  [om (.invokestatic 162) 483 0 yX12_word, nn, nn, oo .lastore 484, oo (.aload_n 0) 485, of (.getfield 34) 488 12 9, nn, nn, oo (.iconst 4) 489, oo (.bipush 116) 491, nn, oo (.bipush 97) 493, nn, oo (.bipush 107) 495, nn, oo (.bipush 101) 497],
  [nn, oo (.bipush 115) 499, nn, oo (.iconst 0) 500, oo (.iconst 0) 501, om (.invokestatic 162) 504 0 yX12_word, nn, nn, oo .lastore 505, oo (.aload_n 0) 506, of (.getfield 34) 509 12 9, nn, nn, oo (.iconst 5) 510, oo (.bipush 112) 512, nn],
  [oo (.bipush 97) 514, nn, oo (.bipush 121) 516, nn, oo (.bipush 115) 518, nn, oo (.iconst 0) 519, oo (.iconst 0) 520, oo (.iconst 0) 521, om (.invokestatic 162) 524 0 yX12_word, nn, nn, oo .lastore 525, oo (.aload_n 0) 526, of (.getfield 34) 529 12 9, nn],
  [nn, oo (.bipush 6) 531, nn, oo (.bipush 119) 533, nn, oo (.bipush 105) 535, nn, oo (.bipush 110) 537, nn, oo (.bipush 100) 539, nn, oo (.iconst 0) 540, oo (.iconst 0) 541, oo (.iconst 0) 542, om (.invokestatic 162) 545 0 yX12_word, nn],
  [nn, oo .lastore 546, oo (.aload_n 0) 547, of (.getfield 34) 550 12 9, nn, nn, oo (.bipush 7) 552, nn, oo (.bipush 114) 554, nn, oo (.bipush 97) 556, nn, oo (.bipush 105) 558, nn, oo (.bipush 110) 560, nn],
  [oo (.iconst 0) 561, oo (.iconst 0) 562, oo (.iconst 0) 563, om (.invokestatic 162) 566 0 yX12_word, nn, nn, oo .lastore 567, oo (.aload_n 0) 568, of (.getfield 34) 571 12 9, nn, nn, oo (.bipush 8) 573, nn, oo (.bipush 115) 575, nn, oo (.bipush 101) 577],
  [nn, oo (.bipush 101) 579, nn, oo (.bipush 100) 581, nn, oo (.iconst 0) 582, oo (.iconst 0) 583, oo (.iconst 0) 584, om (.invokestatic 162) 587 0 yX12_word, nn, nn, oo .lastore 588, oo (.aload_n 0) 589, of (.getfield 34) 592 12 9, nn, nn],
  [oo (.bipush 9) 594, nn, oo (.bipush 105) 596, nn, oo (.bipush 102) 598, nn, oo (.iconst 0) 599, oo (.iconst 0) 600, oo (.iconst 0) 601, oo (.iconst 0) 602, oo (.iconst 0) 603, om (.invokestatic 162) 606 0 yX12_word, nn, nn, oo .lastore 607, oo (.aload_n 0) 608],
  [of (.getfield 34) 611 12 9, nn, nn, oo (.bipush 10) 613, nn, oo (.bipush 116) 615, nn, oo (.bipush 104) 617, nn, oo (.bipush 101) 619, nn, oo (.bipush 110) 621, nn, oo (.iconst 0) 622, oo (.iconst 0) 623, oo (.iconst 0) 624],
  [om (.invokestatic 162) 627 0 yX12_word, nn, nn, oo .lastore 628, oo (.aload_n 0) 629, of (.getfield 34) 632 12 9, nn, nn, oo (.bipush 11) 634, nn, oo (.bipush 101) 636, nn, oo (.bipush 108) 638, nn, oo (.bipush 115) 640, nn],
  [oo (.bipush 101) 642, nn, oo (.iconst 0) 643, oo (.iconst 0) 644, oo (.iconst 0) 645, om (.invokestatic 162) 648 0 yX12_word, nn, nn, oo .lastore 649, oo (.aload_n 0) 650, of (.getfield 34) 653 12 9, nn, nn, oo (.bipush 12) 655, nn, oo (.bipush 115) 657],
  [nn, oo (.bipush 105) 659, nn, oo (.bipush 103) 661, nn, oo (.bipush 110) 663, nn, oo (.iconst 0) 664, oo (.iconst 0) 665, oo (.iconst 0) 666, om (.invokestatic 162) 669 0 yX12_word, nn, nn, oo .lastore 670, oo (.aload_n 0) 671, of (.getfield 34) 674 12 9],
  [nn, nn, oo (.bipush 13) 676, nn, oo (.bipush 97) 678, nn, oo (.bipush 99) 680, nn, oo (.bipush 114) 682, nn, oo (.bipush 111) 684, nn, oo (.bipush 115) 686, nn, oo (.bipush 115) 688, nn],
  [oo (.iconst 0) 689, om (.invokestatic 162) 692 0 yX12_word, nn, nn, oo .lastore 693, oo (.aload_n 0) 694, of (.getfield 34) 697 12 9, nn, nn, oo (.bipush 14) 699, nn, oo (.bipush 100) 701, nn, oo (.bipush 111) 703, nn, oo (.bipush 119) 705],
  [nn, oo (.bipush 110) 707, nn, oo (.iconst 0) 708, oo (.iconst 0) 709, oo (.iconst 0) 710, om (.invokestatic 162) 713 0 yX12_word, nn, nn, oo .lastore 714, oo (.aload_n 0) 715, of (.getfield 34) 718 12 9, nn, nn, oo (.bipush 15) 720, nn],
  [oo (.bipush 104) 722, nn, oo (.bipush 111) 724, nn, oo (.bipush 117) 726, nn, oo (.bipush 114) 728, nn, oo (.iconst 0) 729, oo (.iconst 0) 730, oo (.iconst 0) 731, om (.invokestatic 162) 734 0 yX12_word, nn, nn, oo .lastore 735, oo (.aload_n 0) 736],
  [of (.getfield 34) 739 12 9, nn, nn, oo (.bipush 16) 741, nn, oo (.bipush 108) 743, nn, oo (.bipush 97) 745, nn, oo (.bipush 105) 747, nn, oo (.bipush 110) 749, nn, oo (.iconst 0) 750, oo (.iconst 0) 751, oo (.iconst 0) 752],
  [om (.invokestatic 162) 755 0 yX12_word, nn, nn, oo .lastore 756, oo (.aload_n 0) 757, of (.getfield 34) 760 12 9, nn, nn, oo (.bipush 17) 762, nn, oo (.bipush 104) 764, nn, oo (.bipush 97) 766, nn, oo (.bipush 116) 768, nn],
  [oo (.iconst 0) 769, oo (.iconst 0) 770, oo (.iconst 0) 771, oo (.iconst 0) 772, om (.invokestatic 162) 775 0 yX12_word, nn, nn, oo .lastore 776, oo (.aload_n 0) 777, of (.getfield 34) 780 12 9, nn, nn, oo (.bipush 18) 782, nn, oo (.bipush 104) 784, nn],
  [oo (.bipush 97) 786, nn, oo (.bipush 115) 788, nn, oo (.iconst 0) 789, oo (.iconst 0) 790, oo (.iconst 0) 791, oo (.iconst 0) 792, om (.invokestatic 162) 795 0 yX12_word, nn, nn, oo .lastore 796, oo (.aload_n 0) 797, of (.getfield 34) 800 12 9, nn, nn],
  [oo (.bipush 19) 802, nn, oo (.bipush 104) 804, nn, oo (.bipush 101) 806, nn, oo (.bipush 114) 808, nn, oo (.bipush 101) 810, nn, oo (.iconst 0) 811, oo (.iconst 0) 812, oo (.iconst 0) 813, om (.invokestatic 162) 816 0 yX12_word, nn, nn],
  [oo .lastore 817, oo (.aload_n 0) 818, of (.getfield 34) 821 12 9, nn, nn, oo (.bipush 20) 823, nn, oo (.bipush 119) 825, nn, oo (.bipush 104) 827, nn, oo (.bipush 105) 829, nn, oo (.bipush 99) 831, nn, oo (.bipush 104) 833],
  [nn, oo (.iconst 0) 834, oo (.iconst 0) 835, om (.invokestatic 162) 838 0 yX12_word, nn, nn, oo .lastore 839, oo (.aload_n 0) 840, om (.invokevirtual 166) 843 0 yX12_begins, nn, nn, oo (.aload_n 0) 844, om (.invokevirtual 169) 847 0 yX12_keepsRow, nn, nn, oo .return_ 848]])
def P_X12_init : List (List (List Nat)) := [[[],[1126,132],[],[],[],[],[],[],[149],[],[1152],[],[],[],[],[]], [[],[149],[],[1154],[],[],[],[],[],[],[233],[],[1156],[],[],[]], [[],[],[],[233],[],[1157],[],[],[],[],[],[],[233],[],[1158],[]], [[],[],[],[],[],[234],[],[1159],[],[],[],[],[],[234],[],[1160]], [[],[],[],[],[1168],[],[],[],[],[233],[],[1171],[],[],[],[]], [[],[234],[],[1172],[],[],[],[],[],[233],[],[1173],[],[],[],[]], [[],[233],[],[1174],[],[],[],[],[233],[],[1175],[],[],[],[],[]], [[234],[],[1176],[],[],[],[],[233],[],[1177],[],[],[],[],[],[234]], [[],[1178],[],[],[],[],[],[233],[],[1179],[],[],[],[],[],[233]], [[],[1180],[],[],[],[],[],[233],[],[1181],[],[],[],[],[233],[]], [[1182],[],[],[],[],[233],[],[1183],[],[],[],[],[233],[],[1184],[]], [[],[],[],[],[233],[],[1185],[],[],[],[],[],[233],[],[1186],[]], [[],[],[],[],[],[1362],[],[1188],[],[],[],[],[],[],[233],[]], [[1189],[],[],[],[],[],[],[233],[],[1190],[],[],[],[],[],[]], [[233],[],[1191],[],[],[],[],[],[],[233],[],[1192],[],[],[],[]], [[],[],[233],[],[1194],[],[],[],[],[],[],[233],[],[1195],[],[]], [[],[],[],[233],[],[1196],[],[],[],[],[],[233],[],[1198],[],[]], [[],[],[],[],[233],[],[1199],[],[],[],[],[],[],[233],[],[1201]], [[],[],[],[],[],[],[233],[],[1202],[],[],[],[],[],[233],[]], [[1206],[],[],[],[],[],[233],[],[1207],[],[],[],[],[],[1362],[]], [[1208],[],[],[],[],[],[],[233],[],[1210],[],[],[],[],[],[233]], [[],[1212],[],[],[],[],[],[],[233],[],[1213],[],[],[],[],[]], [[233],[],[1215],[],[],[],[],[],[233],[],[1217],[],[],[],[],[]], [[1362],[],[1218],[],[],[],[],[1362],[],[1219],[],[],[],[],[],[]], [[233],[],[1220],[],[],[],[],[1127,1129,37],[],[],[],[],[1127,1129,37],[],[],[]], [[1160],[],[],[],[],[],[],[],[],[],[],[],[],[],[],[]], [[],[1131,1132],[],[],[],[],[1160],[],[],[],[],[],[],[],[],[]], [[],[],[],[],[],[1131,1132],[],[],[],[],[1160],[],[],[],[],[]], [[],[],[],[],[],[],[],[],[],[],[],[1131,1132],[],[],[],[]], [[1160],[],[],[],[],[],[],[],[],[],[],[],[],[],[],[]], [[1131,1132],[],[],[],[],[1160],[],[],[],[],[],[],[],[],[],[]], [[],[],[],[],[],[1131,1132],[],[],[],[],[1160],[],[],[],[],[]], [[],[],[],[],[],[],[],[],[],[1131,1132],[],[],[],[],[1160],[]], [[],[],[],[],[],[],[],[],[],[],[],[],[],[],[1131,1132],[]], [[],[],[],[1160],[],[],[],[],[],[],[],[],[],[],[],[]], [[],[],[],[1131,1132],[],[],[],[],[1160],[],[],[],[],[],[],[]], [[],[],[],[],[],[],[],[],[1131,1132],[],[],[],[],[1160],[],[]], [[],[],[],[],[],[],[],[],[],[],[],[1131,1132],[],[],[],[]], [[1160],[],[],[],[],[],[],[],[],[],[],[],[],[],[],[]], [[1131,1132],[],[],[],[],[1160],[],[],[],[],[],[],[],[],[],[]], [[],[],[],[],[],[1131,1132],[],[],[],[],[1160],[],[],[],[],[]], [[],[],[],[],[],[],[],[],[],[],[1131,1132],[],[],[],[],[1160]], [[],[],[],[],[],[],[],[],[],[],[],[],[],[],[],[]], [[],[1131,1132],[],[],[],[],[1160],[],[],[],[],[],[],[],[],[]], [[],[],[],[],[],[],[1131,1132],[],[],[],[],[1160],[],[],[],[]], [[],[],[],[],[],[],[],[],[],[],[],[1131,1132],[],[],[],[]], [[1160],[],[],[],[],[],[],[],[],[],[],[],[],[],[],[]], [[1131,1132],[],[],[],[],[1160],[],[],[],[],[],[],[],[],[],[]], [[],[],[],[],[1131,1132],[],[],[],[],[1160],[],[],[],[],[],[]], [[],[],[],[],[],[],[],[],[1131,1132],[],[],[],[],[1160],[],[]], [[],[],[],[],[],[],[],[],[],[],[],[],[],[1131,1132],[],[]], [[],[],[1160],[],[],[],[],[],[],[],[],[],[],[],[],[]], [[],[],[],[1131,1132],[],[],[],[],[1138,1140,38],[],[],[],[1148,1150,39],[],[],[]]]
set_option maxRecDepth 100000 in
theorem kT_X12_init_0 : ab_chkR M_X12_init P_X12_init 0 256 = true := by decide +kernel
set_option maxRecDepth 100000 in
theorem kT_X12_init_1 : ab_chkR M_X12_init P_X12_init 256 256 = true := by decide +kernel
set_option maxRecDepth 100000 in
theorem kT_X12_init_2 : ab_chkR M_X12_init P_X12_init 512 256 = true := by decide +kernel
set_option maxRecDepth 100000 in
theorem kT_X12_init_3 : ab_chkR M_X12_init P_X12_init 768 80 = true := by decide +kernel
theorem kT_X12_init : ab_okT M_X12_init := ab_okT_of (P := P_X12_init) 848 (Nat.le_of_ble_eq_true rfl) (fun pc h => by
  by_cases h0 : pc < 256
  · exact ab_chkR_of kT_X12_init_0 pc (by omega) (by omega)
  by_cases h1 : pc < 512
  · exact ab_chkR_of kT_X12_init_1 pc (by omega) (by omega)
  by_cases h2 : pc < 768
  · exact ab_chkR_of kT_X12_init_2 pc (by omega) (by omega)
  by_cases h3 : pc < 848
  · exact ab_chkR_of kT_X12_init_3 pc (by omega) (by omega)
  omega)
theorem kM_X12_init : ∀ w ∈ tables_1_5, w ∈ lw_tbl := fun w h => List.mem_append_right _ (List.mem_append_right _ (List.mem_append_right _ (List.mem_append_right _ (List.mem_append_right _ (List.mem_append_left _ (h))))))
set_option maxRecDepth 100000 in
theorem kY_X12_init : ab_okY M_X12_init := by
  refine ⟨by decide +kernel, List.mem_filter.mpr ⟨kM_X12_init _ (List.mem_of_getElem? (i := 61) rfl), rfl⟩, List.mem_filter.mpr ⟨List.mem_of_getElem? (i := 124) (by decide +kernel), rfl⟩, by decide +kernel, by decide +kernel, by decide +kernel⟩
def M_X12_feed : ab_M := (yX12_feed, cX12_feed, 6, (some .int), 12, 5, [
  [oo (.aload_n 0) 1, of (.getfield 172) 4 12 2, nn, nn, oo (.bipush 20) 6, nn, oo .iadd 7, oo (.sipush 2000) 10, nn, nn, oj (.if_icmp .le 5) 13 15, nn, nn, oo (.iconst (-1)) 14, oo .ireturn 15, oo (.aload_n 0) 16],
  [oo (.iload_n 1) 17, om (.invokevirtual 175) 20 0 yX12_put, nn, nn, oo (.aload_n 0) 21, oo (.iload_n 2) 22, om (.invokevirtual 175) 25 0 yX12_put, nn, nn, oo (.aload_n 0) 26, oo (.iload_n 3) 27, om (.invokevirtual 175) 30 0 yX12_put, nn, nn, oo (.aload_n 0) 31, oo (.iload 4) 33],
  [nn, om (.invokevirtual 175) 36 0 yX12_put, nn, nn, oo (.aload_n 0) 37, oo (.iload 5) 39, nn, om (.invokevirtual 175) 42 0 yX12_put, nn, nn, oo (.aload_n 0) 43, of (.getfield 172) 46 12 2, nn, nn, oo .ireturn 47, nn]])
def P_X12_feed : List (List (List Nat)) := [[[],[1153],[],[],[],[],[],[],[],[],[],[],[],[],[],[]], [[],[1367,1369,40],[],[],[],[],[1367,1369,40],[],[],[],[],[1367,1369,40],[],[],[],[]], [[],[1367,1369,40],[],[],[],[],[],[1367,1369,40],[],[],[],[1153],[],[],[],[]]]
set_option maxRecDepth 100000 in
theorem kT_X12_feed : ab_okT M_X12_feed := ab_okT_of (P := P_X12_feed) 48 (Nat.le_of_ble_eq_true rfl) (fun pc h => ab_chkR_of (lo := 0) (len := 48) (by decide +kernel) pc (Nat.zero_le _) (by omega))
theorem kY_X12_feed : ab_okY M_X12_feed := ab_okY_of 1366 124 (by decide +kernel)
def M_X12_put : ab_M := (yX12_put, cX12_put, 3, none, 12, 1, [
  [oo (.bipush 24) 2, nn, oo (.istore_n 2) 3, oo (.iload_n 2) 4, oj (.ifCond .lt 32) 7 36, nn, nn, oo (.aload_n 0) 8, of (.getfield 13) 11 12 1, nn, nn, oo (.aload_n 0) 12, of (.getfield 172) 15 12 2, nn, nn, oo (.iload_n 1) 16],
  [oo (.iload_n 2) 17, oo .ishr 18, oo .i2b 19, oo .bastore 20, oo (.aload_n 0) 21, oo .dup 22, of (.getfield 172) 25 12 2, nn, nn, oo (.iconst 1) 26, oo .iadd 27, of (.putfield 172) 30 12 2, nn, nn, oo (.iinc 2 (-8)) 33, nn],
  [nn, oj (.goto (-30)) 36 3, nn, nn, oo .return_ 37, nn, nn, nn, nn, nn, nn, nn, nn, nn, nn, nn]])
def P_X12_put : List (List (List Nat)) := [[[],[],[],[],[],[],[],[],[1152],[],[],[],[1153],[],[],[]], [[],[],[],[],[],[],[1153],[],[],[],[],[1153],[],[],[],[]], [[],[],[],[],[],[],[],[],[],[],[],[],[],[],[],[]]]
set_option maxRecDepth 100000 in
theorem kT_X12_put : ab_okT M_X12_put := ab_okT_of (P := P_X12_put) 48 (Nat.le_of_ble_eq_true rfl) (fun pc h => ab_chkR_of (lo := 0) (len := 48) (by decide +kernel) pc (Nat.zero_le _) (by omega))
theorem kY_X12_put : ab_okY M_X12_put := ab_okY_of 1370 124 (by decide +kernel)
def M_X12_back : ab_M := (yX12_back, cX12_back, 2, (some .int), 12, 1, [
  [oo (.iload_n 1) 1, oj (.ifCond .lt 11) 4 12, nn, nn, oo (.iload_n 1) 5, oo (.aload_n 0) 6, of (.getfield 172) 9 12 2, nn, nn, oj (.if_icmp .le 5) 12 14, nn, nn, oo (.iconst (-1)) 13, oo .ireturn 14, oo (.aload_n 0) 15, oo .dup 16],
  [of (.getfield 172) 19 12 2, nn, nn, oo (.iload_n 1) 20, oo .isub 21, of (.putfield 172) 24 12 2, nn, nn, oo (.aload_n 0) 25, of (.getfield 172) 28 12 2, nn, nn, oo .ireturn 29, nn, nn, nn]])
def P_X12_back : List (List (List Nat)) := [[[],[],[],[],[],[],[1153],[],[],[],[],[],[],[],[],[]], [[1153],[],[],[],[],[1153],[],[],[],[1153],[],[],[],[],[],[]]]
set_option maxRecDepth 100000 in
theorem kT_X12_back : ab_okT M_X12_back := ab_okT_of (P := P_X12_back) 32 (Nat.le_of_ble_eq_true rfl) (fun pc h => ab_chkR_of (lo := 0) (len := 32) (by decide +kernel) pc (Nat.zero_le _) (by omega))
theorem kY_X12_back : ab_okY M_X12_back := ab_okY_of 1374 124 (by decide +kernel)
def M_X12_byteAt : ab_M := (yX12_byteAt, cX12_byteAt, 2, (some .int), 12, 1, [
  [oo (.iload_n 1) 1, oo (.aload_n 0) 2, of (.getfield 178) 5 12 4, nn, nn, oj (.if_icmp .ge 16) 8 21, nn, nn, oo (.aload_n 0) 9, of (.getfield 17) 12 12 3, nn, nn, oo (.iload_n 1) 13, oo .baload 14, oo (.sipush 255) 17, nn],
  [nn, oo .iand 18, oj (.goto 4) 21 22, nn, nn, oo (.iconst 0) 22, oo .ireturn 23, nn, nn, nn, nn, nn, nn, nn, nn, nn]])
def P_X12_byteAt : List (List (List Nat)) := [[[],[],[1155],[],[],[],[],[],[],[1154],[],[],[],[],[],[]], [[],[],[],[],[],[],[],[],[],[],[],[],[],[],[],[]]]
set_option maxRecDepth 100000 in
theorem kT_X12_byteAt : ab_okT M_X12_byteAt := ab_okT_of (P := P_X12_byteAt) 32 (Nat.le_of_ble_eq_true rfl) (fun pc h => ab_chkR_of (lo := 0) (len := 32) (by decide +kernel) pc (Nat.zero_le _) (by omega))
theorem kY_X12_byteAt : ab_okY M_X12_byteAt := ab_okY_of 1386 124 (by decide +kernel)
def M_X12_isDigit : ab_M := (yX12_isDigit, cX12_isDigit, 1, (some .boolean), 12, 1, [
  [oo (.iload_n 0) 1, oo (.bipush 48) 3, nn, oj (.if_icmp .lt 13) 6 16, nn, nn, oo (.iload_n 0) 7, oo (.bipush 57) 9, nn, oj (.if_icmp .gt 7) 12 16, nn, nn, oo (.iconst 1) 13, oj (.goto 4) 16 17, nn, nn],
  [oo (.iconst 0) 17, oo .ireturn 18, nn, nn, nn, nn, nn, nn, nn, nn, nn, nn, nn, nn, nn, nn]])
def P_X12_isDigit : List (List (List Nat)) := [[[],[],[],[],[],[],[],[],[],[],[],[],[],[],[],[]], [[],[],[],[],[],[],[],[],[],[],[],[],[],[],[],[]]]
set_option maxRecDepth 100000 in
theorem kT_X12_isDigit : ab_okT M_X12_isDigit := ab_okT_of (P := P_X12_isDigit) 32 (Nat.le_of_ble_eq_true rfl) (fun pc h => ab_chkR_of (lo := 0) (len := 32) (by decide +kernel) pc (Nat.zero_le _) (by omega))
theorem kY_X12_isDigit : ab_okY M_X12_isDigit := ab_okY_of 1396 124 (by decide +kernel)
def M_X12_isLetter : ab_M := (yX12_isLetter, cX12_isLetter, 1, (some .boolean), 12, 1, [
  [oo (.iload_n 0) 1, oo (.bipush 97) 3, nn, oj (.if_icmp .lt 13) 6 16, nn, nn, oo (.iload_n 0) 7, oo (.bipush 122) 9, nn, oj (.if_icmp .gt 7) 12 16, nn, nn, oo (.iconst 1) 13, oj (.goto 4) 16 17, nn, nn],
  [oo (.iconst 0) 17, oo .ireturn 18, nn, nn, nn, nn, nn, nn, nn, nn, nn, nn, nn, nn, nn, nn]])
def P_X12_isLetter : List (List (List Nat)) := [[[],[],[],[],[],[],[],[],[],[],[],[],[],[],[],[]], [[],[],[],[],[],[],[],[],[],[],[],[],[],[],[],[]]]
set_option maxRecDepth 100000 in
theorem kT_X12_isLetter : ab_okT M_X12_isLetter := ab_okT_of (P := P_X12_isLetter) 32 (Nat.le_of_ble_eq_true rfl) (fun pc h => ab_chkR_of (lo := 0) (len := 32) (by decide +kernel) pc (Nat.zero_le _) (by omega))
theorem kY_X12_isLetter : ab_okY M_X12_isLetter := ab_okY_of 1393 124 (by decide +kernel)
def M_X12_appends : ab_M := (yX12_appends, cX12_appends, 3, (some .long), 12, 2, [
  [oo (.iload_n 2) 1, oj (.ifCond .ne 7) 4 8, nn, nn, oo (.lload_n 0) 5, oj (.goto 16) 8 21, nn, nn, oc (.ldc2_w 181) 11 (.long (27)), nn, nn, oo (.lload_n 0) 12, oo .lmul 13, oo (.iload_n 2) 14, oo (.bipush 97) 16, nn],
  [oo .isub 17, oo (.iconst 1) 18, oo .iadd 19, oo .i2l 20, oo .ladd 21, oo .lreturn 22, nn, nn, nn, nn, nn, nn, nn, nn, nn, nn]])
def P_X12_appends : List (List (List Nat)) := [[[],[],[],[],[],[],[],[],[1137],[],[],[],[],[],[],[]], [[],[],[],[],[],[],[],[],[],[],[],[],[],[],[],[]]]
set_option maxRecDepth 100000 in
theorem kT_X12_appends : ab_okT M_X12_appends := ab_okT_of (P := P_X12_appends) 32 (Nat.le_of_ble_eq_true rfl) (fun pc h => ab_chkR_of (lo := 0) (len := 32) (by decide +kernel) pc (Nat.zero_le _) (by omega))
theorem kY_X12_appends : ab_okY M_X12_appends := ab_okY_of 1136 124 (by decide +kernel)
def M_X12_word : ab_M := (yX12_word, cX12_word, 7, (some .long), 12, 7, [
  [oo (.lconst 0) 1, oo (.iload_n 0) 2, om (.invokestatic 183) 5 0 yX12_appends, nn, nn, oo (.iload_n 1) 6, om (.invokestatic 183) 9 0 yX12_appends, nn, nn, oo (.iload_n 2) 10, om (.invokestatic 183) 13 0 yX12_appends, nn, nn, oo (.iload_n 3) 14, om (.invokestatic 183) 17 0 yX12_appends, nn],
  [nn, oo (.iload 4) 19, nn, om (.invokestatic 183) 22 0 yX12_appends, nn, nn, oo (.iload 5) 24, nn, om (.invokestatic 183) 27 0 yX12_appends, nn, nn, oo (.iload 6) 29, nn, om (.invokestatic 183) 32 0 yX12_appends, nn, nn],
  [oo .lreturn 33, nn, nn, nn, nn, nn, nn, nn, nn, nn, nn, nn, nn, nn, nn, nn]])
def P_X12_word : List (List (List Nat)) := [[[],[],[1134,1135],[],[],[],[1134,1135],[],[],[],[1134,1135],[],[],[],[1134,1135],[]], [[],[],[],[1134,1135],[],[],[],[],[1134,1135],[],[],[],[],[1134,1135],[],[]], [[],[],[],[],[],[],[],[],[],[],[],[],[],[],[],[]]]
set_option maxRecDepth 100000 in
theorem kT_X12_word : ab_okT M_X12_word := ab_okT_of (P := P_X12_word) 48 (Nat.le_of_ble_eq_true rfl) (fun pc h => ab_chkR_of (lo := 0) (len := 48) (by decide +kernel) pc (Nat.zero_le _) (by omega))
theorem kY_X12_word : ab_okY M_X12_word := ab_okY_of 1133 124 (by decide +kernel)
def M_X12_token : ab_M := (yX12_token, cX12_token, 6, none, 12, 4, [
  [oo (.aload_n 0) 1, of (.getfield 20) 4 12 5, nn, nn, oo (.aload_n 0) 5, of (.getfield 187) 8 12 10, nn, nn, oo (.iload_n 1) 9, oo .iastore 10, oo (.aload_n 0) 11, of (.getfield 24) 14 12 6, nn, nn, oo (.aload_n 0) 15, of (.getfield 187) 18 12 10],
  [nn, nn, oo (.iload_n 2) 19, oo .iastore 20, oo (.aload_n 0) 21, of (.getfield 27) 24 12 7, nn, nn, oo (.aload_n 0) 25, of (.getfield 187) 28 12 10, nn, nn, oo (.iload_n 3) 29, oo .iastore 30, oo (.aload_n 0) 31, of (.getfield 30) 34 12 8],
  [nn, nn, oo (.aload_n 0) 35, of (.getfield 187) 38 12 10, nn, nn, oo (.lload 4) 40, nn, oo .lastore 41, oo (.aload_n 0) 42, oo .dup 43, of (.getfield 187) 46 12 10, nn, nn, oo (.iconst 1) 47, oo .iadd 48],
  [of (.putfield 187) 51 12 10, nn, nn, oo .return_ 52, nn, nn, nn, nn, nn, nn, nn, nn, nn, nn, nn, nn]])
def P_X12_token : List (List (List Nat)) := [[[],[1156],[],[],[],[1161],[],[],[],[],[],[1157],[],[],[],[1161]], [[],[],[],[],[],[1158],[],[],[],[1161],[],[],[],[],[],[1159]], [[],[],[],[1161],[],[],[],[],[],[],[],[1161],[],[],[],[]], [[1161],[],[],[],[],[],[],[],[],[],[],[],[],[],[],[]]]
set_option maxRecDepth 100000 in
theorem kT_X12_token : ab_okT M_X12_token := ab_okT_of (P := P_X12_token) 64 (Nat.le_of_ble_eq_true rfl) (fun pc h => ab_chkR_of (lo := 0) (len := 64) (by decide +kernel) pc (Nat.zero_le _) (by omega))
theorem kY_X12_token : ab_okY M_X12_token := ab_okY_of 1390 124 (by decide +kernel)
