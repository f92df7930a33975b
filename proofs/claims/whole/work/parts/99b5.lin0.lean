theorem mem_p {big ws : List Cond} (ps : List Nat) (hp : ws = ps.filterMap (fun i => big[i]?)) : ∀ w ∈ ws, w ∈ big := by
  intro w h
  rw [hp] at h
  obtain ⟨i, -, hi⟩ := List.mem_filterMap.mp h
  exact List.mem_of_getElem? hi
set_option maxRecDepth 20000 in
theorem lin_r1 : ∀ w ∈ wsL_law0_r1, w ∈ lw_tbl := mem_p [152, 153, 124, 1448, 1446, 137, 195, 2061, 154, 155, 156, 157, 158, 159, 160, 161, 125, 461, 196, 197, 126, 462, 230, 231] (by decide +kernel)
set_option maxRecDepth 20000 in
theorem lin_r2 : ∀ w ∈ wsL_law0_r2, w ∈ lw_tbl := mem_p [130, 463, 464, 465, 466, 303, 304, 132, 467, 330, 331, 133, 468, 346, 347, 134, 469, 194, 470, 471, 472, 366, 367, 135] (by decide +kernel)
set_option maxRecDepth 20000 in
theorem lin_r3 : ∀ w ∈ wsL_law0_r3, w ∈ lw_tbl := mem_p [473, 474, 438, 439, 136, 475, 476, 477, 478, 479, 163, 164, 165, 193, 166, 167, 168, 169, 170, 171, 172, 174, 198, 199] (by decide +kernel)
set_option maxRecDepth 20000 in
theorem lin_r4 : ∀ w ∈ wsL_law0_r4, w ∈ lw_tbl := mem_p [200, 201, 223, 202, 203, 127, 224, 204, 205, 206, 207, 211, 212, 208, 213, 210, 232, 233, 234, 235, 243, 245, 247, 250] (by decide +kernel)
set_option maxRecDepth 20000 in
theorem lin_r5 : ∀ w ∈ wsL_law0_r5, w ∈ lw_tbl := mem_p [252, 254, 257, 259, 264, 267, 269, 271, 273, 236, 237, 238, 239, 240, 241, 131, 242, 306, 307, 308, 309, 310, 311, 312] (by decide +kernel)
set_option maxRecDepth 20000 in
theorem lin_r6 : ∀ w ∈ wsL_law0_r6, w ∈ lw_tbl := mem_p [313, 315, 333, 334, 335, 336, 337, 338, 349, 350, 351, 352, 354, 356, 357, 353, 369, 370, 371, 374, 375, 376, 377, 381] (by decide +kernel)
set_option maxRecDepth 20000 in
theorem lin_r7 : ∀ w ∈ wsL_law0_r7, w ∈ lw_tbl := mem_p [385, 388, 372, 390, 393, 397, 402, 405, 408, 373, 441, 442, 443, 444, 445, 446, 447, 448, 1449, 1450, 1451, 1452, 1503, 1506] (by decide +kernel)
set_option maxRecDepth 20000 in
theorem lin_r8 : ∀ w ∈ wsL_law0_r8, w ∈ lw_tbl := mem_p [1507, 1508, 1453, 1454, 1455, 1456, 1457, 1458, 1459, 1460, 1461, 1462, 1463, 1464, 1465, 1466, 1467, 1468, 1469, 1470, 1471, 1472, 1473, 1474] (by decide +kernel)
set_option maxRecDepth 20000 in
theorem lin_r9 : ∀ w ∈ wsL_law0_r9, w ∈ lw_tbl := mem_p [1475, 1476, 1477, 1478, 1479, 1480, 1481, 1511, 1512, 1513, 1514, 1516, 1517, 1518, 1519, 1523, 1524, 1525, 1526, 1626, 1528, 1529, 1530, 1531] (by decide +kernel)
set_option maxRecDepth 20000 in
theorem lin_r10 : ∀ w ∈ wsL_law0_r10, w ∈ lw_tbl := mem_p [1534, 1535, 1536, 1537, 1540, 1541, 1482, 1484, 51, 1485, 1486, 1488, 52, 1489, 1527, 1490, 1492, 53, 1493, 1494, 1496, 54, 1497, 1498] (by decide +kernel)
set_option maxRecDepth 20000 in
theorem lin_r11 : ∀ w ∈ wsL_law0_r11, w ∈ lw_tbl := mem_p [1500, 55, 1501, 519, 520, 521, 522, 173, 523, 524, 525, 526, 527, 1439, 1440, 1441, 1442, 1502, 1504, 1443, 1445, 50, 1447, 528] (by decide +kernel)
set_option maxRecDepth 20000 in
theorem lin_r12 : ∀ w ∈ wsL_law0_r12, w ∈ lw_tbl := mem_p [529, 530, 531, 532, 533, 534, 535, 673, 536, 537, 538, 539, 540, 541, 542, 543, 544, 545, 546, 547, 548, 550, 0, 551] (by decide +kernel)
set_option maxRecDepth 20000 in
theorem lin_r13 : ∀ w ∈ wsL_law0_r13, w ∈ lw_tbl := mem_p [552, 553, 554, 555, 557, 1, 558, 2080, 559, 560, 129, 561, 562, 563, 564, 565, 566, 2079, 568, 570, 572, 2, 573, 574] (by decide +kernel)
set_option maxRecDepth 20000 in
theorem lin_r14 : ∀ w ∈ wsL_law0_r14, w ∈ lw_tbl := mem_p [575, 576, 577, 579, 3, 580, 581, 583, 584, 585, 138, 586, 587, 588, 589, 590, 2082, 591, 592, 593, 594, 595, 2081, 597] (by decide +kernel)
set_option maxRecDepth 20000 in
theorem lin_r15 : ∀ w ∈ wsL_law0_r15, w ∈ lw_tbl := mem_p [598, 599, 600, 601, 602, 603, 604, 605, 606, 139, 607, 611, 612, 140, 613, 614, 615, 616, 608, 609, 610, 617, 618, 619] (by decide +kernel)
set_option maxRecDepth 20000 in
theorem lin_r16 : ∀ w ∈ wsL_law0_r16, w ∈ lw_tbl := mem_p [620, 621, 141, 622, 623, 624, 625, 626, 627, 628, 629, 630, 631, 632, 633, 634, 635, 636, 637, 638, 640, 641, 142, 642] (by decide +kernel)
set_option maxRecDepth 20000 in
theorem lin_r17 : ∀ w ∈ wsL_law0_r17, w ∈ lw_tbl := mem_p [643, 644, 645, 646, 647, 648, 649, 651, 653, 655, 656, 657, 658, 659, 143, 660, 661, 662, 663, 664, 665, 666, 667, 668] (by decide +kernel)
set_option maxRecDepth 20000 in
theorem lin_r18 : ∀ w ∈ wsL_law0_r18, w ∈ lw_tbl := mem_p [669, 670, 671, 672, 675, 676, 677, 678, 679, 680, 681, 683, 684, 128, 685, 2083, 686, 688, 4, 689, 394, 175, 690, 691] (by decide +kernel)
set_option maxRecDepth 20000 in
theorem lin_r19 : ∀ w ∈ wsL_law0_r19, w ∈ lw_tbl := mem_p [692, 693, 694, 695, 696, 697, 698, 699, 700, 701, 702, 704, 5, 705, 706, 707, 708, 709, 710, 711, 712, 713, 714, 715] (by decide +kernel)
set_option maxRecDepth 20000 in
theorem lin_r20 : ∀ w ∈ wsL_law0_r20, w ∈ lw_tbl := mem_p [716, 717, 718, 719, 720, 721, 722, 723, 724, 725, 726, 727, 728, 729, 730, 731, 732, 733, 734, 736, 6, 737, 400, 745] (by decide +kernel)
set_option maxRecDepth 20000 in
theorem lin_r21 : ∀ w ∈ wsL_law0_r21, w ∈ lw_tbl := mem_p [768, 770, 738, 740, 7, 741, 742, 743, 744, 747, 748, 749, 750, 751, 752, 753, 754, 2084, 755, 756, 757, 758, 759, 760] (by decide +kernel)
set_option maxRecDepth 20000 in
theorem lin_r22 : ∀ w ∈ wsL_law0_r22, w ∈ lw_tbl := mem_p [761, 762, 763, 764, 765, 766, 767, 772, 774, 8, 775, 776, 778, 9, 779, 780, 781, 782, 784, 10, 785, 786, 787, 145] (by decide +kernel)
set_option maxRecDepth 20000 in
theorem lin_r23 : ∀ w ∈ wsL_law0_r23, w ∈ lw_tbl := mem_p [788, 789, 790, 791, 792, 793, 794, 795, 255, 796, 798, 11, 799, 392, 263, 800, 802, 822, 804, 806, 12, 807, 808, 810] (by decide +kernel)
set_option maxRecDepth 20000 in
theorem lin_r24 : ∀ w ∈ wsL_law0_r24, w ∈ lw_tbl := mem_p [13, 811, 812, 813, 814, 815, 816, 817, 818, 819, 820, 821, 824, 825, 826, 827, 828, 829, 830, 831, 832, 833, 834, 835] (by decide +kernel)
set_option maxRecDepth 20000 in
theorem lin_r25 : ∀ w ∈ wsL_law0_r25, w ∈ lw_tbl := mem_p [836, 837, 839, 14, 840, 404, 841, 843, 844, 845, 846, 847, 849, 15, 850, 406, 851, 852, 853, 854, 855, 905, 906, 146] (by decide +kernel)
set_option maxRecDepth 20000 in
theorem lin_r26 : ∀ w ∈ wsL_law0_r26, w ∈ lw_tbl := mem_p [856, 858, 16, 859, 901, 903, 860, 862, 17, 879, 890, 892, 894, 22, 895, 875, 877, 876, 880, 881, 883, 21, 884, 885] (by decide +kernel)
set_option maxRecDepth 20000 in
theorem lin_r27 : ∀ w ∈ wsL_law0_r27, w ∈ lw_tbl := mem_p [887, 889, 891, 872, 874, 20, 896, 897, 899, 23, 900, 871, 867, 868, 870, 19, 863, 864, 866, 18, 907, 908, 909, 910] (by decide +kernel)
set_option maxRecDepth 20000 in
theorem lin_r28 : ∀ w ∈ wsL_law0_r28, w ∈ lw_tbl := mem_p [911, 912, 913, 914, 916, 917, 918, 920, 919, 147, 921, 922, 923, 924, 926, 925, 933, 935, 24, 936, 409, 937, 939, 940] (by decide +kernel)
set_option maxRecDepth 20000 in
theorem lin_r29 : ∀ w ∈ wsL_law0_r29, w ∈ lw_tbl := mem_p [941, 942, 943, 945, 25, 946, 391, 449, 947, 948, 949, 950, 951, 952, 953, 954, 955, 1627, 1628, 1629, 1630, 1515, 1521, 1510] (by decide +kernel)
set_option maxRecDepth 20000 in
theorem lin_r30 : ∀ w ∈ wsL_law0_r30, w ∈ lw_tbl := mem_p [1509, 1520, 1631, 1633, 56, 1634, 1505, 1638, 1645, 1646, 1635, 1636, 1637, 1639, 1640, 1641, 1642, 1643, 1644, 1647, 1648, 1649, 1650, 1652] (by decide +kernel)
set_option maxRecDepth 20000 in
theorem lin_r31 : ∀ w ∈ wsL_law0_r31, w ∈ lw_tbl := mem_p [57, 1653, 1654, 1656, 58, 1657, 1658, 1660, 59, 1661, 1662, 1664, 60, 1665, 1666, 1668, 61, 1669, 1670, 1672, 62, 1673, 1674, 1676] (by decide +kernel)
set_option maxRecDepth 20000 in
theorem lin_r32 : ∀ w ∈ wsL_law0_r32, w ∈ lw_tbl := mem_p [63, 1677, 1678, 1680, 64, 1681, 1682, 1684, 65, 1685, 1686, 1688, 66, 1689, 1690, 1692, 67, 1693, 1694, 1696, 68, 1697, 1698, 1700] (by decide +kernel)
set_option maxRecDepth 20000 in
theorem lin_r33 : ∀ w ∈ wsL_law0_r33, w ∈ lw_tbl := mem_p [69, 1701, 1702, 1704, 70, 1705, 1706, 1708, 71, 1709, 1710, 1712, 72, 1713, 1714, 1716, 73, 1717, 1718, 1720, 74, 1721, 1722, 1723] (by decide +kernel)
