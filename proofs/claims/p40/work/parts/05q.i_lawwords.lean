theorem z_app {A B big : List Cond} (hA : ∀ w ∈ A, w ∈ big) (hB : ∀ w ∈ B, w ∈ big) : ∀ w ∈ A ++ B, w ∈ big := fun w h => (List.mem_append.mp h).elim (hA w) (hB w)
set_option maxRecDepth 20000 in
theorem lin_1 : ∀ w ∈ wsL_law0_r1, w ∈ lw_tbl := fun w h => (goodIn_r (big := lw_tbl) wsL_law0_r1 [154, 155, 129, 1562, 1556, 142, 250, 156, 157, 158, 159, 160, 161, 162, 163, 130, 514, 178, 179, 131, 515, 219, 220, 134] (by decide +kernel) (by decide +kernel) w h).1
set_option maxRecDepth 20000 in
theorem lin_2 : ∀ w ∈ wsL_law0_r2, w ∈ lw_tbl := fun w h => (goodIn_r (big := lw_tbl) wsL_law0_r2 [516, 403, 517, 405, 518, 519, 520, 419, 320, 137, 521, 522, 422, 423, 139, 524, 468, 469, 140, 525, 478, 479, 141, 526] (by decide +kernel) (by decide +kernel) w h).1
set_option maxRecDepth 20000 in
theorem lin_3 : ∀ w ∈ wsL_law0_r3, w ∈ lw_tbl := fun w h => (goodIn_r (big := lw_tbl) wsL_law0_r3 [527, 528, 529, 164, 165, 166, 167, 177, 168, 180, 181, 182, 183, 184, 193, 186, 222, 223, 224, 225, 226, 135, 402, 319] (by decide +kernel) (by decide +kernel) w h).1
set_option maxRecDepth 20000 in
theorem lin_4 : ∀ w ∈ wsL_law0_r4, w ∈ lw_tbl := fun w h => (goodIn_r (big := lw_tbl) wsL_law0_r4 [404, 362, 363, 138, 406, 228, 229, 230, 231, 232, 136, 251, 257, 264, 318, 272, 274, 276, 281, 284, 287, 290, 233, 234] (by decide +kernel) (by decide +kernel) w h).1
set_option maxRecDepth 20000 in
theorem lin_5 : ∀ w ∈ wsL_law0_r5, w ∈ lw_tbl := fun w h => (goodIn_r (big := lw_tbl) wsL_law0_r5 [235, 236, 237, 321, 322, 323, 324, 336, 339, 340, 343, 325, 365, 366, 367, 368, 370, 371, 372, 373, 374, 420, 424, 425] (by decide +kernel) (by decide +kernel) w h).1
set_option maxRecDepth 20000 in
theorem lin_6 : ∀ w ∈ wsL_law0_r6, w ∈ lw_tbl := fun w h => (goodIn_r (big := lw_tbl) wsL_law0_r6 [426, 427, 428, 432, 433, 434, 437, 438, 440, 442, 443, 430, 431, 429, 471, 472, 473, 481, 482, 483, 484, 485, 486, 487] (by decide +kernel) (by decide +kernel) w h).1
set_option maxRecDepth 20000 in
theorem lin_7 : ∀ w ∈ wsL_law0_r7, w ∈ lw_tbl := fun w h => (goodIn_r (big := lw_tbl) wsL_law0_r7 [489, 491, 493, 495, 1563, 1564, 1565, 1566, 1593, 1598, 1599, 1600, 1601, 1602, 1613, 1614, 1619, 1620, 1621, 1624, 1625, 1755, 1626, 1627] (by decide +kernel) (by decide +kernel) w h).1
set_option maxRecDepth 20000 in
theorem lin_8 : ∀ w ∈ wsL_law0_r8, w ∈ lw_tbl := fun w h => (goodIn_r (big := lw_tbl) wsL_law0_r8 [1630, 1634, 1636, 1642, 1643, 1644, 1645, 1567, 1568, 1569, 1570, 1571, 1572, 1573, 1574, 1575, 1576, 1577, 1578, 1579, 1580, 1581, 1582, 1583] (by decide +kernel) (by decide +kernel) w h).1
set_option maxRecDepth 20000 in
theorem lin_9 : ∀ w ∈ wsL_law0_r9, w ∈ lw_tbl := fun w h => (goodIn_r (big := lw_tbl) wsL_law0_r9 [1584, 1585, 1586, 1587, 1588, 1590, 56, 1591, 563, 564, 565, 566, 169, 567, 568, 569, 570, 571, 572, 573, 574, 170, 1549, 1550] (by decide +kernel) (by decide +kernel) w h).1
set_option maxRecDepth 20000 in
theorem lin_10 : ∀ w ∈ wsL_law0_r10, w ∈ lw_tbl := fun w h => (goodIn_r (big := lw_tbl) wsL_law0_r10 [1551, 1552, 1592, 1594, 1553, 1555, 55, 1557, 575, 576, 577, 578, 1558, 1559, 1560, 1561, 579, 580, 581, 582, 197, 407, 523, 583] (by decide +kernel) (by decide +kernel) w h).1
set_option maxRecDepth 20000 in
theorem lin_11 : ∀ w ∈ wsL_law0_r11, w ∈ lw_tbl := fun w h => (goodIn_r (big := lw_tbl) wsL_law0_r11 [584, 585, 586, 587, 589, 0, 590, 242, 271, 278, 591, 592, 593, 594, 187, 188, 194, 196, 595, 596, 597, 598, 171, 191] (by decide +kernel) (by decide +kernel) w h).1
set_option maxRecDepth 20000 in
theorem lin_12 : ∀ w ∈ wsL_law0_r12, w ∈ lw_tbl := fun w h => (goodIn_r (big := lw_tbl) wsL_law0_r12 [192, 599, 600, 601, 602, 603, 604, 605, 606, 608, 1, 609, 189, 610, 611, 143, 612, 190, 613, 614, 615, 616, 617, 618] (by decide +kernel) (by decide +kernel) w h).1
set_option maxRecDepth 20000 in
theorem lin_13 : ∀ w ∈ wsL_law0_r13, w ∈ lw_tbl := fun w h => (goodIn_r (big := lw_tbl) wsL_law0_r13 [619, 621, 2, 622, 623, 624, 133, 625, 626, 627, 628, 629, 630, 631, 632, 2246, 634, 635, 637, 3, 638, 639, 640, 641] (by decide +kernel) (by decide +kernel) w h).1
set_option maxRecDepth 20000 in
theorem lin_14 : ∀ w ∈ wsL_law0_r14, w ∈ lw_tbl := fun w h => (goodIn_r (big := lw_tbl) wsL_law0_r14 [642, 643, 645, 4, 646, 651, 688, 705, 715, 721, 647, 648, 649, 650, 653, 655, 5, 656, 657, 658, 659, 660, 238, 661] (by decide +kernel) (by decide +kernel) w h).1
set_option maxRecDepth 20000 in
theorem lin_15 : ∀ w ∈ wsL_law0_r15, w ∈ lw_tbl := fun w h => (goodIn_r (big := lw_tbl) wsL_law0_r15 [662, 663, 664, 665, 666, 667, 668, 669, 670, 671, 672, 673, 674, 675, 676, 677, 678, 679, 680, 681, 682, 683, 684, 685] (by decide +kernel) (by decide +kernel) w h).1
set_option maxRecDepth 20000 in
theorem lin_16 : ∀ w ∈ wsL_law0_r16, w ∈ lw_tbl := fun w h => (goodIn_r (big := lw_tbl) wsL_law0_r16 [686, 687, 690, 692, 6, 693, 703, 694, 695, 696, 697, 698, 699, 700, 701, 702, 707, 709, 7, 710, 711, 712, 713, 714] (by decide +kernel) (by decide +kernel) w h).1
set_option maxRecDepth 20000 in
theorem lin_17 : ∀ w ∈ wsL_law0_r17, w ∈ lw_tbl := fun w h => (goodIn_r (big := lw_tbl) wsL_law0_r17 [717, 719, 8, 720, 723, 725, 9, 726, 727, 728, 729, 730, 731, 732, 733, 734, 735, 736, 737, 738, 329, 333, 335, 258] (by decide +kernel) (by decide +kernel) w h).1
set_option maxRecDepth 20000 in
theorem lin_18 : ∀ w ∈ wsL_law0_r18, w ∈ lw_tbl := fun w h => (goodIn_r (big := lw_tbl) wsL_law0_r18 [239, 273, 265, 275, 277, 739, 740, 741, 742, 378, 379, 743, 744, 745, 746, 747, 748, 749, 750, 758, 757, 756, 144, 751] (by decide +kernel) (by decide +kernel) w h).1
set_option maxRecDepth 20000 in
theorem lin_19 : ∀ w ∈ wsL_law0_r19, w ∈ lw_tbl := fun w h => (goodIn_r (big := lw_tbl) wsL_law0_r19 [752, 753, 754, 755, 759, 760, 761, 762, 763, 764, 765, 766, 767, 1756, 1757, 1758, 1759, 1607, 1611, 1612, 1603, 1608, 1615, 1760] (by decide +kernel) (by decide +kernel) w h).1
set_option maxRecDepth 20000 in
theorem lin_20 : ∀ w ∈ wsL_law0_r20, w ∈ lw_tbl := fun w h => (goodIn_r (big := lw_tbl) wsL_law0_r20 [1762, 57, 1763, 1595, 1596, 1597, 1764, 1766, 58, 1767, 1604, 1605, 1606, 1609, 1768, 1770, 59, 1771, 1772, 1773, 1774, 1775, 1776, 1777] (by decide +kernel) (by decide +kernel) w h).1
set_option maxRecDepth 20000 in
theorem lin_21 : ∀ w ∈ wsL_law0_r21, w ∈ lw_tbl := fun w h => (goodIn_r (big := lw_tbl) wsL_law0_r21 [1778, 1780, 60, 1781, 1782, 1784, 61, 1785, 1786, 1788, 62, 1789, 1790, 1792, 63, 1793, 1794, 1796, 64, 1797, 1798, 1800, 65, 1801] (by decide +kernel) (by decide +kernel) w h).1
set_option maxRecDepth 20000 in
theorem lin_22 : ∀ w ∈ wsL_law0_r22, w ∈ lw_tbl := fun w h => (goodIn_r (big := lw_tbl) wsL_law0_r22 [1802, 1804, 66, 1805, 1610, 1806, 1808, 67, 1809, 1810, 1812, 68, 1813, 1814, 1816, 69, 1817, 1818, 1820, 70, 1821, 1822, 1824, 71] (by decide +kernel) (by decide +kernel) w h).1
set_option maxRecDepth 20000 in
theorem lin_23 : ∀ w ∈ wsL_law0_r23, w ∈ lw_tbl := fun w h => (goodIn_r (big := lw_tbl) wsL_law0_r23 [1825, 1826, 1827, 1828, 1829, 1831, 72, 1832, 1833, 1835, 73, 1836, 1837, 1839, 74, 1840, 768, 769, 770, 771, 195, 1841, 1842, 1843] (by decide +kernel) (by decide +kernel) w h).1
set_option maxRecDepth 20000 in
theorem lin_24 : ∀ w ∈ wsL_law0_r24, w ∈ lw_tbl := fun w h => (goodIn_r (big := lw_tbl) wsL_law0_r24 [1844, 1452, 1453, 128, 1454, 1455, 1456, 1457, 1458, 1459, 1460, 148, 261, 337, 776, 777, 778, 779, 1525, 924, 925, 926, 1526, 1435] (by decide +kernel) (by decide +kernel) w h).1
set_option maxRecDepth 20000 in
theorem lin_25 : ∀ w ∈ wsL_law0_r25, w ∈ lw_tbl := fun w h => (goodIn_r (big := lw_tbl) wsL_law0_r25 [1436, 1437, 279, 282, 824, 825, 826, 827, 285, 1002, 1003, 1004, 1005, 288, 1527, 1141, 1142, 1143, 1528, 838, 839, 840, 820, 821] (by decide +kernel) (by decide +kernel) w h).1
set_option maxRecDepth 20000 in
theorem lin_26 : ∀ w ∈ wsL_law0_r26, w ∈ lw_tbl := fun w h => (goodIn_r (big := lw_tbl) wsL_law0_r26 [822, 823, 828, 841, 842, 843, 844, 788, 789, 790, 791, 812, 813, 814, 815, 292, 1529, 928, 929, 930, 931, 781, 782, 783] (by decide +kernel) (by decide +kernel) w h).1
set_option maxRecDepth 20000 in
theorem lin_27 : ∀ w ∈ wsL_law0_r27, w ∈ lw_tbl := fun w h => (goodIn_r (big := lw_tbl) wsL_law0_r27 [1845, 1846, 1847, 1848, 1849, 1851, 75, 1852, 1853, 1855, 76, 1856, 1857, 1859, 77, 1860, 1861, 1863, 78, 1864, 1865, 1866, 1867, 1868] (by decide +kernel) (by decide +kernel) w h).1
set_option maxRecDepth 20000 in
theorem lin_28 : ∀ w ∈ wsL_law0_r28, w ∈ lw_tbl := fun w h => (goodIn_r (big := lw_tbl) wsL_law0_r28 [1870, 79, 1871, 1872, 1874, 80, 1875, 1876, 1878, 81, 1879, 1880, 1882, 82, 1883, 1884, 1886, 83, 1887, 1888, 1889, 1890, 1891, 1892] (by decide +kernel) (by decide +kernel) w h).1
set_option maxRecDepth 20000 in
theorem lin_29 : ∀ w ∈ wsL_law0_r29, w ∈ lw_tbl := fun w h => (goodIn_r (big := lw_tbl) wsL_law0_r29 [1894, 84, 1895, 1896, 1898, 85, 1899, 1900, 1902, 86, 1903, 1904, 1905, 1906, 1530, 1531, 1532, 1533, 1534, 1535, 1536, 269, 341, 344] (by decide +kernel) (by decide +kernel) w h).1
set_option maxRecDepth 20000 in
theorem lin_30 : ∀ w ∈ wsL_law0_r30, w ∈ lw_tbl := fun w h => (goodIn_r (big := lw_tbl) wsL_law0_r30 [1253, 1538, 1197, 801, 802, 803, 804, 805, 806, 807, 808, 809, 810, 811, 816, 817, 818, 819, 1539, 1907, 1908, 1909, 1910, 1911] (by decide +kernel) (by decide +kernel) w h).1
set_option maxRecDepth 20000 in
theorem lin_31 : ∀ w ∈ wsL_law0_r31, w ∈ lw_tbl := fun w h => (goodIn_r (big := lw_tbl) wsL_law0_r31 [1913, 87, 1914, 1915, 1917, 88, 1918, 1919, 1921, 89, 1922, 1540, 1541, 1542, 1543, 1544, 1545, 1546, 280, 283, 286, 289, 1548, 1923] (by decide +kernel) (by decide +kernel) w h).1
set_option maxRecDepth 20000 in
theorem lin_32 : ∀ w ∈ wsL_law0_r32, w ∈ lw_tbl := fun w h => (goodIn_r (big := lw_tbl) wsL_law0_r32 [1924, 1925, 1926, 1927, 1929, 90, 1930, 772, 773, 774, 775, 255, 780, 784, 785, 786, 787, 1931, 1932, 1933, 1934, 1935, 1937, 91] (by decide +kernel) (by decide +kernel) w h).1
set_option maxRecDepth 20000 in
theorem lin_33 : ∀ w ∈ wsL_law0_r33, w ∈ lw_tbl := fun w h => (goodIn_r (big := lw_tbl) wsL_law0_r33 [1938, 1939, 1941, 92, 1942, 792, 793, 794, 795, 332, 334, 796, 797, 798, 799, 800, 829, 830, 831, 832, 833, 834, 835, 836] (by decide +kernel) (by decide +kernel) w h).1
set_option maxRecDepth 20000 in
theorem lin_34 : ∀ w ∈ wsL_law0_r34, w ∈ lw_tbl := fun w h => (goodIn_r (big := lw_tbl) wsL_law0_r34 [837, 845, 846, 847, 848, 849, 850, 851, 852, 853, 855, 10, 856, 1943, 1944, 1945, 1946, 1947, 1949, 93, 1950, 1951, 1953, 94] (by decide +kernel) (by decide +kernel) w h).1
set_option maxRecDepth 20000 in
theorem lin_35 : ∀ w ∈ wsL_law0_r35, w ∈ lw_tbl := fun w h => (goodIn_r (big := lw_tbl) wsL_law0_r35 [1954, 861, 862, 863, 864, 865, 866, 867, 868, 869, 870, 872, 11, 873, 874, 876, 12, 877, 878, 880, 13, 881, 1955, 1956] (by decide +kernel) (by decide +kernel) w h).1
set_option maxRecDepth 20000 in
theorem lin_36 : ∀ w ∈ wsL_law0_r36, w ∈ lw_tbl := fun w h => (goodIn_r (big := lw_tbl) wsL_law0_r36 [1957, 1958, 1959, 1961, 95, 1962, 882, 883, 884, 885, 886, 887, 888, 889, 1963, 1964, 1965, 1966, 1967, 1969, 96, 1970, 890, 891] (by decide +kernel) (by decide +kernel) w h).1
set_option maxRecDepth 20000 in
theorem lin_37 : ∀ w ∈ wsL_law0_r37, w ∈ lw_tbl := fun w h => (goodIn_r (big := lw_tbl) wsL_law0_r37 [892, 893, 894, 895, 896, 897, 898, 899, 900, 901, 1971, 1972, 1973, 1974, 1975, 1977, 97, 1978, 902, 903, 904, 905, 906, 907] (by decide +kernel) (by decide +kernel) w h).1
set_option maxRecDepth 20000 in
theorem lin_38 : ∀ w ∈ wsL_law0_r38, w ∈ lw_tbl := fun w h => (goodIn_r (big := lw_tbl) wsL_law0_r38 [908, 909, 910, 1979, 1980, 1981, 1982, 1983, 1985, 98, 1986, 911, 912, 913, 914, 915, 916, 917, 918, 919, 920, 921, 922, 923] (by decide +kernel) (by decide +kernel) w h).1
set_option maxRecDepth 20000 in
theorem lin_39 : ∀ w ∈ wsL_law0_r39, w ∈ lw_tbl := fun w h => (goodIn_r (big := lw_tbl) wsL_law0_r39 [927, 932, 934, 14, 935, 936, 937, 938, 939, 941, 15, 942, 943, 945, 16, 946, 1987, 1988, 1989, 1990, 1991, 1993, 99, 1994] (by decide +kernel) (by decide +kernel) w h).1
set_option maxRecDepth 20000 in
theorem lin_40 : ∀ w ∈ wsL_law0_r40, w ∈ lw_tbl := fun w h => (goodIn_r (big := lw_tbl) wsL_law0_r40 [1995, 1997, 100, 1998, 1999, 2001, 101, 2002, 2003, 2004, 2005, 981, 982, 983, 984, 2006, 2007, 2008, 2009, 985, 986, 987, 988, 989] (by decide +kernel) (by decide +kernel) w h).1
set_option maxRecDepth 20000 in
theorem lin_41 : ∀ w ∈ wsL_law0_r41, w ∈ lw_tbl := fun w h => (goodIn_r (big := lw_tbl) wsL_law0_r41 [2010, 2011, 2012, 2013, 990, 991, 992, 993, 243, 2014, 2015, 2016, 2017, 994, 995, 996, 997, 2018, 2019, 2020, 2021, 2022, 2024, 102] (by decide +kernel) (by decide +kernel) w h).1
set_option maxRecDepth 20000 in
theorem lin_42 : ∀ w ∈ wsL_law0_r42, w ∈ lw_tbl := fun w h => (goodIn_r (big := lw_tbl) wsL_law0_r42 [2025, 2026, 2028, 103, 2029, 1006, 1007, 1008, 1009, 1010, 1012, 20, 1013, 1014, 1015, 1017, 21, 1018, 1019, 1021, 22, 1022, 1023, 1025] (by decide +kernel) (by decide +kernel) w h).1
set_option maxRecDepth 20000 in
theorem lin_43 : ∀ w ∈ wsL_law0_r43, w ∈ lw_tbl := fun w h => (goodIn_r (big := lw_tbl) wsL_law0_r43 [23, 1026, 1027, 1029, 24, 1030, 1031, 1032, 1033, 2030, 2031, 2032, 2033, 1618, 1616, 1617, 2034, 2036, 104, 2037, 2038, 2040, 105, 2041] (by decide +kernel) (by decide +kernel) w h).1
set_option maxRecDepth 20000 in
theorem lin_44 : ∀ w ∈ wsL_law0_r44, w ∈ lw_tbl := fun w h => (goodIn_r (big := lw_tbl) wsL_law0_r44 [2042, 2043, 2044, 1034, 1035, 1036, 1037, 2045, 2046, 2047, 2048, 1038, 1039, 1040, 1041, 2049, 2050, 2051, 2052, 1042, 1043, 1044, 1045, 1046] (by decide +kernel) (by decide +kernel) w h).1
set_option maxRecDepth 20000 in
theorem lin_45 : ∀ w ∈ wsL_law0_r45, w ∈ lw_tbl := fun w h => (goodIn_r (big := lw_tbl) wsL_law0_r45 [1048, 25, 1049, 1050, 1052, 26, 1053, 1054, 1056, 27, 1057, 2053, 2054, 2055, 2056, 1058, 1059, 1060, 1061, 1062, 1063, 1064, 1065, 1066] (by decide +kernel) (by decide +kernel) w h).1
set_option maxRecDepth 20000 in
theorem lin_46 : ∀ w ∈ wsL_law0_r46, w ∈ lw_tbl := fun w h => (goodIn_r (big := lw_tbl) wsL_law0_r46 [436, 1067, 1068, 1070, 28, 1071, 1072, 1073, 1074, 1076, 29, 1077, 1078, 1079, 1080, 1081, 1082, 1084, 30, 1085, 252, 240, 2057, 2058] (by decide +kernel) (by decide +kernel) w h).1
set_option maxRecDepth 20000 in
theorem lin_47 : ∀ w ∈ wsL_law0_r47, w ∈ lw_tbl := fun w h => (goodIn_r (big := lw_tbl) wsL_law0_r47 [2059, 2060, 2061, 2063, 106, 2064, 2065, 2066, 2067, 1086, 1087, 1088, 1089, 435, 2068, 2069, 2070, 2071, 1090, 1091, 1092, 1093, 1094, 1095] (by decide +kernel) (by decide +kernel) w h).1
set_option maxRecDepth 20000 in
theorem lin_48 : ∀ w ∈ wsL_law0_r48, w ∈ lw_tbl := fun w h => (goodIn_r (big := lw_tbl) wsL_law0_r48 [1096, 1097, 268, 1098, 1100, 31, 1101, 262, 338, 1103, 1102, 1104, 1105, 149, 1106, 1107, 1108, 1109, 1110, 1112, 32, 1113, 1114, 1116] (by decide +kernel) (by decide +kernel) w h).1
set_option maxRecDepth 20000 in
theorem lin_49 : ∀ w ∈ wsL_law0_r49, w ∈ lw_tbl := fun w h => (goodIn_r (big := lw_tbl) wsL_law0_r49 [33, 1117, 1118, 1120, 34, 1121, 1122, 2072, 2073, 2074, 2075, 1623, 1622, 2076, 2078, 107, 2079, 2080, 2082, 108, 2083, 1123, 1124, 1125] (by decide +kernel) (by decide +kernel) w h).1
set_option maxRecDepth 20000 in
theorem lin_50 : ∀ w ∈ wsL_law0_r50, w ∈ lw_tbl := fun w h => (goodIn_r (big := lw_tbl) wsL_law0_r50 [1126, 439, 2084, 2085, 2086, 2087, 1127, 1128, 1129, 1130, 1131, 1132, 1133, 1134, 1135, 1137, 35, 1138, 1139, 1140, 1144, 1145, 1147, 36] (by decide +kernel) (by decide +kernel) w h).1
set_option maxRecDepth 20000 in
theorem lin_51 : ∀ w ∈ wsL_law0_r51, w ∈ lw_tbl := fun w h => (goodIn_r (big := lw_tbl) wsL_law0_r51 [1148, 1149, 2088, 2089, 2090, 2091, 2092, 2094, 109, 2095, 1150, 1151, 1152, 1153, 441, 2096, 2097, 2098, 2099, 1154, 1155, 1156, 1157, 1158] (by decide +kernel) (by decide +kernel) w h).1
set_option maxRecDepth 20000 in
theorem lin_52 : ∀ w ∈ wsL_law0_r52, w ∈ lw_tbl := fun w h => (goodIn_r (big := lw_tbl) wsL_law0_r52 [1159, 1160, 1161, 1162, 1164, 37, 1165, 1166, 1167, 1168, 1170, 38, 1171, 1172, 1174, 39, 1175, 1176, 1177, 1179, 40, 1180, 2100, 2101] (by decide +kernel) (by decide +kernel) w h).1
set_option maxRecDepth 20000 in
theorem lin_53 : ∀ w ∈ wsL_law0_r53, w ∈ lw_tbl := fun w h => (goodIn_r (big := lw_tbl) wsL_law0_r53 [2102, 2103, 1628, 1629, 2104, 2106, 110, 2107, 2108, 2110, 111, 2111, 1181, 1182, 1183, 1184, 444, 2112, 2113, 2114, 2115, 1185, 1186, 1187] (by decide +kernel) (by decide +kernel) w h).1
set_option maxRecDepth 20000 in
theorem lin_54 : ∀ w ∈ wsL_law0_r54, w ∈ lw_tbl := fun w h => (goodIn_r (big := lw_tbl) wsL_law0_r54 [1188, 1189, 1190, 1191, 1192, 1193, 1194, 1195, 1196, 1200, 1201, 1202, 1203, 1204, 1205, 1206, 150, 1207, 2247, 1208, 1209, 1210, 1211, 1212] (by decide +kernel) (by decide +kernel) w h).1
set_option maxRecDepth 20000 in
theorem lin_55 : ∀ w ∈ wsL_law0_r55, w ∈ lw_tbl := fun w h => (goodIn_r (big := lw_tbl) wsL_law0_r55 [2248, 1214, 1215, 1216, 1217, 1218, 1219, 1220, 1221, 1222, 1223, 151, 1224, 1225, 1226, 1227, 1228, 1230, 1231, 152, 1232, 1233, 1234, 153] (by decide +kernel) (by decide +kernel) w h).1
set_option maxRecDepth 20000 in
theorem lin_56 : ∀ w ∈ wsL_law0_r56, w ∈ lw_tbl := fun w h => (goodIn_r (big := lw_tbl) wsL_law0_r56 [1235, 1236, 1237, 1238, 1239, 1240, 1241, 1242, 1243, 1244, 1245, 1246, 1248, 1250, 2116, 2117, 2118, 2119, 1631, 2129, 2134, 2135, 2120, 2122] (by decide +kernel) (by decide +kernel) w h).1
set_option maxRecDepth 20000 in
theorem lin_57 : ∀ w ∈ wsL_law0_r57, w ∈ lw_tbl := fun w h => (goodIn_r (big := lw_tbl) wsL_law0_r57 [112, 2123, 2124, 2125, 2127, 113, 2128, 2130, 2132, 114, 2133, 1255, 1256, 1257, 1258, 2136, 2137, 2138, 2139, 947, 948, 949, 950, 951] (by decide +kernel) (by decide +kernel) w h).1
set_option maxRecDepth 20000 in
theorem lin_58 : ∀ w ∈ wsL_law0_r58, w ∈ lw_tbl := fun w h => (goodIn_r (big := lw_tbl) wsL_law0_r58 [952, 953, 954, 474, 955, 956, 957, 958, 330, 959, 260, 241, 960, 962, 17, 963, 254, 267, 964, 966, 18, 967, 968, 969] (by decide +kernel) (by decide +kernel) w h).1
set_option maxRecDepth 20000 in
theorem lin_59 : ∀ w ∈ wsL_law0_r59, w ∈ lw_tbl := fun w h => (goodIn_r (big := lw_tbl) wsL_law0_r59 [970, 971, 972, 973, 974, 975, 977, 19, 978, 979, 980, 2140, 2141, 2142, 2143, 2144, 2146, 115, 2147, 1632, 2148, 2150, 116, 2151] (by decide +kernel) (by decide +kernel) w h).1
set_option maxRecDepth 20000 in
theorem lin_60 : ∀ w ∈ wsL_law0_r60, w ∈ lw_tbl := fun w h => (goodIn_r (big := lw_tbl) wsL_law0_r60 [2152, 2154, 117, 2155, 2156, 998, 999, 1000, 1001, 2157, 2158, 2159, 2160, 1259, 1260, 1261, 1262, 1263, 1264, 1265, 1266, 488, 1267, 1268] (by decide +kernel) (by decide +kernel) w h).1
set_option maxRecDepth 20000 in
theorem lin_61 : ∀ w ∈ wsL_law0_r61, w ∈ lw_tbl := fun w h => (goodIn_r (big := lw_tbl) wsL_law0_r61 [1269, 1271, 41, 1272, 1274, 1276, 259, 1281, 1283, 1285, 1273, 1278, 1279, 1280, 1287, 1288, 1289, 253, 266, 1290, 1291, 1292, 1293, 1294] (by decide +kernel) (by decide +kernel) w h).1
set_option maxRecDepth 20000 in
theorem lin_62 : ∀ w ∈ wsL_law0_r62, w ∈ lw_tbl := fun w h => (goodIn_r (big := lw_tbl) wsL_law0_r62 [1295, 1296, 331, 1297, 1299, 42, 1300, 1301, 1302, 1303, 1304, 1305, 1306, 1307, 1308, 1309, 2161, 2162, 2163, 2164, 1633, 1635, 2165, 2167] (by decide +kernel) (by decide +kernel) w h).1
set_option maxRecDepth 20000 in
theorem lin_63 : ∀ w ∈ wsL_law0_r63, w ∈ lw_tbl := fun w h => (goodIn_r (big := lw_tbl) wsL_law0_r63 [118, 2168, 2169, 2171, 119, 2172, 1310, 1311, 1312, 1313, 490, 492, 494, 496, 2173, 2174, 2175, 2176, 1314, 1315, 1316, 1317, 380, 1318] (by decide +kernel) (by decide +kernel) w h).1
set_option maxRecDepth 20000 in
theorem lin_64 : ∀ w ∈ wsL_law0_r64, w ∈ lw_tbl := fun w h => (goodIn_r (big := lw_tbl) wsL_law0_r64 [1319, 1320, 1321, 375, 376, 377, 1329, 1322, 1323, 1324, 1326, 43, 1327, 1328, 1331, 1333, 44, 1334, 1335, 1337, 1339, 45, 1340, 1341] (by decide +kernel) (by decide +kernel) w h).1
set_option maxRecDepth 20000 in
theorem lin_65 : ∀ w ∈ wsL_law0_r65, w ∈ lw_tbl := fun w h => (goodIn_r (big := lw_tbl) wsL_law0_r65 [1343, 46, 1344, 1374, 1345, 1346, 1347, 1348, 1349, 1350, 1351, 1353, 1354, 1356, 1358, 1360, 1362, 1363, 1364, 1365, 1366, 1368, 1370, 1372] (by decide +kernel) (by decide +kernel) w h).1
set_option maxRecDepth 20000 in
theorem lin_66 : ∀ w ∈ wsL_law0_r66, w ∈ lw_tbl := fun w h => (goodIn_r (big := lw_tbl) wsL_law0_r66 [1373, 1375, 1377, 47, 1378, 1379, 1380, 1382, 48, 1383, 1384, 1385, 1386, 1387, 1388, 1389, 1390, 1391, 1392, 1393, 1395, 49, 1396, 1397] (by decide +kernel) (by decide +kernel) w h).1
set_option maxRecDepth 20000 in
theorem lin_67 : ∀ w ∈ wsL_law0_r67, w ∈ lw_tbl := fun w h => (goodIn_r (big := lw_tbl) wsL_law0_r67 [256, 1399, 270, 1398, 1400, 1402, 50, 1403, 1404, 1406, 51, 1407, 1408, 1409, 2177, 2178, 2179, 2180, 1637, 1638, 1639, 1640, 1641, 2181] (by decide +kernel) (by decide +kernel) w h).1
set_option maxRecDepth 20000 in
theorem lin_68 : ∀ w ∈ wsL_law0_r68, w ∈ lw_tbl := fun w h => (goodIn_r (big := lw_tbl) wsL_law0_r68 [2183, 120, 2184, 2185, 2187, 121, 2188, 2189, 2191, 122, 2192, 2193, 2195, 123, 2196, 2197, 2199, 124, 2200, 2201, 2203, 125, 2204, 1410] (by decide +kernel) (by decide +kernel) w h).1
set_option maxRecDepth 20000 in
theorem lin_69 : ∀ w ∈ wsL_law0_r69, w ∈ lw_tbl := fun w h => (goodIn_r (big := lw_tbl) wsL_law0_r69 [1411, 1412, 1413, 1414, 1415, 1416, 1417, 263, 244, 1418, 1420, 52, 1421, 1423, 1422, 1424, 1425, 1427, 53, 1428, 1429, 1431, 342, 1433] (by decide +kernel) (by decide +kernel) w h).1
set_option maxRecDepth 20000 in
theorem lin_70 : ∀ w ∈ wsL_law0_r70, w ∈ lw_tbl := fun w h => (goodIn_r (big := lw_tbl) wsL_law0_r70 [1441, 1430, 1432, 1434, 1438, 1439, 1440, 1442, 1443, 2205, 2206, 2207, 2208, 2209, 2211, 126, 2212, 2213, 2215, 127, 2216, 1444, 1445, 1446] (by decide +kernel) (by decide +kernel) w h).1
set_option maxRecDepth 20000 in
theorem lin_71 : ∀ w ∈ wsL_law0_r71, w ∈ lw_tbl := fun w h => (goodIn_r (big := lw_tbl) wsL_law0_r71 [1447, 408, 2217, 2218, 2219, 2220, 1448, 1449, 1450, 1451, 2221, 2222, 2223, 2224, 857, 858, 859, 860, 291, 2225, 2226, 2227, 2228] (by decide +kernel) (by decide +kernel) w h).1
set_option maxRecDepth 20000 in
theorem linX11 : ∀ w ∈ wsX110, w ∈ lw_tbl := fun w h => (goodIn_r (big := lw_tbl) wsX110 [530, 532, 534, 536, 538, 540, 542, 544, 546, 548, 550, 552, 554, 556, 558, 560] (by decide +kernel) (by decide +kernel) w h).1
set_option maxRecDepth 20000 in
theorem linX12 : ∀ w ∈ wsX120, w ∈ lw_tbl := fun w h => (goodIn_r (big := lw_tbl) wsX120 [1646, 1648, 1650, 1652, 1654, 1656, 1658, 1660, 1662, 1664, 1666, 1668, 1670, 1672, 1674, 1676, 1678, 1680, 1682, 1684, 1686, 1688, 1690, 1692, 1694, 1696, 1698, 1700, 1702, 1704, 1706, 1708, 1710, 1712, 1714, 1716, 1718, 1720, 1722, 1724, 1726, 1728, 1730, 1732, 1734, 1736, 1738, 1740, 1742, 1744, 1746, 1748, 1750, 1752] (by decide +kernel) (by decide +kernel) w h).1
set_option maxRecDepth 20000 in
theorem linX6 : ∀ w ∈ wsX60, w ∈ lw_tbl := fun w h => (goodIn_r (big := lw_tbl) wsX60 [172, 174] (by decide +kernel) (by decide +kernel) w h).1
set_option maxRecDepth 20000 in
theorem linX7 : ∀ w ∈ wsX70, w ∈ lw_tbl := fun w h => (goodIn_r (big := lw_tbl) wsX70 [198, 200, 202, 204, 206, 208, 210, 212, 214, 216] (by decide +kernel) (by decide +kernel) w h).1
set_option maxRecDepth 20000 in
theorem linX10 : ∀ w ∈ wsX100, w ∈ lw_tbl := fun w h => (goodIn_r (big := lw_tbl) wsX100 [409, 411, 413, 415] (by decide +kernel) (by decide +kernel) w h).1
set_option maxRecDepth 20000 in
theorem linX4 : ∀ w ∈ wsX40, w ∈ lw_tbl := fun w h => (goodIn_r (big := lw_tbl) wsX40 [345, 347, 349, 351, 353, 355, 357, 359] (by decide +kernel) (by decide +kernel) w h).1
set_option maxRecDepth 20000 in
theorem linX3 : ∀ w ∈ wsX30, w ∈ lw_tbl := fun w h => (goodIn_r (big := lw_tbl) wsX30 [445, 447, 449, 451, 453, 455, 457, 459, 461, 463, 465] (by decide +kernel) (by decide +kernel) w h).1
set_option maxRecDepth 20000 in
theorem linX1 : ∀ w ∈ wsX10, w ∈ lw_tbl := fun w h => (goodIn_r (big := lw_tbl) wsX10 [475] (by decide +kernel) (by decide +kernel) w h).1
set_option maxRecDepth 20000 in
theorem linX0 : ∀ w ∈ wsX00, w ∈ lw_tbl := fun w h => (goodIn_r (big := lw_tbl) wsX00 [497, 499, 501, 503, 505, 507, 509, 511] (by decide +kernel) (by decide +kernel) w h).1
set_option maxRecDepth 20000 in
theorem linX8 : ∀ w ∈ wsX80, w ∈ lw_tbl := fun w h => (goodIn_r (big := lw_tbl) wsX80 [293, 295, 297, 299, 301, 303, 305, 307, 309, 311, 313, 315] (by decide +kernel) (by decide +kernel) w h).1
set_option maxRecDepth 20000 in
theorem linX5 : ∀ w ∈ wsX50, w ∈ lw_tbl := fun w h => (goodIn_r (big := lw_tbl) wsX50 [381, 383, 385, 387, 389, 391, 393, 395, 397, 399] (by decide +kernel) (by decide +kernel) w h).1
set_option maxRecDepth 20000 in
theorem linX2 : ∀ w ∈ wsX20, w ∈ lw_tbl := fun w h => (goodIn_r (big := lw_tbl) wsX20 [245, 247] (by decide +kernel) (by decide +kernel) w h).1
theorem z_in0 : ∀ w ∈ wsL_law0, w ∈ lw_tbl := (z_app (z_app (z_app (z_app (z_app (z_app (z_app (z_app (z_app (z_app (z_app (z_app (z_app (z_app lin_1 (z_app lin_2 (z_app lin_3 (z_app lin_4 (z_app lin_5 (z_app lin_6 (z_app lin_7 (z_app lin_8 (z_app lin_9 (z_app lin_10 (z_app lin_11 (z_app lin_12 (z_app lin_13 (z_app lin_14 (z_app lin_15 (z_app lin_16 (z_app lin_17 (z_app lin_18 (z_app lin_19 (z_app lin_20 (z_app lin_21 (z_app lin_22 (z_app lin_23 (z_app lin_24 (z_app lin_25 (z_app lin_26 (z_app lin_27 (z_app lin_28 (z_app lin_29 (z_app lin_30 (z_app lin_31 (z_app lin_32 (z_app lin_33 (z_app lin_34 (z_app lin_35 (z_app lin_36 (z_app lin_37 (z_app lin_38 (z_app lin_39 (z_app lin_40 (z_app lin_41 (z_app lin_42 (z_app lin_43 (z_app lin_44 (z_app lin_45 (z_app lin_46 (z_app lin_47 (z_app lin_48 (z_app lin_49 (z_app lin_50 (z_app lin_51 (z_app lin_52 (z_app lin_53 (z_app lin_54 (z_app lin_55 (z_app lin_56 (z_app lin_57 (z_app lin_58 (z_app lin_59 (z_app lin_60 (z_app lin_61 (z_app lin_62 (z_app lin_63 (z_app lin_64 (z_app lin_65 (z_app lin_66 (z_app lin_67 (z_app lin_68 (z_app lin_69 (z_app lin_70 lin_71)))))))))))))))))))))))))))))))))))))))))))))))))))))))))))))))))))))) linX11) linX12) linX6) linX7) linX10) linX4) linX3) linX1) linX0) linX8) linX5) linX2) (fun w h => absurd h List.not_mem_nil))
