set_option maxRecDepth 100000 in
theorem ck_0 : la_cok 212 5 101 145 19 23 619 621 620 1278 1280 1279 = true := by decide +kernel
set_option maxRecDepth 100000 in
theorem ck_1 : la_cok 285 1 103 147 24 28 627 629 628 1287 1289 1288 = true := by decide +kernel
set_option maxRecDepth 100000 in
theorem ck_2 : la_cok 310 0 104 172 29 33 631 633 632 1470 1472 1471 = true := by decide +kernel
set_option maxRecDepth 100000 in
theorem ck_3 : la_cko 323 0 106 173 34 37 759 761 760 1550 1552 1551 = true := by decide +kernel
set_option maxRecDepth 100000 in
theorem ck_5 : la_cok 376 2 108 186 44 47 763 765 764 1570 1572 1571 = true := by decide +kernel
set_option maxRecDepth 100000 in
theorem ck_6 : la_cok 413 2 109 187 48 51 771 773 772 1574 1576 1575 = true := by decide +kernel
set_option maxRecDepth 100000 in
theorem ck_7 : la_cok 450 1 110 188 52 56 775 777 776 1582 1584 1583 = true := by decide +kernel
set_option maxRecDepth 100000 in
theorem ck_8 : la_cok 475 1 111 189 57 60 787 789 788 1590 1592 1591 = true := by decide +kernel
set_option maxRecDepth 100000 in
theorem ck_9 : la_cok 500 2 112 205 61 64 799 801 800 1610 1612 1611 = true := by decide +kernel
set_option maxRecDepth 100000 in
theorem ck_10 : la_cok 537 1 113 206 65 68 822 824 823 1630 1632 1631 = true := by decide +kernel
set_option maxRecDepth 100000 in
theorem ck_11 : la_cok 562 2 114 207 69 72 845 847 846 1657 1659 1658 = true := by decide +kernel
set_option maxRecDepth 100000 in
theorem ck_12 : la_cok 599 1 115 208 73 76 858 860 859 1669 1671 1670 = true := by decide +kernel
set_option maxRecDepth 100000 in
theorem ck_13 : la_cok 624 0 116 210 77 80 892 894 893 1693 1695 1694 = true := by decide +kernel
set_option maxRecDepth 100000 in
theorem ck_14 : la_cok 637 2 117 213 81 84 900 902 901 1697 1699 1698 = true := by decide +kernel
set_option maxRecDepth 100000 in
theorem ck_15 : la_cok 674 2 118 214 85 88 909 911 910 1709 1711 1710 = true := by decide +kernel
set_option maxRecDepth 100000 in
theorem ck_16 : la_cok 711 1 119 215 89 92 914 916 915 1717 1719 1718 = true := by decide +kernel
set_option maxRecDepth 100000 in
theorem ck_17 : la_cok 736 1 120 216 93 96 918 920 919 1721 1723 1722 = true := by decide +kernel
set_option maxRecDepth 100000 in
theorem ck_18 : la_cok 761 0 121 219 97 100 922 924 923 1725 1727 1726 = true := by decide +kernel
set_option maxRecDepth 100000 in
theorem ck_19 : la_cok 774 0 122 220 101 104 964 966 965 1741 1743 1742 = true := by decide +kernel
set_option maxRecDepth 100000 in
theorem ck_20 : la_cok 787 0 123 221 105 108 968 970 969 1745 1747 1746 = true := by decide +kernel
set_option maxRecDepth 100000 in
theorem ck_21 : la_cok 800 0 124 222 109 112 972 974 973 1749 1751 1750 = true := by decide +kernel
set_option maxRecDepth 100000 in
theorem ck_22 : la_cok 813 1 125 224 113 116 976 978 977 1753 1755 1754 = true := by decide +kernel
set_option maxRecDepth 100000 in
theorem ck_23 : la_cok 838 0 127 225 117 120 990 992 991 1761 1763 1762 = true := by decide +kernel
set_option maxRecDepth 100000 in
theorem ck_24 : la_cok 851 1 128 228 121 124 994 996 995 1765 1767 1766 = true := by decide +kernel
set_option maxRecDepth 100000 in
theorem ck_25 : la_cok 876 1 131 230 125 128 1010 1012 1011 1781 1783 1782 = true := by decide +kernel
set_option maxRecDepth 100000 in
theorem ck_26 : la_cok 901 1 132 231 129 132 1017 1019 1018 1785 1787 1786 = true := by decide +kernel
set_option maxRecDepth 100000 in
theorem ck_27 : la_cok 926 1 133 232 133 136 1022 1024 1023 1789 1791 1790 = true := by decide +kernel
set_option maxRecDepth 100000 in
theorem ck_28 : la_cok 951 0 134 233 137 140 1026 1028 1027 1793 1795 1794 = true := by decide +kernel
set_option maxRecDepth 100000 in
theorem ck_29 : la_cok 964 1 129 229 141 144 1006 1008 1007 1777 1779 1778 = true := by decide +kernel
set_option maxRecDepth 100000 in
theorem ck_30 : la_cok 989 2 135 236 145 148 1035 1037 1036 1797 1799 1798 = true := by decide +kernel
set_option maxRecDepth 100000 in
theorem ck_31 : la_cok 1026 3 136 237 149 153 1057 1059 1058 1810 1812 1811 = true := by decide +kernel
set_option maxRecDepth 100000 in
theorem ck_32 : la_cok 1075 1 137 240 154 157 1062 1064 1063 1822 1824 1823 = true := by decide +kernel
set_option maxRecDepth 100000 in
theorem ck_33 : la_cok 1100 1 138 241 158 161 1121 1123 1122 1834 1836 1835 = true := by decide +kernel
set_option maxRecDepth 100000 in
theorem ck_34 : la_cok 1125 0 139 248 162 165 1125 1127 1126 1838 1840 1839 = true := by decide +kernel
set_option maxRecDepth 100000 in
theorem ck_35 : la_cok 1138 1 140 251 166 169 1166 1168 1167 1866 1868 1867 = true := by decide +kernel
set_option maxRecDepth 100000 in
theorem ck_36 : la_cok 1163 1 141 252 170 173 1193 1195 1194 1878 1880 1879 = true := by decide +kernel
set_option maxRecDepth 100000 in
theorem ck_37 : la_cok 1188 1 142 253 174 177 1197 1199 1198 1882 1884 1883 = true := by decide +kernel
set_option maxRecDepth 100000 in
theorem ck_38 : la_cok 1213 1 143 254 178 181 1201 1203 1202 1886 1888 1887 = true := by decide +kernel
