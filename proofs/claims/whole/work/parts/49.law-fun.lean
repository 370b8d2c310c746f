theorem lkR_law_19 : LkV R_law 19 yX8_feed cX8_feed 6 (some .int) 5 := ⟨tb_1 559 (by decide +kernel) (by decide +kernel), tb_1 560 (by decide +kernel) (by decide +kernel), tb_1 561 (by decide +kernel) (by decide +kernel), tb_1 154 (by decide +kernel) (by decide +kernel), coX8_feed, ⟨by decide +kernel, by decide +kernel, by decide +kernel⟩⟩
theorem lkR_law_23 : LkV R_law 23 yX9_feed cX9_feed 8 (some .int) 5 := ⟨tb_1 1602 (by decide +kernel) (by decide +kernel), tb_1 1603 (by decide +kernel) (by decide +kernel), tb_1 1604 (by decide +kernel) (by decide +kernel), tb_1 164 (by decide +kernel) (by decide +kernel), coX9_feed, ⟨by decide +kernel, by decide +kernel, by decide +kernel⟩⟩
theorem lkR_law_24 : LkV R_law 24 yX8_dream cX8_dream 3 (some .int) 1 := ⟨tb_1 567 (by decide +kernel) (by decide +kernel), tb_1 568 (by decide +kernel) (by decide +kernel), tb_1 569 (by decide +kernel) (by decide +kernel), tb_1 154 (by decide +kernel) (by decide +kernel), coX8_dream, ⟨by decide +kernel, by decide +kernel, by decide +kernel⟩⟩
theorem lkR_law_27 : LkV R_law 27 yX9_dream cX9_dream 3 (some .int) 1 := ⟨tb_1 1606 (by decide +kernel) (by decide +kernel), tb_1 1607 (by decide +kernel) (by decide +kernel), tb_1 1608 (by decide +kernel) (by decide +kernel), tb_1 164 (by decide +kernel) (by decide +kernel), coX9_dream, ⟨by decide +kernel, by decide +kernel, by decide +kernel⟩⟩
theorem lkR_law_28 : LkV R_law 28 yX8_fault cX8_fault 1 (some .int) 0 := ⟨tb_1 866 (by decide +kernel) (by decide +kernel), tb_1 867 (by decide +kernel) (by decide +kernel), tb_1 868 (by decide +kernel) (by decide +kernel), tb_1 154 (by decide +kernel) (by decide +kernel), coX8_fault, ⟨by decide +kernel, by decide +kernel, by decide +kernel⟩⟩
theorem lkR_law_32 : LkV R_law 32 yX9_fault cX9_fault 1 (some .int) 0 := ⟨tb_1 1834 (by decide +kernel) (by decide +kernel), tb_1 1835 (by decide +kernel) (by decide +kernel), tb_1 1836 (by decide +kernel) (by decide +kernel), tb_1 164 (by decide +kernel) (by decide +kernel), coX9_fault, ⟨by decide +kernel, by decide +kernel, by decide +kernel⟩⟩
theorem lkR_law_33 : LkV R_law 33 yX8_where cX8_where 1 (some .int) 0 := ⟨tb_1 870 (by decide +kernel) (by decide +kernel), tb_1 871 (by decide +kernel) (by decide +kernel), tb_1 872 (by decide +kernel) (by decide +kernel), tb_1 154 (by decide +kernel) (by decide +kernel), coX8_where, ⟨by decide +kernel, by decide +kernel, by decide +kernel⟩⟩
theorem lkR_law_36 : LkV R_law 36 yX9_where cX9_where 1 (some .int) 0 := ⟨tb_1 1838 (by decide +kernel) (by decide +kernel), tb_1 1839 (by decide +kernel) (by decide +kernel), tb_1 1840 (by decide +kernel) (by decide +kernel), tb_1 164 (by decide +kernel) (by decide +kernel), coX9_where, ⟨by decide +kernel, by decide +kernel, by decide +kernel⟩⟩
theorem lkR_law_37 : LkV R_law 37 yX8_quick cX8_quick 2 (some .int) 1 := ⟨tb_1 874 (by decide +kernel) (by decide +kernel), tb_1 875 (by decide +kernel) (by decide +kernel), tb_1 876 (by decide +kernel) (by decide +kernel), tb_1 154 (by decide +kernel) (by decide +kernel), coX8_quick, ⟨by decide +kernel, by decide +kernel, by decide +kernel⟩⟩
theorem lkR_law_40 : LkV R_law 40 yX9_quick cX9_quick 2 (some .int) 1 := ⟨tb_1 1842 (by decide +kernel) (by decide +kernel), tb_1 1843 (by decide +kernel) (by decide +kernel), tb_1 1844 (by decide +kernel) (by decide +kernel), tb_1 164 (by decide +kernel) (by decide +kernel), coX9_quick, ⟨by decide +kernel, by decide +kernel, by decide +kernel⟩⟩
theorem lkR_law_41 : LkV R_law 41 yX8_clock cX8_clock 2 (some .long) 1 := ⟨tb_1 883 (by decide +kernel) (by decide +kernel), tb_1 884 (by decide +kernel) (by decide +kernel), tb_1 885 (by decide +kernel) (by decide +kernel), tb_1 154 (by decide +kernel) (by decide +kernel), coX8_clock, ⟨by decide +kernel, by decide +kernel, by decide +kernel⟩⟩
theorem lkR_law_45 : LkV R_law 45 yX9_clock cX9_clock 2 (some .long) 1 := ⟨tb_1 1850 (by decide +kernel) (by decide +kernel), tb_1 1851 (by decide +kernel) (by decide +kernel), tb_1 1852 (by decide +kernel) (by decide +kernel), tb_1 164 (by decide +kernel) (by decide +kernel), coX9_clock, ⟨by decide +kernel, by decide +kernel, by decide +kernel⟩⟩
theorem lkR_law_46 : LkV R_law 46 yX8_ticks cX8_ticks 1 (some .long) 0 := ⟨tb_1 899 (by decide +kernel) (by decide +kernel), tb_1 900 (by decide +kernel) (by decide +kernel), tb_1 901 (by decide +kernel) (by decide +kernel), tb_1 154 (by decide +kernel) (by decide +kernel), coX8_ticks, ⟨by decide +kernel, by decide +kernel, by decide +kernel⟩⟩
theorem lkR_law_50 : LkV R_law 50 yX9_ticks cX9_ticks 1 (some .long) 0 := ⟨tb_1 1854 (by decide +kernel) (by decide +kernel), tb_1 1855 (by decide +kernel) (by decide +kernel), tb_1 1856 (by decide +kernel) (by decide +kernel), tb_1 164 (by decide +kernel) (by decide +kernel), coX9_ticks, ⟨by decide +kernel, by decide +kernel, by decide +kernel⟩⟩
theorem lkR_law_51 : LkV R_law 51 yX8_minutes cX8_minutes 5 (some .long) 4 := ⟨tb_1 903 (by decide +kernel) (by decide +kernel), tb_1 904 (by decide +kernel) (by decide +kernel), tb_1 905 (by decide +kernel) (by decide +kernel), tb_1 154 (by decide +kernel) (by decide +kernel), coX8_minutes, ⟨by decide +kernel, by decide +kernel, by decide +kernel⟩⟩
theorem lkR_law_55 : LkV R_law 55 yX9_minutes cX9_minutes 5 (some .long) 4 := ⟨tb_1 1928 (by decide +kernel) (by decide +kernel), tb_1 1929 (by decide +kernel) (by decide +kernel), tb_1 1930 (by decide +kernel) (by decide +kernel), tb_1 164 (by decide +kernel) (by decide +kernel), coX9_minutes, ⟨by decide +kernel, by decide +kernel, by decide +kernel⟩⟩
theorem lkR_law_56 : LkV R_law 56 yX8_sleeper cX8_sleeper 3 (some .int) 2 := ⟨tb_1 910 (by decide +kernel) (by decide +kernel), tb_1 911 (by decide +kernel) (by decide +kernel), tb_1 912 (by decide +kernel) (by decide +kernel), tb_1 154 (by decide +kernel) (by decide +kernel), coX8_sleeper, ⟨by decide +kernel, by decide +kernel, by decide +kernel⟩⟩
theorem lkR_law_60 : LkV R_law 60 yX9_sleeper cX9_sleeper 3 (some .int) 2 := ⟨tb_1 1858 (by decide +kernel) (by decide +kernel), tb_1 1859 (by decide +kernel) (by decide +kernel), tb_1 1860 (by decide +kernel) (by decide +kernel), tb_1 164 (by decide +kernel) (by decide +kernel), coX9_sleeper, ⟨by decide +kernel, by decide +kernel, by decide +kernel⟩⟩
theorem lkR_law_61 : LkV R_law 61 yX8_lived cX8_lived 3 (some .long) 2 := ⟨tb_1 919 (by decide +kernel) (by decide +kernel), tb_1 920 (by decide +kernel) (by decide +kernel), tb_1 921 (by decide +kernel) (by decide +kernel), tb_1 154 (by decide +kernel) (by decide +kernel), coX8_lived, ⟨by decide +kernel, by decide +kernel, by decide +kernel⟩⟩
theorem lkR_law_65 : LkV R_law 65 yX9_lived cX9_lived 6 (some .long) 2 := ⟨tb_1 1866 (by decide +kernel) (by decide +kernel), tb_1 1867 (by decide +kernel) (by decide +kernel), tb_1 1868 (by decide +kernel) (by decide +kernel), tb_1 164 (by decide +kernel) (by decide +kernel), coX9_lived, ⟨by decide +kernel, by decide +kernel, by decide +kernel⟩⟩
theorem lkR_law_66 : LkV R_law 66 yX8_meet cX8_meet 3 (some .int) 2 := ⟨tb_1 932 (by decide +kernel) (by decide +kernel), tb_1 933 (by decide +kernel) (by decide +kernel), tb_1 934 (by decide +kernel) (by decide +kernel), tb_1 154 (by decide +kernel) (by decide +kernel), coX8_meet, ⟨by decide +kernel, by decide +kernel, by decide +kernel⟩⟩
theorem lkR_law_69 : LkV R_law 69 yX9_meet cX9_meet 3 (some .int) 2 := ⟨tb_1 1873 (by decide +kernel) (by decide +kernel), tb_1 1874 (by decide +kernel) (by decide +kernel), tb_1 1875 (by decide +kernel) (by decide +kernel), tb_1 164 (by decide +kernel) (by decide +kernel), coX9_meet, ⟨by decide +kernel, by decide +kernel, by decide +kernel⟩⟩
theorem lkR_law_70 : LkV R_law 70 yX8_off cX8_off 3 (some .int) 0 := ⟨tb_1 944 (by decide +kernel) (by decide +kernel), tb_1 945 (by decide +kernel) (by decide +kernel), tb_1 946 (by decide +kernel) (by decide +kernel), tb_1 154 (by decide +kernel) (by decide +kernel), coX8_off, ⟨by decide +kernel, by decide +kernel, by decide +kernel⟩⟩
theorem lkR_law_73 : LkV R_law 73 yX9_off cX9_off 2 (some .int) 0 := ⟨tb_1 1881 (by decide +kernel) (by decide +kernel), tb_1 1882 (by decide +kernel) (by decide +kernel), tb_1 1883 (by decide +kernel) (by decide +kernel), tb_1 164 (by decide +kernel) (by decide +kernel), coX9_off, ⟨by decide +kernel, by decide +kernel, by decide +kernel⟩⟩
theorem lkR_law_74 : LkV R_law 74 yX8_floorIn cX8_floorIn 4 (some .int) 2 := ⟨tb_1 948 (by decide +kernel) (by decide +kernel), tb_1 949 (by decide +kernel) (by decide +kernel), tb_1 950 (by decide +kernel) (by decide +kernel), tb_1 154 (by decide +kernel) (by decide +kernel), coX8_floorIn, ⟨by decide +kernel, by decide +kernel, by decide +kernel⟩⟩
theorem lkR_law_77 : LkV R_law 77 yX9_floorIn cX9_floorIn 4 (some .int) 2 := ⟨tb_1 1885 (by decide +kernel) (by decide +kernel), tb_1 1886 (by decide +kernel) (by decide +kernel), tb_1 1887 (by decide +kernel) (by decide +kernel), tb_1 164 (by decide +kernel) (by decide +kernel), coX9_floorIn, ⟨by decide +kernel, by decide +kernel, by decide +kernel⟩⟩
theorem lkR_law_78 : LkV R_law 78 yX8_headIn cX8_headIn 4 (some .int) 2 := ⟨tb_1 996 (by decide +kernel) (by decide +kernel), tb_1 997 (by decide +kernel) (by decide +kernel), tb_1 998 (by decide +kernel) (by decide +kernel), tb_1 154 (by decide +kernel) (by decide +kernel), coX8_headIn, ⟨by decide +kernel, by decide +kernel, by decide +kernel⟩⟩
theorem lkR_law_81 : LkV R_law 81 yX9_headIn cX9_headIn 5 (some .int) 2 := ⟨tb_1 1912 (by decide +kernel) (by decide +kernel), tb_1 1913 (by decide +kernel) (by decide +kernel), tb_1 1914 (by decide +kernel) (by decide +kernel), tb_1 164 (by decide +kernel) (by decide +kernel), coX9_headIn, ⟨by decide +kernel, by decide +kernel, by decide +kernel⟩⟩
theorem lkR_law_82 : LkV R_law 82 yX8_meetsIn cX8_meetsIn 4 (some .int) 3 := ⟨tb_1 1000 (by decide +kernel) (by decide +kernel), tb_1 1001 (by decide +kernel) (by decide +kernel), tb_1 1002 (by decide +kernel) (by decide +kernel), tb_1 154 (by decide +kernel) (by decide +kernel), coX8_meetsIn, ⟨by decide +kernel, by decide +kernel, by decide +kernel⟩⟩
theorem lkR_law_86 : LkV R_law 86 yX9_meetsIn cX9_meetsIn 6 (some .int) 3 := ⟨tb_1 1916 (by decide +kernel) (by decide +kernel), tb_1 1917 (by decide +kernel) (by decide +kernel), tb_1 1918 (by decide +kernel) (by decide +kernel), tb_1 164 (by decide +kernel) (by decide +kernel), coX9_meetsIn, ⟨by decide +kernel, by decide +kernel, by decide +kernel⟩⟩
theorem lkR_law_87 : LkV R_law 87 yX8_awakeIn cX8_awakeIn 4 (some .int) 2 := ⟨tb_1 1028 (by decide +kernel) (by decide +kernel), tb_1 1029 (by decide +kernel) (by decide +kernel), tb_1 1030 (by decide +kernel) (by decide +kernel), tb_1 154 (by decide +kernel) (by decide +kernel), coX8_awakeIn, ⟨by decide +kernel, by decide +kernel, by decide +kernel⟩⟩
theorem lkR_law_90 : LkV R_law 90 yX9_awakeIn cX9_awakeIn 6 (some .int) 2 := ⟨tb_1 1932 (by decide +kernel) (by decide +kernel), tb_1 1933 (by decide +kernel) (by decide +kernel), tb_1 1934 (by decide +kernel) (by decide +kernel), tb_1 164 (by decide +kernel) (by decide +kernel), coX9_awakeIn, ⟨by decide +kernel, by decide +kernel, by decide +kernel⟩⟩
theorem lkR_law_91 : LkV R_law 91 yX8_lonely cX8_lonely 4 (some .int) 2 := ⟨tb_1 1036 (by decide +kernel) (by decide +kernel), tb_1 1037 (by decide +kernel) (by decide +kernel), tb_1 1038 (by decide +kernel) (by decide +kernel), tb_1 154 (by decide +kernel) (by decide +kernel), coX8_lonely, ⟨by decide +kernel, by decide +kernel, by decide +kernel⟩⟩
theorem lkR_law_94 : LkV R_law 94 yX9_lonely cX9_lonely 8 (some .int) 2 := ⟨tb_1 1936 (by decide +kernel) (by decide +kernel), tb_1 1937 (by decide +kernel) (by decide +kernel), tb_1 1938 (by decide +kernel) (by decide +kernel), tb_1 164 (by decide +kernel) (by decide +kernel), coX9_lonely, ⟨by decide +kernel, by decide +kernel, by decide +kernel⟩⟩
theorem lkR_law_95 : LkV R_law 95 yX8_crowd cX8_crowd 2 (some .int) 1 := ⟨tb_1 1050 (by decide +kernel) (by decide +kernel), tb_1 1051 (by decide +kernel) (by decide +kernel), tb_1 1052 (by decide +kernel) (by decide +kernel), tb_1 154 (by decide +kernel) (by decide +kernel), coX8_crowd, ⟨by decide +kernel, by decide +kernel, by decide +kernel⟩⟩
theorem lkR_law_98 : LkV R_law 98 yX9_crowd cX9_crowd 4 (some .int) 1 := ⟨tb_1 1940 (by decide +kernel) (by decide +kernel), tb_1 1941 (by decide +kernel) (by decide +kernel), tb_1 1942 (by decide +kernel) (by decide +kernel), tb_1 164 (by decide +kernel) (by decide +kernel), coX9_crowd, ⟨by decide +kernel, by decide +kernel, by decide +kernel⟩⟩
theorem lkR_law_99 : LkV R_law 99 yX8_left cX8_left 3 (some .int) 0 := ⟨tb_1 1058 (by decide +kernel) (by decide +kernel), tb_1 1059 (by decide +kernel) (by decide +kernel), tb_1 1060 (by decide +kernel) (by decide +kernel), tb_1 154 (by decide +kernel) (by decide +kernel), coX8_left, ⟨by decide +kernel, by decide +kernel, by decide +kernel⟩⟩
theorem lkR_law_102 : LkV R_law 102 yX9_left cX9_left 3 (some .int) 0 := ⟨tb_1 1920 (by decide +kernel) (by decide +kernel), tb_1 1921 (by decide +kernel) (by decide +kernel), tb_1 1922 (by decide +kernel) (by decide +kernel), tb_1 164 (by decide +kernel) (by decide +kernel), coX9_left, ⟨by decide +kernel, by decide +kernel, by decide +kernel⟩⟩
theorem lkR_law_103 : LkV R_law 103 yX8_woken cX8_woken 4 (some .int) 2 := ⟨tb_1 1069 (by decide +kernel) (by decide +kernel), tb_1 1070 (by decide +kernel) (by decide +kernel), tb_1 1071 (by decide +kernel) (by decide +kernel), tb_1 154 (by decide +kernel) (by decide +kernel), coX8_woken, ⟨by decide +kernel, by decide +kernel, by decide +kernel⟩⟩
theorem lkR_law_106 : LkV R_law 106 yX9_woken cX9_woken 4 (some .int) 2 := ⟨tb_1 1924 (by decide +kernel) (by decide +kernel), tb_1 1925 (by decide +kernel) (by decide +kernel), tb_1 1926 (by decide +kernel) (by decide +kernel), tb_1 164 (by decide +kernel) (by decide +kernel), coX9_woken, ⟨by decide +kernel, by decide +kernel, by decide +kernel⟩⟩
theorem lkR_law_107 : LkV R_law 107 yX8_felt cX8_felt 4 (some .long) 3 := ⟨tb_1 1073 (by decide +kernel) (by decide +kernel), tb_1 1074 (by decide +kernel) (by decide +kernel), tb_1 1075 (by decide +kernel) (by decide +kernel), tb_1 154 (by decide +kernel) (by decide +kernel), coX8_felt, ⟨by decide +kernel, by decide +kernel, by decide +kernel⟩⟩
theorem lkR_law_111 : LkV R_law 111 yX9_felt cX9_felt 4 (some .long) 3 := ⟨tb_1 1948 (by decide +kernel) (by decide +kernel), tb_1 1949 (by decide +kernel) (by decide +kernel), tb_1 1950 (by decide +kernel) (by decide +kernel), tb_1 164 (by decide +kernel) (by decide +kernel), coX9_felt, ⟨by decide +kernel, by decide +kernel, by decide +kernel⟩⟩
theorem lkR_law_112 : LkV R_law 112 yX8_task cX8_task 2 (some .int) 1 := ⟨tb_1 1084 (by decide +kernel) (by decide +kernel), tb_1 1085 (by decide +kernel) (by decide +kernel), tb_1 1086 (by decide +kernel) (by decide +kernel), tb_1 154 (by decide +kernel) (by decide +kernel), coX8_task, ⟨by decide +kernel, by decide +kernel, by decide +kernel⟩⟩
theorem lkR_law_115 : LkV R_law 115 yX9_task cX9_task 2 (some .int) 1 := ⟨tb_1 1952 (by decide +kernel) (by decide +kernel), tb_1 1953 (by decide +kernel) (by decide +kernel), tb_1 1954 (by decide +kernel) (by decide +kernel), tb_1 164 (by decide +kernel) (by decide +kernel), coX9_task, ⟨by decide +kernel, by decide +kernel, by decide +kernel⟩⟩
theorem lkR_law_116 : LkV R_law 116 yX8_best cX8_best 2 (some .long) 1 := ⟨tb_1 1112 (by decide +kernel) (by decide +kernel), tb_1 1113 (by decide +kernel) (by decide +kernel), tb_1 1114 (by decide +kernel) (by decide +kernel), tb_1 154 (by decide +kernel) (by decide +kernel), coX8_best, ⟨by decide +kernel, by decide +kernel, by decide +kernel⟩⟩
theorem lkR_law_119 : LkV R_law 119 yX9_best cX9_best 2 (some .long) 1 := ⟨tb_1 1972 (by decide +kernel) (by decide +kernel), tb_1 1973 (by decide +kernel) (by decide +kernel), tb_1 1974 (by decide +kernel) (by decide +kernel), tb_1 164 (by decide +kernel) (by decide +kernel), coX9_best, ⟨by decide +kernel, by decide +kernel, by decide +kernel⟩⟩
theorem lkR_law_120 : LkV R_law 120 yX8_soonest cX8_soonest 1 (some .long) 0 := ⟨tb_1 1116 (by decide +kernel) (by decide +kernel), tb_1 1117 (by decide +kernel) (by decide +kernel), tb_1 1118 (by decide +kernel) (by decide +kernel), tb_1 154 (by decide +kernel) (by decide +kernel), coX8_soonest, ⟨by decide +kernel, by decide +kernel, by decide +kernel⟩⟩
theorem lkR_law_123 : LkV R_law 123 yX9_soonest cX9_soonest 1 (some .long) 0 := ⟨tb_1 1977 (by decide +kernel) (by decide +kernel), tb_1 1978 (by decide +kernel) (by decide +kernel), tb_1 1979 (by decide +kernel) (by decide +kernel), tb_1 164 (by decide +kernel) (by decide +kernel), coX9_soonest, ⟨by decide +kernel, by decide +kernel, by decide +kernel⟩⟩
theorem lkR_law_124 : LkV R_law 124 yX8_together cX8_together 3 (some .int) 1 := ⟨tb_1 1125 (by decide +kernel) (by decide +kernel), tb_1 1126 (by decide +kernel) (by decide +kernel), tb_1 1127 (by decide +kernel) (by decide +kernel), tb_1 154 (by decide +kernel) (by decide +kernel), coX8_together, ⟨by decide +kernel, by decide +kernel, by decide +kernel⟩⟩
theorem lkR_law_127 : LkV R_law 127 yX9_together cX9_together 3 (some .int) 1 := ⟨tb_1 1981 (by decide +kernel) (by decide +kernel), tb_1 1982 (by decide +kernel) (by decide +kernel), tb_1 1983 (by decide +kernel) (by decide +kernel), tb_1 164 (by decide +kernel) (by decide +kernel), coX9_together, ⟨by decide +kernel, by decide +kernel, by decide +kernel⟩⟩
theorem lkR_law_128 : LkV R_law 128 yX8_togetherAt cX8_togetherAt 5 (some .int) 2 := ⟨tb_1 1161 (by decide +kernel) (by decide +kernel), tb_1 1162 (by decide +kernel) (by decide +kernel), tb_1 1163 (by decide +kernel) (by decide +kernel), tb_1 154 (by decide +kernel) (by decide +kernel), coX8_togetherAt, ⟨by decide +kernel, by decide +kernel, by decide +kernel⟩⟩
theorem lkR_law_131 : LkV R_law 131 yX9_togetherAt cX9_togetherAt 8 (some .int) 2 := ⟨tb_1 2008 (by decide +kernel) (by decide +kernel), tb_1 2009 (by decide +kernel) (by decide +kernel), tb_1 2010 (by decide +kernel) (by decide +kernel), tb_1 164 (by decide +kernel) (by decide +kernel), coX9_togetherAt, ⟨by decide +kernel, by decide +kernel, by decide +kernel⟩⟩
theorem lkR_law_132 : LkV R_law 132 yX8_deep cX8_deep 1 (some .int) 0 := ⟨tb_1 1165 (by decide +kernel) (by decide +kernel), tb_1 1166 (by decide +kernel) (by decide +kernel), tb_1 1167 (by decide +kernel) (by decide +kernel), tb_1 154 (by decide +kernel) (by decide +kernel), coX8_deep, ⟨by decide +kernel, by decide +kernel, by decide +kernel⟩⟩
theorem lkR_law_135 : LkV R_law 135 yX9_deep cX9_deep 1 (some .int) 0 := ⟨tb_1 2012 (by decide +kernel) (by decide +kernel), tb_1 2013 (by decide +kernel) (by decide +kernel), tb_1 2014 (by decide +kernel) (by decide +kernel), tb_1 164 (by decide +kernel) (by decide +kernel), coX9_deep, ⟨by decide +kernel, by decide +kernel, by decide +kernel⟩⟩
theorem lkR_law_136 : LkV R_law 136 yX8_ask cX8_ask 2 (some .int) 0 := ⟨tb_1 1183 (by decide +kernel) (by decide +kernel), tb_1 1184 (by decide +kernel) (by decide +kernel), tb_1 1185 (by decide +kernel) (by decide +kernel), tb_1 154 (by decide +kernel) (by decide +kernel), coX8_ask, ⟨by decide +kernel, by decide +kernel, by decide +kernel⟩⟩
theorem lkR_law_139 : LkV R_law 139 yX9_ask cX9_ask 2 (some .int) 0 := ⟨tb_1 2024 (by decide +kernel) (by decide +kernel), tb_1 2025 (by decide +kernel) (by decide +kernel), tb_1 2026 (by decide +kernel) (by decide +kernel), tb_1 164 (by decide +kernel) (by decide +kernel), coX9_ask, ⟨by decide +kernel, by decide +kernel, by decide +kernel⟩⟩
theorem lkR_law_140 : LkV R_law 140 yX8_askMost cX8_askMost 3 (some .int) 0 := ⟨tb_1 1201 (by decide +kernel) (by decide +kernel), tb_1 1202 (by decide +kernel) (by decide +kernel), tb_1 1203 (by decide +kernel) (by decide +kernel), tb_1 154 (by decide +kernel) (by decide +kernel), coX8_askMost, ⟨by decide +kernel, by decide +kernel, by decide +kernel⟩⟩
theorem lkR_law_143 : LkV R_law 143 yX9_askMost cX9_askMost 2 (some .int) 0 := ⟨tb_1 2040 (by decide +kernel) (by decide +kernel), tb_1 2041 (by decide +kernel) (by decide +kernel), tb_1 2042 (by decide +kernel) (by decide +kernel), tb_1 164 (by decide +kernel) (by decide +kernel), coX9_askMost, ⟨by decide +kernel, by decide +kernel, by decide +kernel⟩⟩
theorem lkR_law_144 : LkV R_law 144 yX8_letter cX8_letter 4 (some .int) 3 := ⟨tb_1 1211 (by decide +kernel) (by decide +kernel), tb_1 1212 (by decide +kernel) (by decide +kernel), tb_1 1213 (by decide +kernel) (by decide +kernel), tb_1 154 (by decide +kernel) (by decide +kernel), coX8_letter, ⟨by decide +kernel, by decide +kernel, by decide +kernel⟩⟩
theorem lkR_law_147 : LkV R_law 147 yX9_letter cX9_letter 4 (some .int) 3 := ⟨tb_1 2044 (by decide +kernel) (by decide +kernel), tb_1 2045 (by decide +kernel) (by decide +kernel), tb_1 2046 (by decide +kernel) (by decide +kernel), tb_1 164 (by decide +kernel) (by decide +kernel), coX9_letter, ⟨by decide +kernel, by decide +kernel, by decide +kernel⟩⟩
theorem lkR_law_148 : LkV R_law 148 yX8_tells cX8_tells 9 (some .int) 4 := ⟨tb_1 1219 (by decide +kernel) (by decide +kernel), tb_1 1220 (by decide +kernel) (by decide +kernel), tb_1 1221 (by decide +kernel) (by decide +kernel), tb_1 154 (by decide +kernel) (by decide +kernel), coX8_tells, ⟨by decide +kernel, by decide +kernel, by decide +kernel⟩⟩
theorem lkR_law_152 : LkV R_law 152 yX9_tells cX9_tells 7 (some .int) 4 := ⟨tb_1 2056 (by decide +kernel) (by decide +kernel), tb_1 2057 (by decide +kernel) (by decide +kernel), tb_1 2058 (by decide +kernel) (by decide +kernel), tb_1 164 (by decide +kernel) (by decide +kernel), coX9_tells, ⟨by decide +kernel, by decide +kernel, by decide +kernel⟩⟩
theorem lkR_law_153 : LkV R_law 153 yX8_words cX8_words 9 (some .long) 4 := ⟨tb_1 1228 (by decide +kernel) (by decide +kernel), tb_1 1229 (by decide +kernel) (by decide +kernel), tb_1 1230 (by decide +kernel) (by decide +kernel), tb_1 154 (by decide +kernel) (by decide +kernel), coX8_words, ⟨by decide +kernel, by decide +kernel, by decide +kernel⟩⟩
theorem lkR_law_157 : LkV R_law 157 yX9_words cX9_words 9 (some .long) 4 := ⟨tb_1 2060 (by decide +kernel) (by decide +kernel), tb_1 2061 (by decide +kernel) (by decide +kernel), tb_1 2062 (by decide +kernel) (by decide +kernel), tb_1 164 (by decide +kernel) (by decide +kernel), coX9_words, ⟨by decide +kernel, by decide +kernel, by decide +kernel⟩⟩
theorem lkR_law_158 : LkV R_law 158 yX8_meeting cX8_meeting 4 (some .long) 3 := ⟨tb_1 1234 (by decide +kernel) (by decide +kernel), tb_1 1235 (by decide +kernel) (by decide +kernel), tb_1 1236 (by decide +kernel) (by decide +kernel), tb_1 154 (by decide +kernel) (by decide +kernel), coX8_meeting, ⟨by decide +kernel, by decide +kernel, by decide +kernel⟩⟩
theorem lkR_law_161 : LkV R_law 161 yX9_meeting cX9_meeting 5 (some .long) 3 := ⟨tb_1 2064 (by decide +kernel) (by decide +kernel), tb_1 2065 (by decide +kernel) (by decide +kernel), tb_1 2066 (by decide +kernel) (by decide +kernel), tb_1 164 (by decide +kernel) (by decide +kernel), coX9_meeting, ⟨by decide +kernel, by decide +kernel, by decide +kernel⟩⟩
theorem lkR_law_162 : LkV R_law 162 yX8_meetingHead cX8_meetingHead 4 (some .int) 3 := ⟨tb_1 1255 (by decide +kernel) (by decide +kernel), tb_1 1256 (by decide +kernel) (by decide +kernel), tb_1 1257 (by decide +kernel) (by decide +kernel), tb_1 154 (by decide +kernel) (by decide +kernel), coX8_meetingHead, ⟨by decide +kernel, by decide +kernel, by decide +kernel⟩⟩
theorem lkR_law_165 : LkV R_law 165 yX9_meetingHead cX9_meetingHead 5 (some .int) 3 := ⟨tb_1 2080 (by decide +kernel) (by decide +kernel), tb_1 2081 (by decide +kernel) (by decide +kernel), tb_1 2082 (by decide +kernel) (by decide +kernel), tb_1 164 (by decide +kernel) (by decide +kernel), coX9_meetingHead, ⟨by decide +kernel, by decide +kernel, by decide +kernel⟩⟩
theorem lkR_law_166 : LkV R_law 166 yX8_takes cX8_takes 3 (some .int) 1 := ⟨tb_1 1259 (by decide +kernel) (by decide +kernel), tb_1 1260 (by decide +kernel) (by decide +kernel), tb_1 1261 (by decide +kernel) (by decide +kernel), tb_1 154 (by decide +kernel) (by decide +kernel), coX8_takes, ⟨by decide +kernel, by decide +kernel, by decide +kernel⟩⟩
theorem lkR_law_169 : LkV R_law 169 yX9_takes cX9_takes 3 (some .int) 1 := ⟨tb_1 2084 (by decide +kernel) (by decide +kernel), tb_1 2085 (by decide +kernel) (by decide +kernel), tb_1 2086 (by decide +kernel) (by decide +kernel), tb_1 164 (by decide +kernel) (by decide +kernel), coX9_takes, ⟨by decide +kernel, by decide +kernel, by decide +kernel⟩⟩
theorem lkR_law_170 : LkV R_law 170 yX8_gains cX8_gains 3 (some .long) 1 := ⟨tb_1 1279 (by decide +kernel) (by decide +kernel), tb_1 1280 (by decide +kernel) (by decide +kernel), tb_1 1281 (by decide +kernel) (by decide +kernel), tb_1 154 (by decide +kernel) (by decide +kernel), coX8_gains, ⟨by decide +kernel, by decide +kernel, by decide +kernel⟩⟩
theorem lkR_law_173 : LkV R_law 173 yX9_gains cX9_gains 4 (some .long) 1 := ⟨tb_1 2100 (by decide +kernel) (by decide +kernel), tb_1 2101 (by decide +kernel) (by decide +kernel), tb_1 2102 (by decide +kernel) (by decide +kernel), tb_1 164 (by decide +kernel) (by decide +kernel), coX9_gains, ⟨by decide +kernel, by decide +kernel, by decide +kernel⟩⟩
theorem lkR_law_174 : LkV R_law 174 yX8_price cX8_price 6 (some .int) 2 := ⟨tb_1 1283 (by decide +kernel) (by decide +kernel), tb_1 1284 (by decide +kernel) (by decide +kernel), tb_1 1285 (by decide +kernel) (by decide +kernel), tb_1 154 (by decide +kernel) (by decide +kernel), coX8_price, ⟨by decide +kernel, by decide +kernel, by decide +kernel⟩⟩
theorem lkR_law_177 : LkV R_law 177 yX9_price cX9_price 7 (some .int) 2 := ⟨tb_1 2104 (by decide +kernel) (by decide +kernel), tb_1 2105 (by decide +kernel) (by decide +kernel), tb_1 2106 (by decide +kernel) (by decide +kernel), tb_1 164 (by decide +kernel) (by decide +kernel), coX9_price, ⟨by decide +kernel, by decide +kernel, by decide +kernel⟩⟩
theorem lkR_law_178 : LkV R_law 178 yX8_enough cX8_enough 3 (some .int) 2 := ⟨tb_1 1293 (by decide +kernel) (by decide +kernel), tb_1 1294 (by decide +kernel) (by decide +kernel), tb_1 1295 (by decide +kernel) (by decide +kernel), tb_1 154 (by decide +kernel) (by decide +kernel), coX8_enough, ⟨by decide +kernel, by decide +kernel, by decide +kernel⟩⟩
theorem lkR_law_181 : LkV R_law 181 yX9_enough cX9_enough 4 (some .int) 2 := ⟨tb_1 2114 (by decide +kernel) (by decide +kernel), tb_1 2115 (by decide +kernel) (by decide +kernel), tb_1 2116 (by decide +kernel) (by decide +kernel), tb_1 164 (by decide +kernel) (by decide +kernel), coX9_enough, ⟨by decide +kernel, by decide +kernel, by decide +kernel⟩⟩
theorem lkR_law_182 : LkV R_law 182 yX8_rates cX8_rates 1 (some .int) 0 := ⟨tb_1 1297 (by decide +kernel) (by decide +kernel), tb_1 1298 (by decide +kernel) (by decide +kernel), tb_1 1299 (by decide +kernel) (by decide +kernel), tb_1 154 (by decide +kernel) (by decide +kernel), coX8_rates, ⟨by decide +kernel, by decide +kernel, by decide +kernel⟩⟩
theorem lkR_law_185 : LkV R_law 185 yX9_rates cX9_rates 1 (some .int) 0 := ⟨tb_1 2118 (by decide +kernel) (by decide +kernel), tb_1 2119 (by decide +kernel) (by decide +kernel), tb_1 2120 (by decide +kernel) (by decide +kernel), tb_1 164 (by decide +kernel) (by decide +kernel), coX9_rates, ⟨by decide +kernel, by decide +kernel, by decide +kernel⟩⟩
theorem lkR_law_186 : LkV R_law 186 yX8_rate cX8_rate 2 (some .int) 1 := ⟨tb_1 1315 (by decide +kernel) (by decide +kernel), tb_1 1316 (by decide +kernel) (by decide +kernel), tb_1 1317 (by decide +kernel) (by decide +kernel), tb_1 154 (by decide +kernel) (by decide +kernel), coX8_rate, ⟨by decide +kernel, by decide +kernel, by decide +kernel⟩⟩
theorem lkR_law_189 : LkV R_law 189 yX9_rate cX9_rate 3 (some .int) 1 := ⟨tb_1 2130 (by decide +kernel) (by decide +kernel), tb_1 2131 (by decide +kernel) (by decide +kernel), tb_1 2132 (by decide +kernel) (by decide +kernel), tb_1 164 (by decide +kernel) (by decide +kernel), coX9_rate, ⟨by decide +kernel, by decide +kernel, by decide +kernel⟩⟩
theorem lkR_law_190 : LkV R_law 190 yX8_waking cX8_waking 7 (some .long) 4 := ⟨tb_1 1323 (by decide +kernel) (by decide +kernel), tb_1 1324 (by decide +kernel) (by decide +kernel), tb_1 1325 (by decide +kernel) (by decide +kernel), tb_1 154 (by decide +kernel) (by decide +kernel), coX8_waking, ⟨by decide +kernel, by decide +kernel, by decide +kernel⟩⟩
theorem lkR_law_193 : LkV R_law 193 yX9_waking cX9_waking 15 (some .long) 4 := ⟨tb_1 2134 (by decide +kernel) (by decide +kernel), tb_1 2135 (by decide +kernel) (by decide +kernel), tb_1 2136 (by decide +kernel) (by decide +kernel), tb_1 164 (by decide +kernel) (by decide +kernel), coX9_waking, ⟨by decide +kernel, by decide +kernel, by decide +kernel⟩⟩
theorem lkR_law_194 : LkV R_law 194 yX8_mean cX8_mean 5 (some .long) 3 := ⟨tb_1 1334 (by decide +kernel) (by decide +kernel), tb_1 1335 (by decide +kernel) (by decide +kernel), tb_1 1336 (by decide +kernel) (by decide +kernel), tb_1 154 (by decide +kernel) (by decide +kernel), coX8_mean, ⟨by decide +kernel, by decide +kernel, by decide +kernel⟩⟩
theorem lkR_law_198 : LkV R_law 198 yX9_mean cX9_mean 5 (some .long) 3 := ⟨tb_1 2139 (by decide +kernel) (by decide +kernel), tb_1 2140 (by decide +kernel) (by decide +kernel), tb_1 2141 (by decide +kernel) (by decide +kernel), tb_1 164 (by decide +kernel) (by decide +kernel), coX9_mean, ⟨by decide +kernel, by decide +kernel, by decide +kernel⟩⟩
theorem lkR_law_199 : LkV R_law 199 yX8_pass cX8_pass 5 (some .int) 2 := ⟨tb_1 1338 (by decide +kernel) (by decide +kernel), tb_1 1339 (by decide +kernel) (by decide +kernel), tb_1 1340 (by decide +kernel) (by decide +kernel), tb_1 154 (by decide +kernel) (by decide +kernel), coX8_pass, ⟨by decide +kernel, by decide +kernel, by decide +kernel⟩⟩
theorem lkR_law_202 : LkV R_law 202 yX9_pass cX9_pass 5 (some .int) 2 := ⟨tb_1 2143 (by decide +kernel) (by decide +kernel), tb_1 2144 (by decide +kernel) (by decide +kernel), tb_1 2145 (by decide +kernel) (by decide +kernel), tb_1 164 (by decide +kernel) (by decide +kernel), coX9_pass, ⟨by decide +kernel, by decide +kernel, by decide +kernel⟩⟩
theorem lkR_law_203 : LkV R_law 203 yX8_lie cX8_lie 4 (some .int) 2 := ⟨tb_1 1347 (by decide +kernel) (by decide +kernel), tb_1 1348 (by decide +kernel) (by decide +kernel), tb_1 1349 (by decide +kernel) (by decide +kernel), tb_1 154 (by decide +kernel) (by decide +kernel), coX8_lie, ⟨by decide +kernel, by decide +kernel, by decide +kernel⟩⟩
theorem lkR_law_206 : LkV R_law 206 yX9_lie cX9_lie 4 (some .int) 2 := ⟨tb_1 2152 (by decide +kernel) (by decide +kernel), tb_1 2153 (by decide +kernel) (by decide +kernel), tb_1 2154 (by decide +kernel) (by decide +kernel), tb_1 164 (by decide +kernel) (by decide +kernel), coX9_lie, ⟨by decide +kernel, by decide +kernel, by decide +kernel⟩⟩
theorem lkR_law_207 : LkV R_law 207 yX8_wake cX8_wake 2 (some .int) 1 := ⟨tb_1 1357 (by decide +kernel) (by decide +kernel), tb_1 1358 (by decide +kernel) (by decide +kernel), tb_1 1359 (by decide +kernel) (by decide +kernel), tb_1 154 (by decide +kernel) (by decide +kernel), coX8_wake, ⟨by decide +kernel, by decide +kernel, by decide +kernel⟩⟩
theorem lkR_law_210 : LkV R_law 210 yX9_wake cX9_wake 2 (some .int) 1 := ⟨tb_1 2160 (by decide +kernel) (by decide +kernel), tb_1 2161 (by decide +kernel) (by decide +kernel), tb_1 2162 (by decide +kernel) (by decide +kernel), tb_1 164 (by decide +kernel) (by decide +kernel), coX9_wake, ⟨by decide +kernel, by decide +kernel, by decide +kernel⟩⟩
theorem lkR_law_211 : LkV R_law 211 yX8_knock cX8_knock 5 (some .int) 3 := ⟨tb_1 1361 (by decide +kernel) (by decide +kernel), tb_1 1362 (by decide +kernel) (by decide +kernel), tb_1 1363 (by decide +kernel) (by decide +kernel), tb_1 154 (by decide +kernel) (by decide +kernel), coX8_knock, ⟨by decide +kernel, by decide +kernel, by decide +kernel⟩⟩
theorem lkR_law_214 : LkV R_law 214 yX9_knock cX9_knock 5 (some .int) 3 := ⟨tb_1 2164 (by decide +kernel) (by decide +kernel), tb_1 2165 (by decide +kernel) (by decide +kernel), tb_1 2166 (by decide +kernel) (by decide +kernel), tb_1 164 (by decide +kernel) (by decide +kernel), coX9_knock, ⟨by decide +kernel, by decide +kernel, by decide +kernel⟩⟩
theorem lkR_law_215 : LkV R_law 215 yX8_undo cX8_undo 1 (some .boolean) 0 := ⟨tb_1 1366 (by decide +kernel) (by decide +kernel), tb_1 1367 (by decide +kernel) (by decide +kernel), tb_1 1368 (by decide +kernel) (by decide +kernel), tb_1 154 (by decide +kernel) (by decide +kernel), coX8_undo, ⟨by decide +kernel, by decide +kernel, by decide +kernel⟩⟩
theorem lkR_law_219 : LkV R_law 219 yX9_undo cX9_undo 1 (some .boolean) 0 := ⟨tb_1 2168 (by decide +kernel) (by decide +kernel), tb_1 2169 (by decide +kernel) (by decide +kernel), tb_1 2170 (by decide +kernel) (by decide +kernel), tb_1 164 (by decide +kernel) (by decide +kernel), coX9_undo, ⟨by decide +kernel, by decide +kernel, by decide +kernel⟩⟩
theorem lkR_law_220 : LkV R_law 220 yX8_image cX8_image 1 (some .int) 0 := ⟨tb_1 1370 (by decide +kernel) (by decide +kernel), tb_1 1371 (by decide +kernel) (by decide +kernel), tb_1 1372 (by decide +kernel) (by decide +kernel), tb_1 154 (by decide +kernel) (by decide +kernel), coX8_image, ⟨by decide +kernel, by decide +kernel, by decide +kernel⟩⟩
theorem lkR_law_223 : LkV R_law 223 yX9_image cX9_image 1 (some .int) 0 := ⟨tb_1 2176 (by decide +kernel) (by decide +kernel), tb_1 2177 (by decide +kernel) (by decide +kernel), tb_1 2178 (by decide +kernel) (by decide +kernel), tb_1 164 (by decide +kernel) (by decide +kernel), coX9_image, ⟨by decide +kernel, by decide +kernel, by decide +kernel⟩⟩
theorem lkR_law_224 : LkV R_law 224 yX8_back cX8_back 2 (some .boolean) 1 := ⟨tb_1 1374 (by decide +kernel) (by decide +kernel), tb_1 1375 (by decide +kernel) (by decide +kernel), tb_1 1376 (by decide +kernel) (by decide +kernel), tb_1 154 (by decide +kernel) (by decide +kernel), coX8_back, ⟨by decide +kernel, by decide +kernel, by decide +kernel⟩⟩
theorem lkR_law_228 : LkV R_law 228 yX9_back cX9_back 2 (some .boolean) 1 := ⟨tb_1 2180 (by decide +kernel) (by decide +kernel), tb_1 2181 (by decide +kernel) (by decide +kernel), tb_1 2182 (by decide +kernel) (by decide +kernel), tb_1 164 (by decide +kernel) (by decide +kernel), coX9_back, ⟨by decide +kernel, by decide +kernel, by decide +kernel⟩⟩
theorem lkR_law_234 : LkV R_law 234 yX9_led cX9_led 4 (some .int) 1 := ⟨tb_1 2184 (by decide +kernel) (by decide +kernel), tb_1 2185 (by decide +kernel) (by decide +kernel), tb_1 2186 (by decide +kernel) (by decide +kernel), tb_1 164 (by decide +kernel) (by decide +kernel), coX9_led, ⟨by decide +kernel, by decide +kernel, by decide +kernel⟩⟩
theorem lkR_law_235 : LkV R_law 235 yX9_thrown cX9_thrown 1 (some .int) 0 := ⟨tb_1 1598 (by decide +kernel) (by decide +kernel), tb_1 1599 (by decide +kernel) (by decide +kernel), tb_1 1600 (by decide +kernel) (by decide +kernel), tb_1 164 (by decide +kernel) (by decide +kernel), coX9_thrown, ⟨by decide +kernel, by decide +kernel, by decide +kernel⟩⟩
theorem lkR_law_238 : LkV R_law 238 yX8_size cX8_size 2 (some .int) 1 := ⟨tb_1 1378 (by decide +kernel) (by decide +kernel), tb_1 1379 (by decide +kernel) (by decide +kernel), tb_1 1380 (by decide +kernel) (by decide +kernel), tb_1 154 (by decide +kernel) (by decide +kernel), coX8_size, ⟨by decide +kernel, by decide +kernel, by decide +kernel⟩⟩
theorem lkR_law_241 : LkV R_law 241 yX9_size cX9_size 2 (some .int) 1 := ⟨tb_1 2188 (by decide +kernel) (by decide +kernel), tb_1 2189 (by decide +kernel) (by decide +kernel), tb_1 2190 (by decide +kernel) (by decide +kernel), tb_1 164 (by decide +kernel) (by decide +kernel), coX9_size, ⟨by decide +kernel, by decide +kernel, by decide +kernel⟩⟩
theorem lkR_law_242 : LkV R_law 242 yX8_trouble cX8_trouble 1 (some .int) 0 := ⟨tb_1 1386 (by decide +kernel) (by decide +kernel), tb_1 1387 (by decide +kernel) (by decide +kernel), tb_1 1388 (by decide +kernel) (by decide +kernel), tb_1 154 (by decide +kernel) (by decide +kernel), coX8_trouble, ⟨by decide +kernel, by decide +kernel, by decide +kernel⟩⟩
theorem lkR_law_245 : LkV R_law 245 yX9_trouble cX9_trouble 1 (some .int) 0 := ⟨tb_1 2192 (by decide +kernel) (by decide +kernel), tb_1 2193 (by decide +kernel) (by decide +kernel), tb_1 2194 (by decide +kernel) (by decide +kernel), tb_1 164 (by decide +kernel) (by decide +kernel), coX9_trouble, ⟨by decide +kernel, by decide +kernel, by decide +kernel⟩⟩
def fL_law_b264 (self23 : Int32 → HH → Option (Bool × HH)) (xs : Nat → Int32) (L : Nat) (x1 : Nat) (x2 : Nat) (x3 : Nat) (x4 : Int32) (h : HH) : Option (Bool × HH) :=
  gd (inb (x4 + 1) L) (
  gd (inb (x4 + 2) L) (
  gd (inb (x4 + 3) L) (
  gd (inb (x4 + 4) L) (
  gd (inb (x4 + 5) L) (
  bd (fX8_feed x1 (xs (ix (x4 + 1))) (xs (ix (x4 + 2))) (xs (ix (x4 + 3))) (xs (ix (x4 + 4))) (xs (ix (x4 + 5))) h) (fun r295 h295 =>
  gd (inb (x4 + 1) L) (
  gd (inb (x4 + 2) L) (
  gd (inb (x4 + 3) L) (
  gd (inb (x4 + 4) L) (
  gd (inb (x4 + 5) L) (
  bd (fX9_feed x2 (xs (ix (x4 + 1))) (xs (ix (x4 + 2))) (xs (ix (x4 + 3))) (xs (ix (x4 + 4))) (xs (ix (x4 + 5))) h295) (fun r329 h329 =>
  if r295 = r329 then
    self23 (x4 + 6) h329
  else
  some (false, h329)))))))))))))
def fL_law_b337 (self23 : Int32 → HH → Option (Bool × HH)) (xs : Nat → Int32) (L : Nat) (x1 : Nat) (x2 : Nat) (x3 : Nat) (x4 : Int32) (h : HH) : Option (Bool × HH) :=
  gd (inb (x4 + 1) L) (
  bd (fX8_dream x1 (xs (ix (x4 + 1))) h) (fun r344 h344 =>
  gd (inb (x4 + 1) L) (
  bd (fX9_dream x2 (xs (ix (x4 + 1))) h344) (fun r354 h354 =>
  if r344 = r354 then
    self23 (x4 + 6) h354
  else
  some (false, h354)))))
def fL_law_b362 (self23 : Int32 → HH → Option (Bool × HH)) (xs : Nat → Int32) (L : Nat) (x1 : Nat) (x2 : Nat) (x3 : Nat) (x4 : Int32) (h : HH) : Option (Bool × HH) :=
  bd (fX8_fault x1 h) (fun r363 h363 =>
  bd (fX9_fault x2 h363) (fun r367 h367 =>
  if r363 = r367 then
    self23 (x4 + 6) h367
  else
  some (false, h367)))
def fL_law_b375 (self23 : Int32 → HH → Option (Bool × HH)) (xs : Nat → Int32) (L : Nat) (x1 : Nat) (x2 : Nat) (x3 : Nat) (x4 : Int32) (h : HH) : Option (Bool × HH) :=
  bd (fX8_where x1 h) (fun r376 h376 =>
  bd (fX9_where x2 h376) (fun r380 h380 =>
  if r376 = r380 then
    self23 (x4 + 6) h380
  else
  some (false, h380)))
def fL_law_b388 (self23 : Int32 → HH → Option (Bool × HH)) (xs : Nat → Int32) (L : Nat) (x1 : Nat) (x2 : Nat) (x3 : Nat) (x4 : Int32) (h : HH) : Option (Bool × HH) :=
  gd (inb (x4 + 1) L) (
  bd (fX8_quick x1 (xs (ix (x4 + 1))) h) (fun r395 h395 =>
  gd (inb (x4 + 1) L) (
  bd (fX9_quick x2 (xs (ix (x4 + 1))) h395) (fun r405 h405 =>
  if r395 = r405 then
    self23 (x4 + 6) h405
  else
  some (false, h405)))))
def fL_law_b413 (self23 : Int32 → HH → Option (Bool × HH)) (xs : Nat → Int32) (L : Nat) (x1 : Nat) (x2 : Nat) (x3 : Nat) (x4 : Int32) (h : HH) : Option (Bool × HH) :=
  gd (inb (x4 + 1) L) (
  bd (fX8_clock x1 (xs (ix (x4 + 1))) h) (fun r420 h420 =>
  gd (inb (x4 + 1) L) (
  bd (fX9_clock x2 (xs (ix (x4 + 1))) h420) (fun r430 h430 =>
  if r420 = r430 then
    self23 (x4 + 6) h430
  else
  some (false, h430)))))
def fL_law_b439 (self23 : Int32 → HH → Option (Bool × HH)) (xs : Nat → Int32) (L : Nat) (x1 : Nat) (x2 : Nat) (x3 : Nat) (x4 : Int32) (h : HH) : Option (Bool × HH) :=
  bd (fX8_ticks x1 h) (fun r440 h440 =>
  bd (fX9_ticks x2 h440) (fun r444 h444 =>
  if r440 = r444 then
    self23 (x4 + 6) h444
  else
  some (false, h444)))
def fL_law_b453 (self23 : Int32 → HH → Option (Bool × HH)) (xs : Nat → Int32) (L : Nat) (x1 : Nat) (x2 : Nat) (x3 : Nat) (x4 : Int32) (h : HH) : Option (Bool × HH) :=
  gd (inb (x4 + 1) L) (
  gd (inb (x4 + 2) L) (
  gd (inb (x4 + 3) L) (
  gd (inb (x4 + 4) L) (
  if (xs (ix (x4 + 4))) = 0 then
    bd (fX8_minutes x1 (xs (ix (x4 + 1))) (xs (ix (x4 + 2))) (xs (ix (x4 + 3))) false h) (fun r486 h486 =>
    gd (inb (x4 + 1) L) (
    gd (inb (x4 + 2) L) (
    gd (inb (x4 + 3) L) (
    gd (inb (x4 + 4) L) (
    if (xs (ix (x4 + 4))) = 0 then
      bd (fX9_minutes x2 (xs (ix (x4 + 1))) (xs (ix (x4 + 2))) (xs (ix (x4 + 3))) false h486) (fun r522 h522 =>
      if r486 = r522 then
        self23 (x4 + 6) h522
      else
      some (false, h522))
    else
    bd (fX9_minutes x2 (xs (ix (x4 + 1))) (xs (ix (x4 + 2))) (xs (ix (x4 + 3))) true h486) (fun r522 h522 =>
    if r486 = r522 then
      self23 (x4 + 6) h522
    else
    some (false, h522)))))))
  else
  bd (fX8_minutes x1 (xs (ix (x4 + 1))) (xs (ix (x4 + 2))) (xs (ix (x4 + 3))) true h) (fun r486 h486 =>
  gd (inb (x4 + 1) L) (
  gd (inb (x4 + 2) L) (
  gd (inb (x4 + 3) L) (
  gd (inb (x4 + 4) L) (
  if (xs (ix (x4 + 4))) = 0 then
    bd (fX9_minutes x2 (xs (ix (x4 + 1))) (xs (ix (x4 + 2))) (xs (ix (x4 + 3))) false h486) (fun r522 h522 =>
    if r486 = r522 then
      self23 (x4 + 6) h522
    else
    some (false, h522))
  else
  bd (fX9_minutes x2 (xs (ix (x4 + 1))) (xs (ix (x4 + 2))) (xs (ix (x4 + 3))) true h486) (fun r522 h522 =>
  if r486 = r522 then
    self23 (x4 + 6) h522
  else
  some (false, h522)))))))))))
def fL_law_b531 (self23 : Int32 → HH → Option (Bool × HH)) (xs : Nat → Int32) (L : Nat) (x1 : Nat) (x2 : Nat) (x3 : Nat) (x4 : Int32) (h : HH) : Option (Bool × HH) :=
  gd (inb (x4 + 1) L) (
  gd (inb (x4 + 2) L) (
  bd (fX8_sleeper x1 (xs (ix (x4 + 1))) (xs (ix (x4 + 2))) h) (fun r544 h544 =>
  gd (inb (x4 + 1) L) (
  gd (inb (x4 + 2) L) (
  bd (fX9_sleeper x2 (xs (ix (x4 + 1))) (xs (ix (x4 + 2))) h544) (fun r560 h560 =>
  if r544 = r560 then
    self23 (x4 + 6) h560
  else
  some (false, h560)))))))
def fL_law_b568 (self23 : Int32 → HH → Option (Bool × HH)) (xs : Nat → Int32) (L : Nat) (x1 : Nat) (x2 : Nat) (x3 : Nat) (x4 : Int32) (h : HH) : Option (Bool × HH) :=
  gd (inb (x4 + 1) L) (
  gd (inb (x4 + 2) L) (
  if (xs (ix (x4 + 2))) = 0 then
    bd (fX8_lived x1 (xs (ix (x4 + 1))) false h) (fun r589 h589 =>
    gd (inb (x4 + 1) L) (
    gd (inb (x4 + 2) L) (
    if (xs (ix (x4 + 2))) = 0 then
      bd (fX9_lived x2 (xs (ix (x4 + 1))) false h589) (fun r613 h613 =>
      if r589 = r613 then
        self23 (x4 + 6) h613
      else
      some (false, h613))
    else
    bd (fX9_lived x2 (xs (ix (x4 + 1))) true h589) (fun r613 h613 =>
    if r589 = r613 then
      self23 (x4 + 6) h613
    else
    some (false, h613)))))
  else
  bd (fX8_lived x1 (xs (ix (x4 + 1))) true h) (fun r589 h589 =>
  gd (inb (x4 + 1) L) (
  gd (inb (x4 + 2) L) (
  if (xs (ix (x4 + 2))) = 0 then
    bd (fX9_lived x2 (xs (ix (x4 + 1))) false h589) (fun r613 h613 =>
    if r589 = r613 then
      self23 (x4 + 6) h613
    else
    some (false, h613))
  else
  bd (fX9_lived x2 (xs (ix (x4 + 1))) true h589) (fun r613 h613 =>
  if r589 = r613 then
    self23 (x4 + 6) h613
  else
  some (false, h613)))))))
def fL_law_b622 (self23 : Int32 → HH → Option (Bool × HH)) (xs : Nat → Int32) (L : Nat) (x1 : Nat) (x2 : Nat) (x3 : Nat) (x4 : Int32) (h : HH) : Option (Bool × HH) :=
  gd (inb (x4 + 1) L) (
  gd (inb (x4 + 2) L) (
  bd (fX8_meet x1 (xs (ix (x4 + 1))) (xs (ix (x4 + 2))) h) (fun r635 h635 =>
  gd (inb (x4 + 1) L) (
  gd (inb (x4 + 2) L) (
  bd (fX9_meet x2 (xs (ix (x4 + 1))) (xs (ix (x4 + 2))) h635) (fun r651 h651 =>
  if r635 = r651 then
    self23 (x4 + 6) h651
  else
  some (false, h651)))))))
def fL_law_b659 (self23 : Int32 → HH → Option (Bool × HH)) (xs : Nat → Int32) (L : Nat) (x1 : Nat) (x2 : Nat) (x3 : Nat) (x4 : Int32) (h : HH) : Option (Bool × HH) :=
  bd (fX8_off x1 h) (fun r660 h660 =>
  bd (fX9_off x2 h660) (fun r664 h664 =>
  if r660 = r664 then
    self23 (x4 + 6) h664
  else
  some (false, h664)))
def fL_law_b672 (self23 : Int32 → HH → Option (Bool × HH)) (xs : Nat → Int32) (L : Nat) (x1 : Nat) (x2 : Nat) (x3 : Nat) (x4 : Int32) (h : HH) : Option (Bool × HH) :=
  gd (inb (x4 + 1) L) (
  gd (inb (x4 + 2) L) (
  bd (fX8_floorIn x1 (xs (ix (x4 + 1))) (xs (ix (x4 + 2))) h) (fun r685 h685 =>
  gd (inb (x4 + 1) L) (
  gd (inb (x4 + 2) L) (
  bd (fX9_floorIn x2 (xs (ix (x4 + 1))) (xs (ix (x4 + 2))) h685) (fun r701 h701 =>
  if r685 = r701 then
    self23 (x4 + 6) h701
  else
  some (false, h701)))))))
def fL_law_b709 (self23 : Int32 → HH → Option (Bool × HH)) (xs : Nat → Int32) (L : Nat) (x1 : Nat) (x2 : Nat) (x3 : Nat) (x4 : Int32) (h : HH) : Option (Bool × HH) :=
  gd (inb (x4 + 1) L) (
  gd (inb (x4 + 2) L) (
  bd (fX8_headIn x1 (xs (ix (x4 + 1))) (xs (ix (x4 + 2))) h) (fun r722 h722 =>
  gd (inb (x4 + 1) L) (
  gd (inb (x4 + 2) L) (
  bd (fX9_headIn x2 (xs (ix (x4 + 1))) (xs (ix (x4 + 2))) h722) (fun r738 h738 =>
  if r722 = r738 then
    self23 (x4 + 6) h738
  else
  some (false, h738)))))))
def fL_law_b746 (self23 : Int32 → HH → Option (Bool × HH)) (xs : Nat → Int32) (L : Nat) (x1 : Nat) (x2 : Nat) (x3 : Nat) (x4 : Int32) (h : HH) : Option (Bool × HH) :=
  gd (inb (x4 + 1) L) (
  gd (inb (x4 + 2) L) (
  gd (inb (x4 + 3) L) (
  bd (fX8_meetsIn x1 (xs (ix (x4 + 1))) (xs (ix (x4 + 2))) (xs (ix (x4 + 3))) h) (fun r765 h765 =>
  gd (inb (x4 + 1) L) (
  gd (inb (x4 + 2) L) (
  gd (inb (x4 + 3) L) (
  bd (fX9_meetsIn x2 (xs (ix (x4 + 1))) (xs (ix (x4 + 2))) (xs (ix (x4 + 3))) h765) (fun r787 h787 =>
  if r765 = r787 then
    self23 (x4 + 6) h787
  else
  some (false, h787)))))))))
def fL_law_b795 (self23 : Int32 → HH → Option (Bool × HH)) (xs : Nat → Int32) (L : Nat) (x1 : Nat) (x2 : Nat) (x3 : Nat) (x4 : Int32) (h : HH) : Option (Bool × HH) :=
  gd (inb (x4 + 1) L) (
  gd (inb (x4 + 2) L) (
  bd (fX8_awakeIn x1 (xs (ix (x4 + 1))) (xs (ix (x4 + 2))) h) (fun r808 h808 =>
  gd (inb (x4 + 1) L) (
  gd (inb (x4 + 2) L) (
  bd (fX9_awakeIn x2 (xs (ix (x4 + 1))) (xs (ix (x4 + 2))) h808) (fun r824 h824 =>
  if r808 = r824 then
    self23 (x4 + 6) h824
  else
  some (false, h824)))))))
def fL_law_b832 (self23 : Int32 → HH → Option (Bool × HH)) (xs : Nat → Int32) (L : Nat) (x1 : Nat) (x2 : Nat) (x3 : Nat) (x4 : Int32) (h : HH) : Option (Bool × HH) :=
  gd (inb (x4 + 1) L) (
  gd (inb (x4 + 2) L) (
  bd (fX8_lonely x1 (xs (ix (x4 + 1))) (xs (ix (x4 + 2))) h) (fun r845 h845 =>
  gd (inb (x4 + 1) L) (
  gd (inb (x4 + 2) L) (
  bd (fX9_lonely x2 (xs (ix (x4 + 1))) (xs (ix (x4 + 2))) h845) (fun r861 h861 =>
  if r845 = r861 then
    self23 (x4 + 6) h861
  else
  some (false, h861)))))))
def fL_law_b869 (self23 : Int32 → HH → Option (Bool × HH)) (xs : Nat → Int32) (L : Nat) (x1 : Nat) (x2 : Nat) (x3 : Nat) (x4 : Int32) (h : HH) : Option (Bool × HH) :=
  gd (inb (x4 + 1) L) (
  bd (fX8_crowd x1 (xs (ix (x4 + 1))) h) (fun r876 h876 =>
  gd (inb (x4 + 1) L) (
  bd (fX9_crowd x2 (xs (ix (x4 + 1))) h876) (fun r886 h886 =>
  if r876 = r886 then
    self23 (x4 + 6) h886
  else
  some (false, h886)))))
def fL_law_b894 (self23 : Int32 → HH → Option (Bool × HH)) (xs : Nat → Int32) (L : Nat) (x1 : Nat) (x2 : Nat) (x3 : Nat) (x4 : Int32) (h : HH) : Option (Bool × HH) :=
  bd (fX8_left x1 h) (fun r895 h895 =>
  bd (fX9_left x2 h895) (fun r899 h899 =>
  if r895 = r899 then
    self23 (x4 + 6) h899
  else
  some (false, h899)))
def fL_law_b907 (self23 : Int32 → HH → Option (Bool × HH)) (xs : Nat → Int32) (L : Nat) (x1 : Nat) (x2 : Nat) (x3 : Nat) (x4 : Int32) (h : HH) : Option (Bool × HH) :=
  gd (inb (x4 + 1) L) (
  gd (inb (x4 + 2) L) (
  bd (fX8_woken x1 (xs (ix (x4 + 1))) (xs (ix (x4 + 2))) h) (fun r920 h920 =>
  gd (inb (x4 + 1) L) (
  gd (inb (x4 + 2) L) (
  bd (fX9_woken x2 (xs (ix (x4 + 1))) (xs (ix (x4 + 2))) h920) (fun r936 h936 =>
  if r920 = r936 then
    self23 (x4 + 6) h936
  else
  some (false, h936)))))))
def fL_law_b944 (self23 : Int32 → HH → Option (Bool × HH)) (xs : Nat → Int32) (L : Nat) (x1 : Nat) (x2 : Nat) (x3 : Nat) (x4 : Int32) (h : HH) : Option (Bool × HH) :=
  gd (inb (x4 + 1) L) (
  gd (inb (x4 + 2) L) (
  gd (inb (x4 + 3) L) (
  bd (fX8_felt x1 (xs (ix (x4 + 1))) (xs (ix (x4 + 2))) (xs (ix (x4 + 3))) h) (fun r963 h963 =>
  gd (inb (x4 + 1) L) (
  gd (inb (x4 + 2) L) (
  gd (inb (x4 + 3) L) (
  bd (fX9_felt x2 (xs (ix (x4 + 1))) (xs (ix (x4 + 2))) (xs (ix (x4 + 3))) h963) (fun r985 h985 =>
  if r963 = r985 then
    self23 (x4 + 6) h985
  else
  some (false, h985)))))))))
def fL_law_b994 (self23 : Int32 → HH → Option (Bool × HH)) (xs : Nat → Int32) (L : Nat) (x1 : Nat) (x2 : Nat) (x3 : Nat) (x4 : Int32) (h : HH) : Option (Bool × HH) :=
  gd (inb (x4 + 1) L) (
  bd (fX8_task x1 (xs (ix (x4 + 1))) h) (fun r1001 h1001 =>
  gd (inb (x4 + 1) L) (
  bd (fX9_task x2 (xs (ix (x4 + 1))) h1001) (fun r1011 h1011 =>
  if r1001 = r1011 then
    self23 (x4 + 6) h1011
  else
  some (false, h1011)))))
def fL_law_b1019 (self23 : Int32 → HH → Option (Bool × HH)) (xs : Nat → Int32) (L : Nat) (x1 : Nat) (x2 : Nat) (x3 : Nat) (x4 : Int32) (h : HH) : Option (Bool × HH) :=
  gd (inb (x4 + 1) L) (
  bd (fX8_best x1 (xs (ix (x4 + 1))) h) (fun r1026 h1026 =>
  gd (inb (x4 + 1) L) (
  bd (fX9_best x2 (xs (ix (x4 + 1))) h1026) (fun r1036 h1036 =>
  if r1026 = r1036 then
    self23 (x4 + 6) h1036
  else
  some (false, h1036)))))
def fL_law_b1045 (self23 : Int32 → HH → Option (Bool × HH)) (xs : Nat → Int32) (L : Nat) (x1 : Nat) (x2 : Nat) (x3 : Nat) (x4 : Int32) (h : HH) : Option (Bool × HH) :=
  bd (fX8_soonest x1 h) (fun r1046 h1046 =>
  bd (fX9_soonest x2 h1046) (fun r1050 h1050 =>
  if r1046 = r1050 then
    self23 (x4 + 6) h1050
  else
  some (false, h1050)))
def fL_law_b1059 (self23 : Int32 → HH → Option (Bool × HH)) (xs : Nat → Int32) (L : Nat) (x1 : Nat) (x2 : Nat) (x3 : Nat) (x4 : Int32) (h : HH) : Option (Bool × HH) :=
  gd (inb (x4 + 1) L) (
  bd (fX8_together x1 (xs (ix (x4 + 1))) h) (fun r1066 h1066 =>
  gd (inb (x4 + 1) L) (
  bd (fX9_together x2 (xs (ix (x4 + 1))) h1066) (fun r1076 h1076 =>
  if r1066 = r1076 then
    self23 (x4 + 6) h1076
  else
  some (false, h1076)))))
def fL_law_b1084 (self23 : Int32 → HH → Option (Bool × HH)) (xs : Nat → Int32) (L : Nat) (x1 : Nat) (x2 : Nat) (x3 : Nat) (x4 : Int32) (h : HH) : Option (Bool × HH) :=
  gd (inb (x4 + 1) L) (
  gd (inb (x4 + 2) L) (
  bd (fX8_togetherAt x1 (xs (ix (x4 + 1))) (xs (ix (x4 + 2))) h) (fun r1097 h1097 =>
  gd (inb (x4 + 1) L) (
  gd (inb (x4 + 2) L) (
  bd (fX9_togetherAt x2 (xs (ix (x4 + 1))) (xs (ix (x4 + 2))) h1097) (fun r1113 h1113 =>
  if r1097 = r1113 then
    self23 (x4 + 6) h1113
  else
  some (false, h1113)))))))
def fL_law_b1121 (self23 : Int32 → HH → Option (Bool × HH)) (xs : Nat → Int32) (L : Nat) (x1 : Nat) (x2 : Nat) (x3 : Nat) (x4 : Int32) (h : HH) : Option (Bool × HH) :=
  bd (fX8_deep x1 h) (fun r1122 h1122 =>
  bd (fX9_deep x2 h1122) (fun r1126 h1126 =>
  if r1122 = r1126 then
    self23 (x4 + 6) h1126
  else
  some (false, h1126)))
def fL_law_b1134 (self23 : Int32 → HH → Option (Bool × HH)) (xs : Nat → Int32) (L : Nat) (x1 : Nat) (x2 : Nat) (x3 : Nat) (x4 : Int32) (h : HH) : Option (Bool × HH) :=
  bd (fX8_ask x1 h) (fun r1135 h1135 =>
  bd (fX9_ask x2 h1135) (fun r1139 h1139 =>
  if r1135 = r1139 then
    self23 (x4 + 6) h1139
  else
  some (false, h1139)))
def fL_law_b1147 (self23 : Int32 → HH → Option (Bool × HH)) (xs : Nat → Int32) (L : Nat) (x1 : Nat) (x2 : Nat) (x3 : Nat) (x4 : Int32) (h : HH) : Option (Bool × HH) :=
  bd (fX8_askMost x1 h) (fun r1148 h1148 =>
  bd (fX9_askMost x2 h1148) (fun r1152 h1152 =>
  if r1148 = r1152 then
    self23 (x4 + 6) h1152
  else
  some (false, h1152)))
def fL_law_b1160 (self23 : Int32 → HH → Option (Bool × HH)) (xs : Nat → Int32) (L : Nat) (x1 : Nat) (x2 : Nat) (x3 : Nat) (x4 : Int32) (h : HH) : Option (Bool × HH) :=
  gd (inb (x4 + 1) L) (
  gd (inb (x4 + 2) L) (
  gd (inb (x4 + 3) L) (
  bd (fX8_letter x1 (xs (ix (x4 + 1))) (xs (ix (x4 + 2))) (xs (ix (x4 + 3))) h) (fun r1179 h1179 =>
  gd (inb (x4 + 1) L) (
  gd (inb (x4 + 2) L) (
  gd (inb (x4 + 3) L) (
  bd (fX9_letter x2 (xs (ix (x4 + 1))) (xs (ix (x4 + 2))) (xs (ix (x4 + 3))) h1179) (fun r1201 h1201 =>
  if r1179 = r1201 then
    self23 (x4 + 6) h1201
  else
  some (false, h1201)))))))))
def fL_law_b1209 (self23 : Int32 → HH → Option (Bool × HH)) (xs : Nat → Int32) (L : Nat) (x1 : Nat) (x2 : Nat) (x3 : Nat) (x4 : Int32) (h : HH) : Option (Bool × HH) :=
  gd (inb (x4 + 1) L) (
  gd (inb (x4 + 2) L) (
  gd (inb (x4 + 3) L) (
  gd (inb (x4 + 4) L) (
  bd (fX8_tells x1 (xs (ix (x4 + 1))) (xs (ix (x4 + 2))) (xs (ix (x4 + 3))) (xs (ix (x4 + 4))) h) (fun r1234 h1234 =>
  gd (inb (x4 + 1) L) (
  gd (inb (x4 + 2) L) (
  gd (inb (x4 + 3) L) (
  gd (inb (x4 + 4) L) (
  bd (fX9_tells x2 (xs (ix (x4 + 1))) (xs (ix (x4 + 2))) (xs (ix (x4 + 3))) (xs (ix (x4 + 4))) h1234) (fun r1262 h1262 =>
  if r1234 = r1262 then
    self23 (x4 + 6) h1262
  else
  some (false, h1262)))))))))))
def fL_law_b1270 (self23 : Int32 → HH → Option (Bool × HH)) (xs : Nat → Int32) (L : Nat) (x1 : Nat) (x2 : Nat) (x3 : Nat) (x4 : Int32) (h : HH) : Option (Bool × HH) :=
  gd (inb (x4 + 1) L) (
  gd (inb (x4 + 2) L) (
  gd (inb (x4 + 3) L) (
  gd (inb (x4 + 4) L) (
  bd (fX8_words x1 (xs (ix (x4 + 1))) (xs (ix (x4 + 2))) (xs (ix (x4 + 3))) (xs (ix (x4 + 4))) h) (fun r1295 h1295 =>
  gd (inb (x4 + 1) L) (
  gd (inb (x4 + 2) L) (
  gd (inb (x4 + 3) L) (
  gd (inb (x4 + 4) L) (
  bd (fX9_words x2 (xs (ix (x4 + 1))) (xs (ix (x4 + 2))) (xs (ix (x4 + 3))) (xs (ix (x4 + 4))) h1295) (fun r1323 h1323 =>
  if r1295 = r1323 then
    self23 (x4 + 6) h1323
  else
  some (false, h1323)))))))))))
def fL_law_b1332 (self23 : Int32 → HH → Option (Bool × HH)) (xs : Nat → Int32) (L : Nat) (x1 : Nat) (x2 : Nat) (x3 : Nat) (x4 : Int32) (h : HH) : Option (Bool × HH) :=
  gd (inb (x4 + 1) L) (
  gd (inb (x4 + 2) L) (
  gd (inb (x4 + 3) L) (
  bd (fX8_meeting x1 (xs (ix (x4 + 1))) (xs (ix (x4 + 2))) (xs (ix (x4 + 3))) h) (fun r1351 h1351 =>
  gd (inb (x4 + 1) L) (
  gd (inb (x4 + 2) L) (
  gd (inb (x4 + 3) L) (
  bd (fX9_meeting x2 (xs (ix (x4 + 1))) (xs (ix (x4 + 2))) (xs (ix (x4 + 3))) h1351) (fun r1373 h1373 =>
  if r1351 = r1373 then
    self23 (x4 + 6) h1373
  else
  some (false, h1373)))))))))
def fL_law_b1382 (self23 : Int32 → HH → Option (Bool × HH)) (xs : Nat → Int32) (L : Nat) (x1 : Nat) (x2 : Nat) (x3 : Nat) (x4 : Int32) (h : HH) : Option (Bool × HH) :=
  gd (inb (x4 + 1) L) (
  gd (inb (x4 + 2) L) (
  gd (inb (x4 + 3) L) (
  bd (fX8_meetingHead x1 (xs (ix (x4 + 1))) (xs (ix (x4 + 2))) (xs (ix (x4 + 3))) h) (fun r1401 h1401 =>
  gd (inb (x4 + 1) L) (
  gd (inb (x4 + 2) L) (
  gd (inb (x4 + 3) L) (
  bd (fX9_meetingHead x2 (xs (ix (x4 + 1))) (xs (ix (x4 + 2))) (xs (ix (x4 + 3))) h1401) (fun r1423 h1423 =>
  if r1401 = r1423 then
    self23 (x4 + 6) h1423
  else
  some (false, h1423)))))))))
def fL_law_b1431 (self23 : Int32 → HH → Option (Bool × HH)) (xs : Nat → Int32) (L : Nat) (x1 : Nat) (x2 : Nat) (x3 : Nat) (x4 : Int32) (h : HH) : Option (Bool × HH) :=
  gd (inb (x4 + 1) L) (
  bd (fX8_takes x1 (xs (ix (x4 + 1))) h) (fun r1438 h1438 =>
  gd (inb (x4 + 1) L) (
  bd (fX9_takes x2 (xs (ix (x4 + 1))) h1438) (fun r1448 h1448 =>
  if r1438 = r1448 then
    self23 (x4 + 6) h1448
  else
  some (false, h1448)))))
def fL_law_b1456 (self23 : Int32 → HH → Option (Bool × HH)) (xs : Nat → Int32) (L : Nat) (x1 : Nat) (x2 : Nat) (x3 : Nat) (x4 : Int32) (h : HH) : Option (Bool × HH) :=
  gd (inb (x4 + 1) L) (
  bd (fX8_gains x1 (xs (ix (x4 + 1))) h) (fun r1463 h1463 =>
  gd (inb (x4 + 1) L) (
  bd (fX9_gains x2 (xs (ix (x4 + 1))) h1463) (fun r1473 h1473 =>
  if r1463 = r1473 then
    self23 (x4 + 6) h1473
  else
  some (false, h1473)))))
def fL_law_b1482 (self23 : Int32 → HH → Option (Bool × HH)) (xs : Nat → Int32) (L : Nat) (x1 : Nat) (x2 : Nat) (x3 : Nat) (x4 : Int32) (h : HH) : Option (Bool × HH) :=
  gd (inb (x4 + 1) L) (
  gd (inb (x4 + 2) L) (
  bd (fX8_price x1 (xs (ix (x4 + 1))) (xs (ix (x4 + 2))) h) (fun r1495 h1495 =>
  gd (inb (x4 + 1) L) (
  gd (inb (x4 + 2) L) (
  bd (fX9_price x2 (xs (ix (x4 + 1))) (xs (ix (x4 + 2))) h1495) (fun r1511 h1511 =>
  if r1495 = r1511 then
    self23 (x4 + 6) h1511
  else
  some (false, h1511)))))))
def fL_law_b1519 (self23 : Int32 → HH → Option (Bool × HH)) (xs : Nat → Int32) (L : Nat) (x1 : Nat) (x2 : Nat) (x3 : Nat) (x4 : Int32) (h : HH) : Option (Bool × HH) :=
  gd (inb (x4 + 1) L) (
  gd (inb (x4 + 2) L) (
  bd (fX8_enough x1 (xs (ix (x4 + 1))) (xs (ix (x4 + 2))) h) (fun r1532 h1532 =>
  gd (inb (x4 + 1) L) (
  gd (inb (x4 + 2) L) (
  bd (fX9_enough x2 (xs (ix (x4 + 1))) (xs (ix (x4 + 2))) h1532) (fun r1548 h1548 =>
  if r1532 = r1548 then
    self23 (x4 + 6) h1548
  else
  some (false, h1548)))))))
def fL_law_b1556 (self23 : Int32 → HH → Option (Bool × HH)) (xs : Nat → Int32) (L : Nat) (x1 : Nat) (x2 : Nat) (x3 : Nat) (x4 : Int32) (h : HH) : Option (Bool × HH) :=
  bd (fX8_rates x1 h) (fun r1557 h1557 =>
  bd (fX9_rates x2 h1557) (fun r1561 h1561 =>
  if r1557 = r1561 then
    self23 (x4 + 6) h1561
  else
  some (false, h1561)))
def fL_law_b1569 (self23 : Int32 → HH → Option (Bool × HH)) (xs : Nat → Int32) (L : Nat) (x1 : Nat) (x2 : Nat) (x3 : Nat) (x4 : Int32) (h : HH) : Option (Bool × HH) :=
  gd (inb (x4 + 1) L) (
  bd (fX8_rate x1 (xs (ix (x4 + 1))) h) (fun r1576 h1576 =>
  gd (inb (x4 + 1) L) (
  bd (fX9_rate x2 (xs (ix (x4 + 1))) h1576) (fun r1586 h1586 =>
  if r1576 = r1586 then
    self23 (x4 + 6) h1586
  else
  some (false, h1586)))))
def fL_law_b1594 (self23 : Int32 → HH → Option (Bool × HH)) (xs : Nat → Int32) (L : Nat) (x1 : Nat) (x2 : Nat) (x3 : Nat) (x4 : Int32) (h : HH) : Option (Bool × HH) :=
  gd (inb (x4 + 1) L) (
  gd (inb (x4 + 2) L) (
  gd (inb (x4 + 3) L) (
  gd (inb (x4 + 4) L) (
  if (xs (ix (x4 + 4))) = 0 then
    bd (fX8_waking x1 (xs (ix (x4 + 1))) (xs (ix (x4 + 2))) (xs (ix (x4 + 3))) false h) (fun r1627 h1627 =>
    gd (inb (x4 + 1) L) (
    gd (inb (x4 + 2) L) (
    gd (inb (x4 + 3) L) (
    gd (inb (x4 + 4) L) (
    if (xs (ix (x4 + 4))) = 0 then
      bd (fX9_waking x2 (xs (ix (x4 + 1))) (xs (ix (x4 + 2))) (xs (ix (x4 + 3))) false h1627) (fun r1663 h1663 =>
      if r1627 = r1663 then
        self23 (x4 + 6) h1663
      else
      some (false, h1663))
    else
    bd (fX9_waking x2 (xs (ix (x4 + 1))) (xs (ix (x4 + 2))) (xs (ix (x4 + 3))) true h1627) (fun r1663 h1663 =>
    if r1627 = r1663 then
      self23 (x4 + 6) h1663
    else
    some (false, h1663)))))))
  else
  bd (fX8_waking x1 (xs (ix (x4 + 1))) (xs (ix (x4 + 2))) (xs (ix (x4 + 3))) true h) (fun r1627 h1627 =>
  gd (inb (x4 + 1) L) (
  gd (inb (x4 + 2) L) (
  gd (inb (x4 + 3) L) (
  gd (inb (x4 + 4) L) (
  if (xs (ix (x4 + 4))) = 0 then
    bd (fX9_waking x2 (xs (ix (x4 + 1))) (xs (ix (x4 + 2))) (xs (ix (x4 + 3))) false h1627) (fun r1663 h1663 =>
    if r1627 = r1663 then
      self23 (x4 + 6) h1663
    else
    some (false, h1663))
  else
  bd (fX9_waking x2 (xs (ix (x4 + 1))) (xs (ix (x4 + 2))) (xs (ix (x4 + 3))) true h1627) (fun r1663 h1663 =>
  if r1627 = r1663 then
    self23 (x4 + 6) h1663
  else
  some (false, h1663)))))))))))
def fL_law_b1672 (self23 : Int32 → HH → Option (Bool × HH)) (xs : Nat → Int32) (L : Nat) (x1 : Nat) (x2 : Nat) (x3 : Nat) (x4 : Int32) (h : HH) : Option (Bool × HH) :=
  gd (inb (x4 + 1) L) (
  gd (inb (x4 + 2) L) (
  gd (inb (x4 + 3) L) (
  if (xs (ix (x4 + 3))) = 0 then
    bd (fX8_mean x1 (xs (ix (x4 + 1))) (xs (ix (x4 + 2))) false h) (fun r1699 h1699 =>
    gd (inb (x4 + 1) L) (
    gd (inb (x4 + 2) L) (
    gd (inb (x4 + 3) L) (
    if (xs (ix (x4 + 3))) = 0 then
      bd (fX9_mean x2 (xs (ix (x4 + 1))) (xs (ix (x4 + 2))) false h1699) (fun r1729 h1729 =>
      if r1699 = r1729 then
        self23 (x4 + 6) h1729
      else
      some (false, h1729))
    else
    bd (fX9_mean x2 (xs (ix (x4 + 1))) (xs (ix (x4 + 2))) true h1699) (fun r1729 h1729 =>
    if r1699 = r1729 then
      self23 (x4 + 6) h1729
    else
    some (false, h1729))))))
  else
  bd (fX8_mean x1 (xs (ix (x4 + 1))) (xs (ix (x4 + 2))) true h) (fun r1699 h1699 =>
  gd (inb (x4 + 1) L) (
  gd (inb (x4 + 2) L) (
  gd (inb (x4 + 3) L) (
  if (xs (ix (x4 + 3))) = 0 then
    bd (fX9_mean x2 (xs (ix (x4 + 1))) (xs (ix (x4 + 2))) false h1699) (fun r1729 h1729 =>
    if r1699 = r1729 then
      self23 (x4 + 6) h1729
    else
    some (false, h1729))
  else
  bd (fX9_mean x2 (xs (ix (x4 + 1))) (xs (ix (x4 + 2))) true h1699) (fun r1729 h1729 =>
  if r1699 = r1729 then
    self23 (x4 + 6) h1729
  else
  some (false, h1729)))))))))
def fL_law_b1738 (self23 : Int32 → HH → Option (Bool × HH)) (xs : Nat → Int32) (L : Nat) (x1 : Nat) (x2 : Nat) (x3 : Nat) (x4 : Int32) (h : HH) : Option (Bool × HH) :=
  gd (inb (x4 + 1) L) (
  gd (inb (x4 + 2) L) (
  bd (fX8_pass x1 (xs (ix (x4 + 1))) (xs (ix (x4 + 2))) h) (fun r1751 h1751 =>
  gd (inb (x4 + 1) L) (
  gd (inb (x4 + 2) L) (
  bd (fX9_pass x2 (xs (ix (x4 + 1))) (xs (ix (x4 + 2))) h1751) (fun r1767 h1767 =>
  if r1751 = r1767 then
    self23 (x4 + 6) h1767
  else
  some (false, h1767)))))))
def fL_law_b1775 (self23 : Int32 → HH → Option (Bool × HH)) (xs : Nat → Int32) (L : Nat) (x1 : Nat) (x2 : Nat) (x3 : Nat) (x4 : Int32) (h : HH) : Option (Bool × HH) :=
  gd (inb (x4 + 1) L) (
  gd (inb (x4 + 2) L) (
  bd (fX8_lie x1 (xs (ix (x4 + 1))) (xs (ix (x4 + 2))) h) (fun r1788 h1788 =>
  gd (inb (x4 + 1) L) (
  gd (inb (x4 + 2) L) (
  bd (fX9_lie x2 (xs (ix (x4 + 1))) (xs (ix (x4 + 2))) h1788) (fun r1804 h1804 =>
  if r1788 = r1804 then
    self23 (x4 + 6) h1804
  else
  some (false, h1804)))))))
def fL_law_b1812 (self23 : Int32 → HH → Option (Bool × HH)) (xs : Nat → Int32) (L : Nat) (x1 : Nat) (x2 : Nat) (x3 : Nat) (x4 : Int32) (h : HH) : Option (Bool × HH) :=
  gd (inb (x4 + 1) L) (
  bd (fX8_wake x1 (xs (ix (x4 + 1))) h) (fun r1819 h1819 =>
  gd (inb (x4 + 1) L) (
  bd (fX9_wake x2 (xs (ix (x4 + 1))) h1819) (fun r1829 h1829 =>
  if r1819 = r1829 then
    self23 (x4 + 6) h1829
  else
  some (false, h1829)))))
def fL_law_b1837 (self23 : Int32 → HH → Option (Bool × HH)) (xs : Nat → Int32) (L : Nat) (x1 : Nat) (x2 : Nat) (x3 : Nat) (x4 : Int32) (h : HH) : Option (Bool × HH) :=
  gd (inb (x4 + 1) L) (
  gd (inb (x4 + 2) L) (
  gd (inb (x4 + 3) L) (
  bd (fX8_knock x1 (xs (ix (x4 + 1))) (xs (ix (x4 + 2))) (xs (ix (x4 + 3))) h) (fun r1856 h1856 =>
  gd (inb (x4 + 1) L) (
  gd (inb (x4 + 2) L) (
  gd (inb (x4 + 3) L) (
  bd (fX9_knock x2 (xs (ix (x4 + 1))) (xs (ix (x4 + 2))) (xs (ix (x4 + 3))) h1856) (fun r1878 h1878 =>
  if r1856 = r1878 then
    self23 (x4 + 6) h1878
  else
  some (false, h1878)))))))))
def fL_law_b1886 (self23 : Int32 → HH → Option (Bool × HH)) (xs : Nat → Int32) (L : Nat) (x1 : Nat) (x2 : Nat) (x3 : Nat) (x4 : Int32) (h : HH) : Option (Bool × HH) :=
  bd (fX8_undo x1 h) (fun r1887 h1887 =>
  bd (fX9_undo x2 h1887) (fun r1891 h1891 =>
  if (b2i r1887) = (b2i r1891) then
    self23 (x4 + 6) h1891
  else
  some (false, h1891)))
def fL_law_b1899 (self23 : Int32 → HH → Option (Bool × HH)) (xs : Nat → Int32) (L : Nat) (x1 : Nat) (x2 : Nat) (x3 : Nat) (x4 : Int32) (h : HH) : Option (Bool × HH) :=
  bd (fX8_image x1 h) (fun r1900 h1900 =>
  bd (fX9_image x2 h1900) (fun r1904 h1904 =>
  if r1900 = r1904 then
    self23 (x4 + 6) h1904
  else
  some (false, h1904)))
def fL_law_b1912 (self23 : Int32 → HH → Option (Bool × HH)) (xs : Nat → Int32) (L : Nat) (x1 : Nat) (x2 : Nat) (x3 : Nat) (x4 : Int32) (h : HH) : Option (Bool × HH) :=
  gd (inb (x4 + 1) L) (
  bd (fX8_back x1 (xs (ix (x4 + 1))) h) (fun r1919 h1919 =>
  gd (inb (x4 + 1) L) (
  bd (fX9_back x2 (xs (ix (x4 + 1))) h1919) (fun r1929 h1929 =>
  if (b2i r1919) = (b2i r1929) then
    self23 (x4 + 6) h1929
  else
  some (false, h1929)))))
def fL_law_b1937 (self23 : Int32 → HH → Option (Bool × HH)) (xs : Nat → Int32) (L : Nat) (x1 : Nat) (x2 : Nat) (x3 : Nat) (x4 : Int32) (h : HH) : Option (Bool × HH) :=
  gd (inb (x4 + 1) L) (
  bd (fL_led x1 (xs (ix (x4 + 1))) x3 h) (fun r1945 h1945 =>
  gd (inb (x4 + 1) L) (
  bd (fX9_led x2 (xs (ix (x4 + 1))) h1945) (fun r1957 h1957 =>
  bd (fX9_thrown x2 h1957) (fun r1963 h1963 =>
  if r1963 = r1945 then
    if r1945 = 0 then
      gd (inb 0 (ln x3)) (
      if (gL h1963 x3 (ix 0)) = r1957.toInt64 then
        self23 (x4 + 6) h1963
      else
      some (false, h1963))
    else
    self23 (x4 + 6) h1963
  else
  some (false, h1963))))))
def fL_law_b1993 (self23 : Int32 → HH → Option (Bool × HH)) (xs : Nat → Int32) (L : Nat) (x1 : Nat) (x2 : Nat) (x3 : Nat) (x4 : Int32) (h : HH) : Option (Bool × HH) :=
  gd (inb (x4 + 1) L) (
  bd (fX8_size x1 (xs (ix (x4 + 1))) h) (fun r2000 h2000 =>
  gd (inb (x4 + 1) L) (
  bd (fX9_size x2 (xs (ix (x4 + 1))) h2000) (fun r2010 h2010 =>
  if r2000 = r2010 then
    self23 (x4 + 6) h2010
  else
  some (false, h2010)))))
def fL_law_b2018 (self23 : Int32 → HH → Option (Bool × HH)) (xs : Nat → Int32) (L : Nat) (x1 : Nat) (x2 : Nat) (x3 : Nat) (x4 : Int32) (h : HH) : Option (Bool × HH) :=
  bd (fX8_trouble x1 h) (fun r2019 h2019 =>
  bd (fX9_trouble x2 h2019) (fun r2023 h2023 =>
  if r2019 = r2023 then
    self23 (x4 + 6) h2023
  else
  some (false, h2023)))
def fL_law_b2031 (self23 : Int32 → HH → Option (Bool × HH)) (xs : Nat → Int32) (L : Nat) (x1 : Nat) (x2 : Nat) (x3 : Nat) (x4 : Int32) (h : HH) : Option (Bool × HH) :=
  self23 (x4 + 6) h
def fL_law_L23 (xs : Nat → Int32) (L : Nat) (x1 : Nat) (x2 : Nat) (x3 : Nat) (self23 : Int32 → HH → Option (Bool × HH)) (x4 : Int32) (h : HH) : Option (Bool × HH) :=
  if ((nI L) - 6) < x4 then
    some (true, h)
  else
  gd (inb x4 L) (
  nm ((xs (ix x4)) &&& 63) (fun y1 =>
  if y1 = 0 then
    fL_law_b264 self23 xs L x1 x2 x3 x4 h
  else
  if y1 = 1 then
    fL_law_b337 self23 xs L x1 x2 x3 x4 h
  else
  if y1 = 2 then
    fL_law_b362 self23 xs L x1 x2 x3 x4 h
  else
  if y1 = 3 then
    fL_law_b375 self23 xs L x1 x2 x3 x4 h
  else
  if y1 = 4 then
    fL_law_b388 self23 xs L x1 x2 x3 x4 h
  else
  if y1 = 5 then
    fL_law_b413 self23 xs L x1 x2 x3 x4 h
  else
  if y1 = 6 then
    fL_law_b439 self23 xs L x1 x2 x3 x4 h
  else
  if y1 = 7 then
    fL_law_b453 self23 xs L x1 x2 x3 x4 h
  else
  if y1 = 8 then
    fL_law_b531 self23 xs L x1 x2 x3 x4 h
  else
  if y1 = 9 then
    fL_law_b568 self23 xs L x1 x2 x3 x4 h
  else
  if y1 = 10 then
    fL_law_b622 self23 xs L x1 x2 x3 x4 h
  else
  if y1 = 11 then
    fL_law_b659 self23 xs L x1 x2 x3 x4 h
  else
  if y1 = 12 then
    fL_law_b672 self23 xs L x1 x2 x3 x4 h
  else
  if y1 = 13 then
    fL_law_b709 self23 xs L x1 x2 x3 x4 h
  else
  if y1 = 14 then
    fL_law_b746 self23 xs L x1 x2 x3 x4 h
  else
  if y1 = 15 then
    fL_law_b795 self23 xs L x1 x2 x3 x4 h
  else
  if y1 = 16 then
    fL_law_b832 self23 xs L x1 x2 x3 x4 h
  else
  if y1 = 17 then
    fL_law_b869 self23 xs L x1 x2 x3 x4 h
  else
  if y1 = 18 then
    fL_law_b894 self23 xs L x1 x2 x3 x4 h
  else
  if y1 = 19 then
    fL_law_b907 self23 xs L x1 x2 x3 x4 h
  else
  if y1 = 20 then
    fL_law_b944 self23 xs L x1 x2 x3 x4 h
  else
  if y1 = 21 then
    fL_law_b994 self23 xs L x1 x2 x3 x4 h
  else
  if y1 = 22 then
    fL_law_b1019 self23 xs L x1 x2 x3 x4 h
  else
  if y1 = 23 then
    fL_law_b1045 self23 xs L x1 x2 x3 x4 h
  else
  if y1 = 24 then
    fL_law_b1059 self23 xs L x1 x2 x3 x4 h
  else
  if y1 = 25 then
    fL_law_b1084 self23 xs L x1 x2 x3 x4 h
  else
  if y1 = 26 then
    fL_law_b1121 self23 xs L x1 x2 x3 x4 h
  else
  if y1 = 27 then
    fL_law_b1134 self23 xs L x1 x2 x3 x4 h
  else
  if y1 = 28 then
    fL_law_b1147 self23 xs L x1 x2 x3 x4 h
  else
  if y1 = 29 then
    fL_law_b1160 self23 xs L x1 x2 x3 x4 h
  else
  if y1 = 30 then
    fL_law_b1209 self23 xs L x1 x2 x3 x4 h
  else
  if y1 = 31 then
    fL_law_b1270 self23 xs L x1 x2 x3 x4 h
  else
  if y1 = 32 then
    fL_law_b1332 self23 xs L x1 x2 x3 x4 h
  else
  if y1 = 33 then
    fL_law_b1382 self23 xs L x1 x2 x3 x4 h
  else
  if y1 = 34 then
    fL_law_b1431 self23 xs L x1 x2 x3 x4 h
  else
  if y1 = 35 then
    fL_law_b1456 self23 xs L x1 x2 x3 x4 h
  else
  if y1 = 36 then
    fL_law_b1482 self23 xs L x1 x2 x3 x4 h
  else
  if y1 = 37 then
    fL_law_b1519 self23 xs L x1 x2 x3 x4 h
  else
  if y1 = 38 then
    fL_law_b1556 self23 xs L x1 x2 x3 x4 h
  else
  if y1 = 39 then
    fL_law_b1569 self23 xs L x1 x2 x3 x4 h
  else
  if y1 = 40 then
    fL_law_b1594 self23 xs L x1 x2 x3 x4 h
  else
  if y1 = 41 then
    fL_law_b1672 self23 xs L x1 x2 x3 x4 h
  else
  if y1 = 42 then
    fL_law_b1738 self23 xs L x1 x2 x3 x4 h
  else
  if y1 = 43 then
    fL_law_b1775 self23 xs L x1 x2 x3 x4 h
  else
  if y1 = 44 then
    fL_law_b1812 self23 xs L x1 x2 x3 x4 h
  else
  if y1 = 45 then
    fL_law_b1837 self23 xs L x1 x2 x3 x4 h
  else
  if y1 = 46 then
    fL_law_b1886 self23 xs L x1 x2 x3 x4 h
  else
  if y1 = 47 then
    fL_law_b1899 self23 xs L x1 x2 x3 x4 h
  else
  if y1 = 48 then
    fL_law_b1912 self23 xs L x1 x2 x3 x4 h
  else
  if y1 = 49 then
    fL_law_b1937 self23 xs L x1 x2 x3 x4 h
  else
  if y1 = 50 then
    fL_law_b1993 self23 xs L x1 x2 x3 x4 h
  else
  if y1 = 51 then
    fL_law_b2018 self23 xs L x1 x2 x3 x4 h
  else
  fL_law_b2031 self23 xs L x1 x2 x3 x4 h))
