theorem xcw_0 : xcw 0 ∈ xT := xck_mem (ws := [xcw 0]) (is := [101]) (by decide +kernel) _ List.mem_cons_self
theorem xcw_1 : xcw 1 ∈ xT := xck_mem (ws := [xcw 1]) (is := [307]) (by decide +kernel) _ List.mem_cons_self
theorem xcw_2 : xcw 2 ∈ xT := xck_mem (ws := [xcw 2]) (is := [303]) (by decide +kernel) _ List.mem_cons_self
theorem xcw_3 : xcw 3 ∈ xT := xck_mem (ws := [xcw 3]) (is := [256]) (by decide +kernel) _ List.mem_cons_self
theorem xcw_4 : xcw 4 ∈ xT := xck_mem (ws := [xcw 4]) (is := [270]) (by decide +kernel) _ List.mem_cons_self
theorem xcw_5 : xcw 5 ∈ xT := xck_mem (ws := [xcw 5]) (is := [260]) (by decide +kernel) _ List.mem_cons_self
theorem xcw_6 : xcw 6 ∈ xT := xck_mem (ws := [xcw 6]) (is := [299]) (by decide +kernel) _ List.mem_cons_self
theorem xcw_7 : xcw 7 ∈ xT := xck_mem (ws := [xcw 7]) (is := [295]) (by decide +kernel) _ List.mem_cons_self
theorem xcw_8 : xcw 8 ∈ xT := xck_mem (ws := [xcw 8]) (is := [897]) (by decide +kernel) _ List.mem_cons_self
theorem xcw_9 : xcw 9 ∈ xT := xck_mem (ws := [xcw 9]) (is := [497]) (by decide +kernel) _ List.mem_cons_self
theorem xcw_10 : xcw 10 ∈ xT := xck_mem (ws := [xcw 10]) (is := [501]) (by decide +kernel) _ List.mem_cons_self
theorem xcw_11 : xcw 11 ∈ xT := xck_mem (ws := [xcw 11]) (is := [288]) (by decide +kernel) _ List.mem_cons_self
theorem xcw_12 : xcw 12 ∈ xT := xck_mem (ws := [xcw 12]) (is := [901]) (by decide +kernel) _ List.mem_cons_self
theorem xcw_13 : xcw 13 ∈ xT := xck_mem (ws := [xcw 13]) (is := [183]) (by decide +kernel) _ List.mem_cons_self
theorem xcw_14 : xcw 14 ∈ xT := xck_mem (ws := [xcw 14]) (is := [359]) (by decide +kernel) _ List.mem_cons_self
theorem xcw_15 : xcw 15 ∈ xT := xck_mem (ws := [xcw 15]) (is := [467]) (by decide +kernel) _ List.mem_cons_self
theorem xcw_16 : xcw 16 ∈ xT := xck_mem (ws := [xcw 16]) (is := [619]) (by decide +kernel) _ List.mem_cons_self
theorem xcw_17 : xcw 17 ∈ xT := xck_mem (ws := [xcw 17]) (is := [141]) (by decide +kernel) _ List.mem_cons_self
theorem xcw_18 : xcw 18 ∈ xT := xck_mem (ws := [xcw 18]) (is := [1181]) (by decide +kernel) _ List.mem_cons_self
theorem xcw_19 : xcw 19 ∈ xT := xck_mem (ws := [xcw 19]) (is := [371]) (by decide +kernel) _ List.mem_cons_self
theorem xcw_20 : xcw 20 ∈ xT := xck_mem (ws := [xcw 20]) (is := [546]) (by decide +kernel) _ List.mem_cons_self
theorem xcw_21 : xcw 21 ∈ xT := xck_mem (ws := [xcw 21]) (is := [713]) (by decide +kernel) _ List.mem_cons_self
theorem xcw_22 : xcw 22 ∈ xT := xck_mem (ws := [xcw 22]) (is := [534]) (by decide +kernel) _ List.mem_cons_self
theorem xcw_23 : xcw 23 ∈ xT := xck_mem (ws := [xcw 23]) (is := [555]) (by decide +kernel) _ List.mem_cons_self
theorem xcw_24 : xcw 24 ∈ xT := xck_mem (ws := [xcw 24]) (is := [581]) (by decide +kernel) _ List.mem_cons_self
theorem xcw_25 : xcw 25 ∈ xT := xck_mem (ws := [xcw 25]) (is := [275]) (by decide +kernel) _ List.mem_cons_self
theorem xcw_26 : xcw 26 ∈ xT := xck_mem (ws := [xcw 26]) (is := [707]) (by decide +kernel) _ List.mem_cons_self
theorem xcw_27 : xcw 27 ∈ xT := xck_mem (ws := [xcw 27]) (is := [478]) (by decide +kernel) _ List.mem_cons_self
theorem xcw_28 : xcw 28 ∈ xT := xck_mem (ws := [xcw 28]) (is := [482]) (by decide +kernel) _ List.mem_cons_self
theorem xcw_29 : xcw 29 ∈ xT := xck_mem (ws := [xcw 29]) (is := [1212]) (by decide +kernel) _ List.mem_cons_self
theorem xcw_30 : xcw 30 ∈ xT := xck_mem (ws := [xcw 30]) (is := [627]) (by decide +kernel) _ List.mem_cons_self
theorem xcw_31 : xcw 31 ∈ xT := xck_mem (ws := [xcw 31]) (is := [155]) (by decide +kernel) _ List.mem_cons_self
theorem xcw_32 : xcw 32 ∈ xT := xck_mem (ws := [xcw 32]) (is := [1201]) (by decide +kernel) _ List.mem_cons_self
theorem xcw_33 : xcw 33 ∈ xT := xck_mem (ws := [xcw 33]) (is := [577]) (by decide +kernel) _ List.mem_cons_self
theorem xcw_34 : xcw 34 ∈ xT := xck_mem (ws := [xcw 34]) (is := [171]) (by decide +kernel) _ List.mem_cons_self
theorem xcw_35 : xcw 35 ∈ xT := xck_mem (ws := [xcw 35]) (is := [510]) (by decide +kernel) _ List.mem_cons_self
theorem xcw_36 : xcw 36 ∈ xT := xck_mem (ws := [xcw 36]) (is := [514]) (by decide +kernel) _ List.mem_cons_self
theorem xcw_37 : xcw 37 ∈ xT := xck_mem (ws := [xcw 37]) (is := [463]) (by decide +kernel) _ List.mem_cons_self
theorem xcw_38 : xcw 38 ∈ xT := xck_mem (ws := [xcw 38]) (is := [593]) (by decide +kernel) _ List.mem_cons_self
theorem xcw_39 : xcw 39 ∈ xT := xck_mem (ws := [xcw 39]) (is := [1238]) (by decide +kernel) _ List.mem_cons_self
theorem xcw_40 : xcw 40 ∈ xT := xck_mem (ws := [xcw 40]) (is := [530]) (by decide +kernel) _ List.mem_cons_self
theorem xcw_41 : xcw 41 ∈ xT := xck_mem (ws := [xcw 41]) (is := [492]) (by decide +kernel) _ List.mem_cons_self
theorem xcw_42 : xcw 42 ∈ xT := xck_mem (ws := [xcw 42]) (is := [363]) (by decide +kernel) _ List.mem_cons_self
theorem xcw_43 : xcw 43 ∈ xT := xck_mem (ws := [xcw 43]) (is := [284]) (by decide +kernel) _ List.mem_cons_self
theorem xcw_44 : xcw 44 ∈ xT := xck_mem (ws := [xcw 44]) (is := [809]) (by decide +kernel) _ List.mem_cons_self
theorem xcw_45 : xcw 45 ∈ xT := xck_mem (ws := [xcw 45]) (is := [563]) (by decide +kernel) _ List.mem_cons_self
theorem xcw_46 : xcw 46 ∈ xT := xck_mem (ws := [xcw 46]) (is := [127]) (by decide +kernel) _ List.mem_cons_self
theorem xcw_47 : xcw 47 ∈ xT := xck_mem (ws := [xcw 47]) (is := [383]) (by decide +kernel) _ List.mem_cons_self
theorem xcw_48 : xcw 48 ∈ xT := xck_mem (ws := [xcw 48]) (is := [1156]) (by decide +kernel) _ List.mem_cons_self
theorem xcw_49 : xcw 49 ∈ xT := xck_mem (ws := [xcw 49]) (is := [1167]) (by decide +kernel) _ List.mem_cons_self
theorem xcw_50 : xcw 50 ∈ xT := xck_mem (ws := [xcw 50]) (is := [379]) (by decide +kernel) _ List.mem_cons_self
theorem xcw_51 : xcw 51 ∈ xT := xck_mem (ws := [xcw 51]) (is := [815]) (by decide +kernel) _ List.mem_cons_self
theorem xcw_52 : xcw 52 ∈ xT := xck_mem (ws := [xcw 52]) (is := [1234]) (by decide +kernel) _ List.mem_cons_self
theorem xcw_53 : xcw 53 ∈ xT := xck_mem (ws := [xcw 53]) (is := [1243]) (by decide +kernel) _ List.mem_cons_self
theorem xcw_54 : xcw 54 ∈ xT := xck_mem (ws := [xcw 54]) (is := [280]) (by decide +kernel) _ List.mem_cons_self
theorem xcw_55 : xcw 55 ∈ xT := xck_mem (ws := [xcw 55]) (is := [93]) (by decide +kernel) _ List.mem_cons_self
theorem xcw_56 : xcw 56 ∈ xT := xck_mem (ws := [xcw 56]) (is := [685]) (by decide +kernel) _ List.mem_cons_self
theorem xcw_57 : xcw 57 ∈ xT := xck_mem (ws := [xcw 57]) (is := [800]) (by decide +kernel) _ List.mem_cons_self
theorem xcw_58 : xcw 58 ∈ xT := xck_mem (ws := [xcw 58]) (is := [1145]) (by decide +kernel) _ List.mem_cons_self
theorem xcw_59 : xcw 59 ∈ xT := xck_mem (ws := [xcw 59]) (is := [1163]) (by decide +kernel) _ List.mem_cons_self
theorem xcw_60 : xcw 60 ∈ xT := xck_mem (ws := [xcw 60]) (is := [1174]) (by decide +kernel) _ List.mem_cons_self
theorem xcw_61 : xcw 61 ∈ xT := xck_mem (ws := [xcw 61]) (is := [1188]) (by decide +kernel) _ List.mem_cons_self
theorem xcw_62 : xcw 62 ∈ xT := xck_mem (ws := [xcw 62]) (is := [1196]) (by decide +kernel) _ List.mem_cons_self
theorem xcw_63 : xcw 63 ∈ xT := xck_mem (ws := [xcw 63]) (is := [1208]) (by decide +kernel) _ List.mem_cons_self
theorem xcw_64 : xcw 64 ∈ xT := xck_mem (ws := [xcw 64]) (is := [1219]) (by decide +kernel) _ List.mem_cons_self
theorem xcw_65 : xcw 65 ∈ xT := xck_mem (ws := [xcw 65]) (is := [248]) (by decide +kernel) _ List.mem_cons_self
theorem xcw_66 : xcw 66 ∈ xT := xck_mem (ws := [xcw 66]) (is := [1226]) (by decide +kernel) _ List.mem_cons_self
theorem xcw_67 : xcw 67 ∈ xT := xck_mem (ws := [xcw 67]) (is := [1250]) (by decide +kernel) _ List.mem_cons_self
theorem xcw_68 : xcw 68 ∈ xT := xck_mem (ws := [xcw 68]) (is := [597]) (by decide +kernel) _ List.mem_cons_self
theorem xcw_69 : xcw 69 ∈ xT := xck_mem (ws := [xcw 69]) (is := [1261]) (by decide +kernel) _ List.mem_cons_self
theorem xcw_70 : xcw 70 ∈ xT := xck_mem (ws := [xcw 70]) (is := [1268]) (by decide +kernel) _ List.mem_cons_self
theorem xcw_71 : xcw 71 ∈ xT := xck_mem (ws := [xcw 71]) (is := [601]) (by decide +kernel) _ List.mem_cons_self
theorem xcw_72 : xcw 72 ∈ xT := xck_mem (ws := [xcw 72]) (is := [608]) (by decide +kernel) _ List.mem_cons_self
theorem xcw_73 : xcw 73 ∈ xT := xck_mem (ws := [xcw 73]) (is := [615]) (by decide +kernel) _ List.mem_cons_self
theorem xcw_74 : xcw 74 ∈ xT := xck_mem (ws := [xcw 74]) (is := [647]) (by decide +kernel) _ List.mem_cons_self
theorem xcw_75 : xcw 75 ∈ xT := xck_mem (ws := [xcw 75]) (is := [671]) (by decide +kernel) _ List.mem_cons_self
theorem xcw_76 : xcw 76 ∈ xT := xck_mem (ws := [xcw 76]) (is := [623]) (by decide +kernel) _ List.mem_cons_self
theorem xcw_77 : xcw 77 ∈ xT := xck_mem (ws := [xcw 77]) (is := [635]) (by decide +kernel) _ List.mem_cons_self
theorem xcw_78 : xcw 78 ∈ xT := xck_mem (ws := [xcw 78]) (is := [604]) (by decide +kernel) _ List.mem_cons_self
theorem xcw_79 : xcw 79 ∈ xT := xck_mem (ws := [xcw 79]) (is := [1148]) (by decide +kernel) _ List.mem_cons_self
theorem xcw_80 : xcw 80 ∈ xT := xck_mem (ws := [xcw 80]) (is := [573]) (by decide +kernel) _ List.mem_cons_self
theorem xcw_81 : xcw 81 ∈ xT := xck_mem (ws := [xcw 81]) (is := [611]) (by decide +kernel) _ List.mem_cons_self
theorem xcw_82 : xcw 82 ∈ xT := xck_mem (ws := [xcw 82]) (is := [391]) (by decide +kernel) _ List.mem_cons_self
theorem xcw_83 : xcw 83 ∈ xT := xck_mem (ws := [xcw 83]) (is := [675]) (by decide +kernel) _ List.mem_cons_self
theorem xcw_84 : xcw 84 ∈ xT := xck_mem (ws := [xcw 84]) (is := [893]) (by decide +kernel) _ List.mem_cons_self
theorem xcw_85 : xcw 85 ∈ xT := xck_mem (ws := [xcw 85]) (is := [252]) (by decide +kernel) _ List.mem_cons_self
theorem xcw_86 : xcw 86 ∈ xT := xck_mem (ws := [xcw 86]) (is := [367]) (by decide +kernel) _ List.mem_cons_self
theorem xcw_87 : xcw 87 ∈ xT := xck_mem (ws := [xcw 87]) (is := [375]) (by decide +kernel) _ List.mem_cons_self
theorem xcw_88 : xcw 88 ∈ xT := xck_mem (ws := [xcw 88]) (is := [518]) (by decide +kernel) _ List.mem_cons_self
theorem xcw_89 : xcw 89 ∈ xT := xck_mem (ws := [xcw 89]) (is := [387]) (by decide +kernel) _ List.mem_cons_self
theorem xcw_90 : xcw 90 ∈ xT := xck_mem (ws := [xcw 90]) (is := [506]) (by decide +kernel) _ List.mem_cons_self
theorem xcw_91 : xcw 91 ∈ xT := xck_mem (ws := [xcw 91]) (is := [471]) (by decide +kernel) _ List.mem_cons_self
theorem xcw_92 : xcw 92 ∈ xT := xck_mem (ws := [xcw 92]) (is := [474]) (by decide +kernel) _ List.mem_cons_self
theorem xcw_93 : xcw 93 ∈ xT := xck_mem (ws := [xcw 93]) (is := [485]) (by decide +kernel) _ List.mem_cons_self
theorem xcw_94 : xcw 94 ∈ xT := xck_mem (ws := [xcw 94]) (is := [488]) (by decide +kernel) _ List.mem_cons_self
theorem xcw_95 : xcw 95 ∈ xT := xck_mem (ws := [xcw 95]) (is := [522]) (by decide +kernel) _ List.mem_cons_self
theorem xcw_96 : xcw 96 ∈ xT := xck_mem (ws := [xcw 96]) (is := [526]) (by decide +kernel) _ List.mem_cons_self
theorem xcw_97 : xcw 97 ∈ xT := xck_mem (ws := [xcw 97]) (is := [538]) (by decide +kernel) _ List.mem_cons_self
theorem xcw_98 : xcw 98 ∈ xT := xck_mem (ws := [xcw 98]) (is := [542]) (by decide +kernel) _ List.mem_cons_self
theorem xcw_99 : xcw 99 ∈ xT := xck_mem (ws := [xcw 99]) (is := [551]) (by decide +kernel) _ List.mem_cons_self
theorem xcw_100 : xcw 100 ∈ xT := xck_mem (ws := [xcw 100]) (is := [559]) (by decide +kernel) _ List.mem_cons_self
theorem xcw_101 : xcw 101 ∈ xT := xck_mem (ws := [xcw 101]) (is := [567]) (by decide +kernel) _ List.mem_cons_self
theorem xcw_102 : xcw 102 ∈ xT := xck_mem (ws := [xcw 102]) (is := [570]) (by decide +kernel) _ List.mem_cons_self
theorem xcw_103 : xcw 103 ∈ xT := xck_mem (ws := [xcw 103]) (is := [585]) (by decide +kernel) _ List.mem_cons_self
theorem xcw_104 : xcw 104 ∈ xT := xck_mem (ws := [xcw 104]) (is := [589]) (by decide +kernel) _ List.mem_cons_self
theorem xcw_105 : xcw 105 ∈ xT := xck_mem (ws := [xcw 105]) (is := [1230]) (by decide +kernel) _ List.mem_cons_self
theorem xcw_106 : xcw 106 ∈ xT := xck_mem (ws := [xcw 106]) (is := [1254]) (by decide +kernel) _ List.mem_cons_self
theorem xcw_107 : xcw 107 ∈ xT := xck_mem (ws := [xcw 107]) (is := [639]) (by decide +kernel) _ List.mem_cons_self
theorem xcw_108 : xcw 108 ∈ xT := xck_mem (ws := [xcw 108]) (is := [643]) (by decide +kernel) _ List.mem_cons_self
theorem xcw_109 : xcw 109 ∈ xT := xck_mem (ws := [xcw 109]) (is := [667]) (by decide +kernel) _ List.mem_cons_self
theorem xcw_110 : xcw 110 ∈ xT := xck_mem (ws := [xcw 110]) (is := [1281]) (by decide +kernel) _ List.mem_cons_self
theorem xcw_111 : xcw 111 ∈ xT := xck_mem (ws := [xcw 111]) (is := [1455]) (by decide +kernel) _ List.mem_cons_self
theorem xcw_112 : xcw 112 ∈ xT := xck_mem (ws := [xcw 112]) (is := [1462]) (by decide +kernel) _ List.mem_cons_self
theorem xcw_113 : xcw 113 ∈ xT := xck_mem (ws := [xcw 113]) (is := [1498]) (by decide +kernel) _ List.mem_cons_self
theorem xcw_114 : xcw 114 ∈ xT := xck_mem (ws := [xcw 114]) (is := [1603]) (by decide +kernel) _ List.mem_cons_self
theorem xcw_115 : xcw 115 ∈ xT := xck_mem (ws := [xcw 115]) (is := [1473]) (by decide +kernel) _ List.mem_cons_self
theorem xcw_116 : xcw 116 ∈ xT := xck_mem (ws := [xcw 116]) (is := [1459]) (by decide +kernel) _ List.mem_cons_self
theorem xcw_117 : xcw 117 ∈ xT := xck_mem (ws := [xcw 117]) (is := [1466]) (by decide +kernel) _ List.mem_cons_self
theorem xcw_118 : xcw 118 ∈ xT := xck_mem (ws := [xcw 118]) (is := [1470]) (by decide +kernel) _ List.mem_cons_self
theorem xcw_119 : xcw 119 ∈ xT := xck_mem (ws := [xcw 119]) (is := [1477]) (by decide +kernel) _ List.mem_cons_self
theorem xcw_120 : xcw 120 ∈ xT := xck_mem (ws := [xcw 120]) (is := [1481]) (by decide +kernel) _ List.mem_cons_self
theorem xcw_121 : xcw 121 ∈ xT := xck_mem (ws := [xcw 121]) (is := [1486]) (by decide +kernel) _ List.mem_cons_self
theorem xcw_122 : xcw 122 ∈ xT := xck_mem (ws := [xcw 122]) (is := [1490]) (by decide +kernel) _ List.mem_cons_self
theorem xcw_123 : xcw 123 ∈ xT := xck_mem (ws := [xcw 123]) (is := [1494]) (by decide +kernel) _ List.mem_cons_self
theorem xcw_124 : xcw 124 ∈ xT := xck_mem (ws := [xcw 124]) (is := [1502]) (by decide +kernel) _ List.mem_cons_self
theorem xcw_125 : xcw 125 ∈ xT := xck_mem (ws := [xcw 125]) (is := [1552]) (by decide +kernel) _ List.mem_cons_self
theorem xcw_126 : xcw 126 ∈ xT := xck_mem (ws := [xcw 126]) (is := [1540]) (by decide +kernel) _ List.mem_cons_self
theorem xcw_127 : xcw 127 ∈ xT := xck_mem (ws := [xcw 127]) (is := [1528]) (by decide +kernel) _ List.mem_cons_self
theorem xcw_128 : xcw 128 ∈ xT := xck_mem (ws := [xcw 128]) (is := [1576]) (by decide +kernel) _ List.mem_cons_self
theorem xcw_129 : xcw 129 ∈ xT := xck_mem (ws := [xcw 129]) (is := [1595]) (by decide +kernel) _ List.mem_cons_self
theorem xcw_130 : xcw 130 ∈ xT := xck_mem (ws := [xcw 130]) (is := [1584]) (by decide +kernel) _ List.mem_cons_self
theorem xcw_131 : xcw 131 ∈ xT := xck_mem (ws := [xcw 131]) (is := [1524]) (by decide +kernel) _ List.mem_cons_self
theorem xcw_132 : xcw 132 ∈ xT := xck_mem (ws := [xcw 132]) (is := [1560]) (by decide +kernel) _ List.mem_cons_self
theorem xcw_133 : xcw 133 ∈ xT := xck_mem (ws := [xcw 133]) (is := [1564]) (by decide +kernel) _ List.mem_cons_self
theorem xcw_134 : xcw 134 ∈ xT := xck_mem (ws := [xcw 134]) (is := [1520]) (by decide +kernel) _ List.mem_cons_self
theorem xcw_135 : xcw 135 ∈ xT := xck_mem (ws := [xcw 135]) (is := [1509]) (by decide +kernel) _ List.mem_cons_self
theorem xcw_136 : xcw 136 ∈ xT := xck_mem (ws := [xcw 136]) (is := [1517]) (by decide +kernel) _ List.mem_cons_self
theorem xcw_137 : xcw 137 ∈ xT := xck_mem (ws := [xcw 137]) (is := [1506]) (by decide +kernel) _ List.mem_cons_self
theorem xcw_138 : xcw 138 ∈ xT := xck_mem (ws := [xcw 138]) (is := [1513]) (by decide +kernel) _ List.mem_cons_self
theorem xcw_139 : xcw 139 ∈ xT := xck_mem (ws := [xcw 139]) (is := [1532]) (by decide +kernel) _ List.mem_cons_self
theorem xcw_140 : xcw 140 ∈ xT := xck_mem (ws := [xcw 140]) (is := [1536]) (by decide +kernel) _ List.mem_cons_self
theorem xcw_141 : xcw 141 ∈ xT := xck_mem (ws := [xcw 141]) (is := [1568]) (by decide +kernel) _ List.mem_cons_self
theorem xcw_142 : xcw 142 ∈ xT := xck_mem (ws := [xcw 142]) (is := [1556]) (by decide +kernel) _ List.mem_cons_self
theorem xcw_143 : xcw 143 ∈ xT := xck_mem (ws := [xcw 143]) (is := [1544]) (by decide +kernel) _ List.mem_cons_self
theorem xcw_144 : xcw 144 ∈ xT := xck_mem (ws := [xcw 144]) (is := [1548]) (by decide +kernel) _ List.mem_cons_self
theorem xcw_145 : xcw 145 ∈ xT := xck_mem (ws := [xcw 145]) (is := [1572]) (by decide +kernel) _ List.mem_cons_self
theorem xcw_146 : xcw 146 ∈ xT := xck_mem (ws := [xcw 146]) (is := [1580]) (by decide +kernel) _ List.mem_cons_self
theorem xcw_147 : xcw 147 ∈ xT := xck_mem (ws := [xcw 147]) (is := [1588]) (by decide +kernel) _ List.mem_cons_self
theorem xcw_148 : xcw 148 ∈ xT := xck_mem (ws := [xcw 148]) (is := [1592]) (by decide +kernel) _ List.mem_cons_self
theorem xcw_149 : xcw 149 ∈ xT := xck_mem (ws := [xcw 149]) (is := [1599]) (by decide +kernel) _ List.mem_cons_self
theorem xcw_150 : xcw 150 ∈ xT := xck_mem (ws := [xcw 150]) (is := [1611]) (by decide +kernel) _ List.mem_cons_self
theorem xcw_151 : xcw 151 ∈ xT := xck_mem (ws := [xcw 151]) (is := [1607]) (by decide +kernel) _ List.mem_cons_self
theorem xcw_152 : xcw 152 ∈ xT := xck_mem (ws := [xcw 152]) (is := [1615]) (by decide +kernel) _ List.mem_cons_self
theorem xcw_153 : xcw 153 ∈ xT := xck_mem (ws := [xcw 153]) (is := [1619]) (by decide +kernel) _ List.mem_cons_self
theorem xcw_154 : xcw 154 ∈ xT := xck_mem (ws := [xcw 154]) (is := [1623]) (by decide +kernel) _ List.mem_cons_self
theorem xcw_155 : xcw 155 ∈ xT := xck_mem (ws := [xcw 155]) (is := [1627]) (by decide +kernel) _ List.mem_cons_self
theorem xcw_156 : xcw 156 ∈ xT := xck_mem (ws := [xcw 156]) (is := [1631]) (by decide +kernel) _ List.mem_cons_self
theorem xcw_157 : xcw 157 ∈ xT := xck_mem (ws := [xcw 157]) (is := [1639]) (by decide +kernel) _ List.mem_cons_self
theorem xcw_158 : xcw 158 ∈ xT := xck_mem (ws := [xcw 158]) (is := [1635]) (by decide +kernel) _ List.mem_cons_self
theorem xcw_159 : xcw 159 ∈ xT := xck_mem (ws := [xcw 159]) (is := [1643]) (by decide +kernel) _ List.mem_cons_self
theorem xcw_160 : xcw 160 ∈ xT := xck_mem (ws := [xcw 160]) (is := [1647]) (by decide +kernel) _ List.mem_cons_self
theorem xcw_161 : xcw 161 ∈ xT := xck_mem (ws := [xcw 161]) (is := [1655]) (by decide +kernel) _ List.mem_cons_self
theorem xcw_162 : xcw 162 ∈ xT := xck_mem (ws := [xcw 162]) (is := [1658]) (by decide +kernel) _ List.mem_cons_self
theorem xcw_163 : xcw 163 ∈ xT := xck_mem (ws := [xcw 163]) (is := [1651]) (by decide +kernel) _ List.mem_cons_self
theorem xcw_164 : xcw 164 ∈ xT := xck_mem (ws := [xcw 164]) (is := [679]) (by decide +kernel) _ List.mem_cons_self
theorem xcw_165 : xcw 165 ∈ xT := xck_mem (ws := [xcw 165]) (is := [795]) (by decide +kernel) _ List.mem_cons_self
theorem xcw_166 : xcw 166 ∈ xT := xck_mem (ws := [xcw 166]) (is := [1141]) (by decide +kernel) _ List.mem_cons_self
theorem xcw_167 : xcw 167 ∈ xT := xck_mem (ws := [xcw 167]) (is := [1159]) (by decide +kernel) _ List.mem_cons_self
theorem xcw_168 : xcw 168 ∈ xT := xck_mem (ws := [xcw 168]) (is := [1170]) (by decide +kernel) _ List.mem_cons_self
theorem xcw_169 : xcw 169 ∈ xT := xck_mem (ws := [xcw 169]) (is := [1184]) (by decide +kernel) _ List.mem_cons_self
theorem xcw_170 : xcw 170 ∈ xT := xck_mem (ws := [xcw 170]) (is := [1192]) (by decide +kernel) _ List.mem_cons_self
theorem xcw_171 : xcw 171 ∈ xT := xck_mem (ws := [xcw 171]) (is := [1204]) (by decide +kernel) _ List.mem_cons_self
theorem xcw_172 : xcw 172 ∈ xT := xck_mem (ws := [xcw 172]) (is := [1215]) (by decide +kernel) _ List.mem_cons_self
theorem xcw_173 : xcw 173 ∈ xT := xck_mem (ws := [xcw 173]) (is := [1222]) (by decide +kernel) _ List.mem_cons_self
theorem xcw_174 : xcw 174 ∈ xT := xck_mem (ws := [xcw 174]) (is := [1246]) (by decide +kernel) _ List.mem_cons_self
theorem xcw_175 : xcw 175 ∈ xT := xck_mem (ws := [xcw 175]) (is := [1257]) (by decide +kernel) _ List.mem_cons_self
theorem xcw_176 : xcw 176 ∈ xT := xck_mem (ws := [xcw 176]) (is := [1264]) (by decide +kernel) _ List.mem_cons_self
theorem xcw_177 : xcw 177 ∈ xT := xck_mem (ws := [xcw 177]) (is := [1271]) (by decide +kernel) _ List.mem_cons_self
theorem xcw_178 : xcw 178 ∈ xT := xck_mem (ws := [xcw 178]) (is := [1275]) (by decide +kernel) _ List.mem_cons_self
theorem xcw_180 : xcw 180 ∈ xT := xck_mem (ws := [xcw 180]) (is := [104]) (by decide +kernel) _ List.mem_cons_self
theorem xcw_181 : xcw 181 ∈ xT := xck_mem (ws := [xcw 181]) (is := [107]) (by decide +kernel) _ List.mem_cons_self
theorem xcw_182 : xcw 182 ∈ xT := xck_mem (ws := [xcw 182]) (is := [320]) (by decide +kernel) _ List.mem_cons_self
theorem xcw_183 : xcw 183 ∈ xT := xck_mem (ws := [xcw 183]) (is := [344]) (by decide +kernel) _ List.mem_cons_self
theorem xcw_184 : xcw 184 ∈ xT := xck_mem (ws := [xcw 184]) (is := [310]) (by decide +kernel) _ List.mem_cons_self
theorem xcw_185 : xcw 185 ∈ xT := xck_mem (ws := [xcw 185]) (is := [630]) (by decide +kernel) _ List.mem_cons_self
theorem xcw_186 : xcw 186 ∈ xT := xck_mem (ws := [xcw 186]) (is := [313]) (by decide +kernel) _ List.mem_cons_self
theorem xcw_187 : xcw 187 ∈ xT := xck_mem (ws := [xcw 187]) (is := [350]) (by decide +kernel) _ List.mem_cons_self
theorem xcw_188 : xcw 188 ∈ xT := xck_mem (ws := [xcw 188]) (is := [263]) (by decide +kernel) _ List.mem_cons_self
theorem xcw_189 : xcw 189 ∈ xT := xck_mem (ws := [xcw 189]) (is := [266]) (by decide +kernel) _ List.mem_cons_self
theorem xcw_ok : ∀ M, M < 190 → M ≠ 179 → xcw M ∈ xT := by
  intro M h1 h2
  match M, h1, h2 with
  | 0, _, h2 => exact xcw_0
  | 1, _, h2 => exact xcw_1
  | 2, _, h2 => exact xcw_2
  | 3, _, h2 => exact xcw_3
  | 4, _, h2 => exact xcw_4
  | 5, _, h2 => exact xcw_5
  | 6, _, h2 => exact xcw_6
  | 7, _, h2 => exact xcw_7
  | 8, _, h2 => exact xcw_8
  | 9, _, h2 => exact xcw_9
  | 10, _, h2 => exact xcw_10
  | 11, _, h2 => exact xcw_11
  | 12, _, h2 => exact xcw_12
  | 13, _, h2 => exact xcw_13
  | 14, _, h2 => exact xcw_14
  | 15, _, h2 => exact xcw_15
  | 16, _, h2 => exact xcw_16
  | 17, _, h2 => exact xcw_17
  | 18, _, h2 => exact xcw_18
  | 19, _, h2 => exact xcw_19
  | 20, _, h2 => exact xcw_20
  | 21, _, h2 => exact xcw_21
  | 22, _, h2 => exact xcw_22
  | 23, _, h2 => exact xcw_23
  | 24, _, h2 => exact xcw_24
  | 25, _, h2 => exact xcw_25
  | 26, _, h2 => exact xcw_26
  | 27, _, h2 => exact xcw_27
  | 28, _, h2 => exact xcw_28
  | 29, _, h2 => exact xcw_29
  | 30, _, h2 => exact xcw_30
  | 31, _, h2 => exact xcw_31
  | 32, _, h2 => exact xcw_32
  | 33, _, h2 => exact xcw_33
  | 34, _, h2 => exact xcw_34
  | 35, _, h2 => exact xcw_35
  | 36, _, h2 => exact xcw_36
  | 37, _, h2 => exact xcw_37
  | 38, _, h2 => exact xcw_38
  | 39, _, h2 => exact xcw_39
  | 40, _, h2 => exact xcw_40
  | 41, _, h2 => exact xcw_41
  | 42, _, h2 => exact xcw_42
  | 43, _, h2 => exact xcw_43
  | 44, _, h2 => exact xcw_44
  | 45, _, h2 => exact xcw_45
  | 46, _, h2 => exact xcw_46
  | 47, _, h2 => exact xcw_47
  | 48, _, h2 => exact xcw_48
  | 49, _, h2 => exact xcw_49
  | 50, _, h2 => exact xcw_50
  | 51, _, h2 => exact xcw_51
  | 52, _, h2 => exact xcw_52
  | 53, _, h2 => exact xcw_53
  | 54, _, h2 => exact xcw_54
  | 55, _, h2 => exact xcw_55
  | 56, _, h2 => exact xcw_56
  | 57, _, h2 => exact xcw_57
  | 58, _, h2 => exact xcw_58
  | 59, _, h2 => exact xcw_59
  | 60, _, h2 => exact xcw_60
  | 61, _, h2 => exact xcw_61
  | 62, _, h2 => exact xcw_62
  | 63, _, h2 => exact xcw_63
  | 64, _, h2 => exact xcw_64
  | 65, _, h2 => exact xcw_65
  | 66, _, h2 => exact xcw_66
  | 67, _, h2 => exact xcw_67
  | 68, _, h2 => exact xcw_68
  | 69, _, h2 => exact xcw_69
  | 70, _, h2 => exact xcw_70
  | 71, _, h2 => exact xcw_71
  | 72, _, h2 => exact xcw_72
  | 73, _, h2 => exact xcw_73
  | 74, _, h2 => exact xcw_74
  | 75, _, h2 => exact xcw_75
  | 76, _, h2 => exact xcw_76
  | 77, _, h2 => exact xcw_77
  | 78, _, h2 => exact xcw_78
  | 79, _, h2 => exact xcw_79
  | 80, _, h2 => exact xcw_80
  | 81, _, h2 => exact xcw_81
  | 82, _, h2 => exact xcw_82
  | 83, _, h2 => exact xcw_83
  | 84, _, h2 => exact xcw_84
  | 85, _, h2 => exact xcw_85
  | 86, _, h2 => exact xcw_86
  | 87, _, h2 => exact xcw_87
  | 88, _, h2 => exact xcw_88
  | 89, _, h2 => exact xcw_89
  | 90, _, h2 => exact xcw_90
  | 91, _, h2 => exact xcw_91
  | 92, _, h2 => exact xcw_92
  | 93, _, h2 => exact xcw_93
  | 94, _, h2 => exact xcw_94
  | 95, _, h2 => exact xcw_95
  | 96, _, h2 => exact xcw_96
  | 97, _, h2 => exact xcw_97
  | 98, _, h2 => exact xcw_98
  | 99, _, h2 => exact xcw_99
  | 100, _, h2 => exact xcw_100
  | 101, _, h2 => exact xcw_101
  | 102, _, h2 => exact xcw_102
  | 103, _, h2 => exact xcw_103
  | 104, _, h2 => exact xcw_104
  | 105, _, h2 => exact xcw_105
  | 106, _, h2 => exact xcw_106
  | 107, _, h2 => exact xcw_107
  | 108, _, h2 => exact xcw_108
  | 109, _, h2 => exact xcw_109
  | 110, _, h2 => exact xcw_110
  | 111, _, h2 => exact xcw_111
  | 112, _, h2 => exact xcw_112
  | 113, _, h2 => exact xcw_113
  | 114, _, h2 => exact xcw_114
  | 115, _, h2 => exact xcw_115
  | 116, _, h2 => exact xcw_116
  | 117, _, h2 => exact xcw_117
  | 118, _, h2 => exact xcw_118
  | 119, _, h2 => exact xcw_119
  | 120, _, h2 => exact xcw_120
  | 121, _, h2 => exact xcw_121
  | 122, _, h2 => exact xcw_122
  | 123, _, h2 => exact xcw_123
  | 124, _, h2 => exact xcw_124
  | 125, _, h2 => exact xcw_125
  | 126, _, h2 => exact xcw_126
  | 127, _, h2 => exact xcw_127
  | 128, _, h2 => exact xcw_128
  | 129, _, h2 => exact xcw_129
  | 130, _, h2 => exact xcw_130
  | 131, _, h2 => exact xcw_131
  | 132, _, h2 => exact xcw_132
  | 133, _, h2 => exact xcw_133
  | 134, _, h2 => exact xcw_134
  | 135, _, h2 => exact xcw_135
  | 136, _, h2 => exact xcw_136
  | 137, _, h2 => exact xcw_137
  | 138, _, h2 => exact xcw_138
  | 139, _, h2 => exact xcw_139
  | 140, _, h2 => exact xcw_140
  | 141, _, h2 => exact xcw_141
  | 142, _, h2 => exact xcw_142
  | 143, _, h2 => exact xcw_143
  | 144, _, h2 => exact xcw_144
  | 145, _, h2 => exact xcw_145
  | 146, _, h2 => exact xcw_146
  | 147, _, h2 => exact xcw_147
  | 148, _, h2 => exact xcw_148
  | 149, _, h2 => exact xcw_149
  | 150, _, h2 => exact xcw_150
  | 151, _, h2 => exact xcw_151
  | 152, _, h2 => exact xcw_152
  | 153, _, h2 => exact xcw_153
  | 154, _, h2 => exact xcw_154
  | 155, _, h2 => exact xcw_155
  | 156, _, h2 => exact xcw_156
  | 157, _, h2 => exact xcw_157
  | 158, _, h2 => exact xcw_158
  | 159, _, h2 => exact xcw_159
  | 160, _, h2 => exact xcw_160
  | 161, _, h2 => exact xcw_161
  | 162, _, h2 => exact xcw_162
  | 163, _, h2 => exact xcw_163
  | 164, _, h2 => exact xcw_164
  | 165, _, h2 => exact xcw_165
  | 166, _, h2 => exact xcw_166
  | 167, _, h2 => exact xcw_167
  | 168, _, h2 => exact xcw_168
  | 169, _, h2 => exact xcw_169
  | 170, _, h2 => exact xcw_170
  | 171, _, h2 => exact xcw_171
  | 172, _, h2 => exact xcw_172
  | 173, _, h2 => exact xcw_173
  | 174, _, h2 => exact xcw_174
  | 175, _, h2 => exact xcw_175
  | 176, _, h2 => exact xcw_176
  | 177, _, h2 => exact xcw_177
  | 178, _, h2 => exact xcw_178
  | 179, _, h2 => exact absurd rfl h2
  | 180, _, h2 => exact xcw_180
  | 181, _, h2 => exact xcw_181
  | 182, _, h2 => exact xcw_182
  | 183, _, h2 => exact xcw_183
  | 184, _, h2 => exact xcw_184
  | 185, _, h2 => exact xcw_185
  | 186, _, h2 => exact xcw_186
  | 187, _, h2 => exact xcw_187
  | 188, _, h2 => exact xcw_188
  | 189, _, h2 => exact xcw_189
  | n + 190, h1, _ => exact absurd h1 (by omega)
