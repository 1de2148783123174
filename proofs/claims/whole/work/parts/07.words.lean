theorem cfX0 : CF 0 RX0 TX0 0 := ⟨rfl, rfl, by decide, tb_in [] (by decide +kernel) (by decide +kernel), fun k hk => tyX0_ok k hk, nmX0⟩
theorem cfX1 : CF 1 RX1 TX1 0 := ⟨rfl, rfl, by decide, tb_in [] (by decide +kernel) (by decide +kernel), fun k hk => tyX1_ok k hk, nmX1⟩
theorem cfX2 : CF 2 RX2 TX2 0 := ⟨rfl, rfl, by decide, tb_in [] (by decide +kernel) (by decide +kernel), fun k hk => tyX2_ok k hk, nmX2⟩
theorem cfX3 : CF 3 RX3 TX3 10 := ⟨rfl, rfl, by decide, tb_in [243, 245, 247, 249, 251, 253, 255, 257, 259, 261] (by decide +kernel) (by decide +kernel), fun k hk => tyX3_ok k hk, nmX3⟩
theorem cfX4 : CF 4 RX4 TX4 0 := ⟨rfl, rfl, by decide, tb_in [] (by decide +kernel) (by decide +kernel), fun k hk => tyX4_ok k hk, nmX4⟩
theorem cfX5 : CF 5 RX5 TX5 2 := ⟨rfl, rfl, by decide, tb_in [99, 101] (by decide +kernel) (by decide +kernel), fun k hk => tyX5_ok k hk, nmX5⟩
theorem cfX6 : CF 6 RX6 TX6 0 := ⟨rfl, rfl, by decide, tb_in [] (by decide +kernel) (by decide +kernel), fun k hk => tyX6_ok k hk, nmX6⟩
theorem cfX7 : CF 7 RX7 TX7 2 := ⟨rfl, rfl, by decide, tb_in [280, 282] (by decide +kernel) (by decide +kernel), fun k hk => tyX7_ok k hk, nmX7⟩
theorem cfX8 : CF 8 RX8 TX8 0 := ⟨rfl, rfl, by decide, tb_in [] (by decide +kernel) (by decide +kernel), fun k hk => tyX8_ok k hk, nmX8⟩
theorem cfX9 : CF 9 RX9 TX9 16 := ⟨rfl, rfl, by decide, tb_in [184, 186, 188, 190, 192, 194, 196, 198, 200, 202, 204, 206, 208, 210, 212, 214] (by decide +kernel) (by decide +kernel), fun k hk => tyX9_ok k hk, nmX9⟩
theorem cfX10 : CF 10 RX10 TX10 11 := ⟨rfl, rfl, by decide, tb_in [296, 298, 300, 302, 304, 306, 308, 310, 312, 314, 316] (by decide +kernel) (by decide +kernel), fun k hk => tyX10_ok k hk, nmX10⟩
theorem cfX11 : CF 11 RX11 TX11 29 := ⟨rfl, rfl, by decide, tb_in [888, 890, 892, 894, 896, 898, 900, 902, 904, 906, 908, 910, 912, 914, 916, 918, 920, 922, 924, 926, 928, 930, 932, 934, 936, 938, 940, 942, 944] (by decide +kernel) (by decide +kernel), fun k hk => tyX11_ok k hk, nmX11⟩
theorem fgX10_11 : FG RX10 11 10 0 := ⟨_, _, _, cfX10, by decide, tb_at (i := 285) (by decide +kernel) rfl⟩
theorem fpX10_11 : FL RX10 11 10 0 true := ⟨_, _, _, cfX10, by decide, tb_at (i := 285) (by decide +kernel) rfl, rfl, fun _ => rfl⟩
theorem fgX10_15 : FG RX10 15 10 1 := ⟨_, _, _, cfX10, by decide, tb_at (i := 286) (by decide +kernel) rfl⟩
theorem fpX10_15 : FL RX10 15 10 1 true := ⟨_, _, _, cfX10, by decide, tb_at (i := 286) (by decide +kernel) rfl, rfl, fun _ => rfl⟩
theorem fgX10_21 : FG RX10 21 10 2 := ⟨_, _, _, cfX10, by decide, tb_at (i := 287) (by decide +kernel) rfl⟩
theorem fpX10_21 : FL RX10 21 10 2 true := ⟨_, _, _, cfX10, by decide, tb_at (i := 287) (by decide +kernel) rfl, rfl, fun _ => rfl⟩
theorem fgX10_28 : FG RX10 28 10 3 := ⟨_, _, _, cfX10, by decide, tb_at (i := 288) (by decide +kernel) rfl⟩
theorem fpX10_28 : FL RX10 28 10 3 true := ⟨_, _, _, cfX10, by decide, tb_at (i := 288) (by decide +kernel) rfl, rfl, fun _ => rfl⟩
theorem fgX10_32 : FG RX10 32 10 4 := ⟨_, _, _, cfX10, by decide, tb_at (i := 289) (by decide +kernel) rfl⟩
theorem fpX10_32 : FL RX10 32 10 4 true := ⟨_, _, _, cfX10, by decide, tb_at (i := 289) (by decide +kernel) rfl, rfl, fun _ => rfl⟩
theorem fgX10_39 : FG RX10 39 10 5 := ⟨_, _, _, cfX10, by decide, tb_at (i := 290) (by decide +kernel) rfl⟩
theorem fpX10_39 : FL RX10 39 10 5 true := ⟨_, _, _, cfX10, by decide, tb_at (i := 290) (by decide +kernel) rfl, rfl, fun _ => rfl⟩
theorem fgX10_43 : FG RX10 43 10 6 := ⟨_, _, _, cfX10, by decide, tb_at (i := 291) (by decide +kernel) rfl⟩
theorem fpX10_43 : FL RX10 43 10 6 true := ⟨_, _, _, cfX10, by decide, tb_at (i := 291) (by decide +kernel) rfl, rfl, fun _ => rfl⟩
theorem fgX10_47 : FG RX10 47 10 7 := ⟨_, _, _, cfX10, by decide, tb_at (i := 292) (by decide +kernel) rfl⟩
theorem fpX10_47 : FL RX10 47 10 7 false := ⟨_, _, _, cfX10, by decide, tb_at (i := 292) (by decide +kernel) rfl, rfl, fun h => by cases h⟩
theorem fgX10_51 : FG RX10 51 10 8 := ⟨_, _, _, cfX10, by decide, tb_at (i := 293) (by decide +kernel) rfl⟩
theorem fpX10_51 : FL RX10 51 10 8 false := ⟨_, _, _, cfX10, by decide, tb_at (i := 293) (by decide +kernel) rfl, rfl, fun h => by cases h⟩
theorem fgX10_54 : FG RX10 54 10 9 := ⟨_, _, _, cfX10, by decide, tb_at (i := 294) (by decide +kernel) rfl⟩
theorem fpX10_54 : FL RX10 54 10 9 false := ⟨_, _, _, cfX10, by decide, tb_at (i := 294) (by decide +kernel) rfl, rfl, fun h => by cases h⟩
theorem fgX10_58 : FG RX10 58 10 10 := ⟨_, _, _, cfX10, by decide, tb_at (i := 295) (by decide +kernel) rfl⟩
theorem fpX10_58 : FL RX10 58 10 10 false := ⟨_, _, _, cfX10, by decide, tb_at (i := 295) (by decide +kernel) rfl, rfl, fun h => by cases h⟩
theorem fgX10_80 : FG RX10 80 7 0 := ⟨_, _, _, cfX7, by decide, tb_at (i := 274) (by decide +kernel) rfl⟩
theorem fgX10_100 : FG RX10 100 7 1 := ⟨_, _, _, cfX7, by decide, tb_at (i := 278) (by decide +kernel) rfl⟩
theorem fgX10_118 : FG RX10 118 9 0 := ⟨_, _, _, cfX9, by decide, tb_at (i := 156) (by decide +kernel) rfl⟩
theorem fpX10_118 : FL RX10 118 9 0 false := ⟨_, _, _, cfX9, by decide, tb_at (i := 156) (by decide +kernel) rfl, rfl, fun h => by cases h⟩
theorem fgX10_137 : FG RX10 137 9 9 := ⟨_, _, _, cfX9, by decide, tb_at (i := 177) (by decide +kernel) rfl⟩
theorem fgX10_148 : FG RX10 148 9 7 := ⟨_, _, _, cfX9, by decide, tb_at (i := 171) (by decide +kernel) rfl⟩
theorem fgX10_151 : FG RX10 151 9 1 := ⟨_, _, _, cfX9, by decide, tb_at (i := 159) (by decide +kernel) rfl⟩
theorem fgX10_159 : FG RX10 159 9 5 := ⟨_, _, _, cfX9, by decide, tb_at (i := 167) (by decide +kernel) rfl⟩
theorem fgX10_168 : FG RX10 168 9 2 := ⟨_, _, _, cfX9, by decide, tb_at (i := 161) (by decide +kernel) rfl⟩
theorem fgX10_179 : FG RX10 179 9 8 := ⟨_, _, _, cfX9, by decide, tb_at (i := 174) (by decide +kernel) rfl⟩
theorem fgX10_201 : FG RX10 201 3 4 := ⟨_, _, _, cfX3, by decide, tb_at (i := 233) (by decide +kernel) rfl⟩
theorem fgX10_239 : FG RX10 239 3 7 := ⟨_, _, _, cfX3, by decide, tb_at (i := 238) (by decide +kernel) rfl⟩
theorem fgX10_242 : FG RX10 242 3 9 := ⟨_, _, _, cfX3, by decide, tb_at (i := 242) (by decide +kernel) rfl⟩
theorem fgX10_249 : FG RX10 249 3 8 := ⟨_, _, _, cfX3, by decide, tb_at (i := 240) (by decide +kernel) rfl⟩
theorem fgX10_303 : FG RX10 303 3 6 := ⟨_, _, _, cfX3, by decide, tb_at (i := 236) (by decide +kernel) rfl⟩
theorem fgX11_7 : FG RX11 7 11 2 := ⟨_, _, _, cfX11, by decide, tb_at (i := 861) (by decide +kernel) rfl⟩
theorem fpX11_7 : FL RX11 7 11 2 false := ⟨_, _, _, cfX11, by decide, tb_at (i := 861) (by decide +kernel) rfl, rfl, fun h => by cases h⟩
theorem fgX11_13 : FG RX11 13 11 4 := ⟨_, _, _, cfX11, by decide, tb_at (i := 863) (by decide +kernel) rfl⟩
theorem fpX11_13 : FL RX11 13 11 4 true := ⟨_, _, _, cfX11, by decide, tb_at (i := 863) (by decide +kernel) rfl, rfl, fun _ => rfl⟩
theorem fgX11_17 : FG RX11 17 11 5 := ⟨_, _, _, cfX11, by decide, tb_at (i := 864) (by decide +kernel) rfl⟩
theorem fpX11_17 : FL RX11 17 11 5 true := ⟨_, _, _, cfX11, by decide, tb_at (i := 864) (by decide +kernel) rfl, rfl, fun _ => rfl⟩
theorem fgX11_20 : FG RX11 20 11 6 := ⟨_, _, _, cfX11, by decide, tb_at (i := 865) (by decide +kernel) rfl⟩
theorem fpX11_20 : FL RX11 20 11 6 true := ⟨_, _, _, cfX11, by decide, tb_at (i := 865) (by decide +kernel) rfl, rfl, fun _ => rfl⟩
theorem fgX11_23 : FG RX11 23 11 7 := ⟨_, _, _, cfX11, by decide, tb_at (i := 866) (by decide +kernel) rfl⟩
theorem fpX11_23 : FL RX11 23 11 7 true := ⟨_, _, _, cfX11, by decide, tb_at (i := 866) (by decide +kernel) rfl, rfl, fun _ => rfl⟩
theorem fgX11_26 : FG RX11 26 11 8 := ⟨_, _, _, cfX11, by decide, tb_at (i := 867) (by decide +kernel) rfl⟩
theorem fpX11_26 : FL RX11 26 11 8 true := ⟨_, _, _, cfX11, by decide, tb_at (i := 867) (by decide +kernel) rfl, rfl, fun _ => rfl⟩
theorem fgX11_29 : FG RX11 29 11 9 := ⟨_, _, _, cfX11, by decide, tb_at (i := 868) (by decide +kernel) rfl⟩
theorem fpX11_29 : FL RX11 29 11 9 true := ⟨_, _, _, cfX11, by decide, tb_at (i := 868) (by decide +kernel) rfl, rfl, fun _ => rfl⟩
theorem fgX11_33 : FG RX11 33 11 12 := ⟨_, _, _, cfX11, by decide, tb_at (i := 871) (by decide +kernel) rfl⟩
theorem fpX11_33 : FL RX11 33 11 12 true := ⟨_, _, _, cfX11, by decide, tb_at (i := 871) (by decide +kernel) rfl, rfl, fun _ => rfl⟩
theorem fgX11_36 : FG RX11 36 11 13 := ⟨_, _, _, cfX11, by decide, tb_at (i := 872) (by decide +kernel) rfl⟩
theorem fpX11_36 : FL RX11 36 11 13 true := ⟨_, _, _, cfX11, by decide, tb_at (i := 872) (by decide +kernel) rfl, rfl, fun _ => rfl⟩
theorem fgX11_39 : FG RX11 39 11 15 := ⟨_, _, _, cfX11, by decide, tb_at (i := 874) (by decide +kernel) rfl⟩
theorem fpX11_39 : FL RX11 39 11 15 true := ⟨_, _, _, cfX11, by decide, tb_at (i := 874) (by decide +kernel) rfl, rfl, fun _ => rfl⟩
theorem fgX11_42 : FG RX11 42 11 16 := ⟨_, _, _, cfX11, by decide, tb_at (i := 875) (by decide +kernel) rfl⟩
theorem fpX11_42 : FL RX11 42 11 16 true := ⟨_, _, _, cfX11, by decide, tb_at (i := 875) (by decide +kernel) rfl, rfl, fun _ => rfl⟩
theorem fgX11_45 : FG RX11 45 11 17 := ⟨_, _, _, cfX11, by decide, tb_at (i := 876) (by decide +kernel) rfl⟩
theorem fpX11_45 : FL RX11 45 11 17 true := ⟨_, _, _, cfX11, by decide, tb_at (i := 876) (by decide +kernel) rfl, rfl, fun _ => rfl⟩
theorem fgX11_48 : FG RX11 48 11 18 := ⟨_, _, _, cfX11, by decide, tb_at (i := 877) (by decide +kernel) rfl⟩
theorem fpX11_48 : FL RX11 48 11 18 true := ⟨_, _, _, cfX11, by decide, tb_at (i := 877) (by decide +kernel) rfl, rfl, fun _ => rfl⟩
theorem fgX11_51 : FG RX11 51 11 19 := ⟨_, _, _, cfX11, by decide, tb_at (i := 878) (by decide +kernel) rfl⟩
theorem fpX11_51 : FL RX11 51 11 19 true := ⟨_, _, _, cfX11, by decide, tb_at (i := 878) (by decide +kernel) rfl, rfl, fun _ => rfl⟩
theorem fgX11_54 : FG RX11 54 11 21 := ⟨_, _, _, cfX11, by decide, tb_at (i := 880) (by decide +kernel) rfl⟩
theorem fpX11_54 : FL RX11 54 11 21 true := ⟨_, _, _, cfX11, by decide, tb_at (i := 880) (by decide +kernel) rfl, rfl, fun _ => rfl⟩
theorem fgX11_57 : FG RX11 57 11 22 := ⟨_, _, _, cfX11, by decide, tb_at (i := 881) (by decide +kernel) rfl⟩
theorem fpX11_57 : FL RX11 57 11 22 true := ⟨_, _, _, cfX11, by decide, tb_at (i := 881) (by decide +kernel) rfl, rfl, fun _ => rfl⟩
theorem fgX11_60 : FG RX11 60 11 23 := ⟨_, _, _, cfX11, by decide, tb_at (i := 882) (by decide +kernel) rfl⟩
theorem fpX11_60 : FL RX11 60 11 23 true := ⟨_, _, _, cfX11, by decide, tb_at (i := 882) (by decide +kernel) rfl, rfl, fun _ => rfl⟩
theorem fgX11_63 : FG RX11 63 11 24 := ⟨_, _, _, cfX11, by decide, tb_at (i := 883) (by decide +kernel) rfl⟩
theorem fpX11_63 : FL RX11 63 11 24 true := ⟨_, _, _, cfX11, by decide, tb_at (i := 883) (by decide +kernel) rfl, rfl, fun _ => rfl⟩
theorem fgX11_66 : FG RX11 66 11 3 := ⟨_, _, _, cfX11, by decide, tb_at (i := 862) (by decide +kernel) rfl⟩
theorem fpX11_66 : FL RX11 66 11 3 false := ⟨_, _, _, cfX11, by decide, tb_at (i := 862) (by decide +kernel) rfl, rfl, fun h => by cases h⟩
theorem fgX11_70 : FG RX11 70 11 0 := ⟨_, _, _, cfX11, by decide, tb_at (i := 859) (by decide +kernel) rfl⟩
theorem fpX11_70 : FL RX11 70 11 0 false := ⟨_, _, _, cfX11, by decide, tb_at (i := 859) (by decide +kernel) rfl, rfl, fun h => by cases h⟩
theorem fgX11_73 : FG RX11 73 11 1 := ⟨_, _, _, cfX11, by decide, tb_at (i := 860) (by decide +kernel) rfl⟩
theorem fpX11_73 : FL RX11 73 11 1 false := ⟨_, _, _, cfX11, by decide, tb_at (i := 860) (by decide +kernel) rfl, rfl, fun h => by cases h⟩
theorem fgX11_98 : FG RX11 98 11 10 := ⟨_, _, _, cfX11, by decide, tb_at (i := 869) (by decide +kernel) rfl⟩
theorem fpX11_98 : FL RX11 98 11 10 false := ⟨_, _, _, cfX11, by decide, tb_at (i := 869) (by decide +kernel) rfl, rfl, fun h => by cases h⟩
theorem fgX11_110 : FG RX11 110 11 11 := ⟨_, _, _, cfX11, by decide, tb_at (i := 870) (by decide +kernel) rfl⟩
theorem fpX11_110 : FL RX11 110 11 11 false := ⟨_, _, _, cfX11, by decide, tb_at (i := 870) (by decide +kernel) rfl, rfl, fun h => by cases h⟩
theorem fgX11_126 : FG RX11 126 11 14 := ⟨_, _, _, cfX11, by decide, tb_at (i := 873) (by decide +kernel) rfl⟩
theorem fpX11_126 : FL RX11 126 11 14 false := ⟨_, _, _, cfX11, by decide, tb_at (i := 873) (by decide +kernel) rfl, rfl, fun h => by cases h⟩
theorem fgX11_129 : FG RX11 129 11 20 := ⟨_, _, _, cfX11, by decide, tb_at (i := 879) (by decide +kernel) rfl⟩
theorem fpX11_129 : FL RX11 129 11 20 false := ⟨_, _, _, cfX11, by decide, tb_at (i := 879) (by decide +kernel) rfl, rfl, fun h => by cases h⟩
theorem fgX11_228 : FG RX11 228 11 25 := ⟨_, _, _, cfX11, by decide, tb_at (i := 884) (by decide +kernel) rfl⟩
theorem fpX11_228 : FL RX11 228 11 25 false := ⟨_, _, _, cfX11, by decide, tb_at (i := 884) (by decide +kernel) rfl, rfl, fun h => by cases h⟩
theorem fgX11_233 : FG RX11 233 11 26 := ⟨_, _, _, cfX11, by decide, tb_at (i := 885) (by decide +kernel) rfl⟩
theorem fpX11_233 : FL RX11 233 11 26 false := ⟨_, _, _, cfX11, by decide, tb_at (i := 885) (by decide +kernel) rfl, rfl, fun h => by cases h⟩
theorem fgX11_236 : FG RX11 236 11 27 := ⟨_, _, _, cfX11, by decide, tb_at (i := 886) (by decide +kernel) rfl⟩
theorem fpX11_236 : FL RX11 236 11 27 false := ⟨_, _, _, cfX11, by decide, tb_at (i := 886) (by decide +kernel) rfl, rfl, fun h => by cases h⟩
theorem fgX11_263 : FG RX11 263 11 28 := ⟨_, _, _, cfX11, by decide, tb_at (i := 887) (by decide +kernel) rfl⟩
theorem fpX11_263 : FL RX11 263 11 28 false := ⟨_, _, _, cfX11, by decide, tb_at (i := 887) (by decide +kernel) rfl, rfl, fun h => by cases h⟩
theorem fgX3_12 : FG RX3 12 3 0 := ⟨_, _, _, cfX3, by decide, tb_at (i := 228) (by decide +kernel) rfl⟩
theorem fpX3_12 : FL RX3 12 3 0 true := ⟨_, _, _, cfX3, by decide, tb_at (i := 228) (by decide +kernel) rfl, rfl, fun _ => rfl⟩
theorem fgX3_18 : FG RX3 18 3 1 := ⟨_, _, _, cfX3, by decide, tb_at (i := 229) (by decide +kernel) rfl⟩
theorem fpX3_18 : FL RX3 18 3 1 true := ⟨_, _, _, cfX3, by decide, tb_at (i := 229) (by decide +kernel) rfl, rfl, fun _ => rfl⟩
theorem fgX3_22 : FG RX3 22 3 2 := ⟨_, _, _, cfX3, by decide, tb_at (i := 230) (by decide +kernel) rfl⟩
theorem fpX3_22 : FL RX3 22 3 2 true := ⟨_, _, _, cfX3, by decide, tb_at (i := 230) (by decide +kernel) rfl, rfl, fun _ => rfl⟩
theorem fgX3_27 : FG RX3 27 3 3 := ⟨_, _, _, cfX3, by decide, tb_at (i := 231) (by decide +kernel) rfl⟩
theorem fpX3_27 : FL RX3 27 3 3 true := ⟨_, _, _, cfX3, by decide, tb_at (i := 231) (by decide +kernel) rfl, rfl, fun _ => rfl⟩
theorem fgX3_30 : FG RX3 30 3 4 := ⟨_, _, _, cfX3, by decide, tb_at (i := 232) (by decide +kernel) rfl⟩
theorem fpX3_30 : FL RX3 30 3 4 true := ⟨_, _, _, cfX3, by decide, tb_at (i := 232) (by decide +kernel) rfl, rfl, fun _ => rfl⟩
theorem fgX3_33 : FG RX3 33 3 5 := ⟨_, _, _, cfX3, by decide, tb_at (i := 234) (by decide +kernel) rfl⟩
theorem fpX3_33 : FL RX3 33 3 5 false := ⟨_, _, _, cfX3, by decide, tb_at (i := 234) (by decide +kernel) rfl, rfl, fun h => by cases h⟩
theorem fgX3_37 : FG RX3 37 3 6 := ⟨_, _, _, cfX3, by decide, tb_at (i := 235) (by decide +kernel) rfl⟩
theorem fpX3_37 : FL RX3 37 3 6 false := ⟨_, _, _, cfX3, by decide, tb_at (i := 235) (by decide +kernel) rfl, rfl, fun h => by cases h⟩
theorem fgX3_40 : FG RX3 40 3 7 := ⟨_, _, _, cfX3, by decide, tb_at (i := 237) (by decide +kernel) rfl⟩
theorem fpX3_40 : FL RX3 40 3 7 false := ⟨_, _, _, cfX3, by decide, tb_at (i := 237) (by decide +kernel) rfl, rfl, fun h => by cases h⟩
theorem fgX3_44 : FG RX3 44 3 8 := ⟨_, _, _, cfX3, by decide, tb_at (i := 239) (by decide +kernel) rfl⟩
theorem fpX3_44 : FL RX3 44 3 8 false := ⟨_, _, _, cfX3, by decide, tb_at (i := 239) (by decide +kernel) rfl, rfl, fun h => by cases h⟩
theorem fgX3_47 : FG RX3 47 3 9 := ⟨_, _, _, cfX3, by decide, tb_at (i := 241) (by decide +kernel) rfl⟩
theorem fpX3_47 : FL RX3 47 3 9 false := ⟨_, _, _, cfX3, by decide, tb_at (i := 241) (by decide +kernel) rfl, rfl, fun h => by cases h⟩
theorem fgX3_54 : FG RX3 54 9 1 := ⟨_, _, _, cfX9, by decide, tb_at (i := 158) (by decide +kernel) rfl⟩
theorem fgX3_55 : FG RX3 55 9 0 := ⟨_, _, _, cfX9, by decide, tb_at (i := 155) (by decide +kernel) rfl⟩
theorem fgX3_62 : FG RX3 62 9 7 := ⟨_, _, _, cfX9, by decide, tb_at (i := 170) (by decide +kernel) rfl⟩
theorem fgX3_89 : FG RX3 89 9 9 := ⟨_, _, _, cfX9, by decide, tb_at (i := 176) (by decide +kernel) rfl⟩
theorem fgX3_101 : FG RX3 101 9 8 := ⟨_, _, _, cfX9, by decide, tb_at (i := 173) (by decide +kernel) rfl⟩
theorem fgX3_104 : FG RX3 104 9 4 := ⟨_, _, _, cfX9, by decide, tb_at (i := 164) (by decide +kernel) rfl⟩
theorem fgX3_111 : FG RX3 111 9 5 := ⟨_, _, _, cfX9, by decide, tb_at (i := 166) (by decide +kernel) rfl⟩
theorem fgX3_114 : FG RX3 114 7 1 := ⟨_, _, _, cfX7, by decide, tb_at (i := 279) (by decide +kernel) rfl⟩
theorem fgX3_119 : FG RX3 119 7 0 := ⟨_, _, _, cfX7, by decide, tb_at (i := 275) (by decide +kernel) rfl⟩
theorem fgX5_9 : FG RX5 9 5 0 := ⟨_, _, _, cfX5, by decide, tb_at (i := 96) (by decide +kernel) rfl⟩
theorem fpX5_9 : FL RX5 9 5 0 true := ⟨_, _, _, cfX5, by decide, tb_at (i := 96) (by decide +kernel) rfl, rfl, fun _ => rfl⟩
theorem fgX5_15 : FG RX5 15 5 1 := ⟨_, _, _, cfX5, by decide, tb_at (i := 98) (by decide +kernel) rfl⟩
theorem fpX5_15 : FL RX5 15 5 1 false := ⟨_, _, _, cfX5, by decide, tb_at (i := 98) (by decide +kernel) rfl, rfl, fun h => by cases h⟩
theorem fgX5_19 : FG RX5 19 7 1 := ⟨_, _, _, cfX7, by decide, tb_at (i := 277) (by decide +kernel) rfl⟩
theorem fgX5_24 : FG RX5 24 7 0 := ⟨_, _, _, cfX7, by decide, tb_at (i := 273) (by decide +kernel) rfl⟩
theorem fgX7_7 : FG RX7 7 7 1 := ⟨_, _, _, cfX7, by decide, tb_at (i := 276) (by decide +kernel) rfl⟩
theorem fpX7_7 : FL RX7 7 7 1 false := ⟨_, _, _, cfX7, by decide, tb_at (i := 276) (by decide +kernel) rfl, rfl, fun h => by cases h⟩
theorem fgX7_19 : FG RX7 19 7 0 := ⟨_, _, _, cfX7, by decide, tb_at (i := 272) (by decide +kernel) rfl⟩
theorem fpX7_19 : FL RX7 19 7 0 true := ⟨_, _, _, cfX7, by decide, tb_at (i := 272) (by decide +kernel) rfl, rfl, fun _ => rfl⟩
theorem fgX9_9 : FG RX9 9 9 0 := ⟨_, _, _, cfX9, by decide, tb_at (i := 154) (by decide +kernel) rfl⟩
theorem fpX9_9 : FL RX9 9 9 0 false := ⟨_, _, _, cfX9, by decide, tb_at (i := 154) (by decide +kernel) rfl, rfl, fun h => by cases h⟩
theorem fgX9_15 : FG RX9 15 9 1 := ⟨_, _, _, cfX9, by decide, tb_at (i := 157) (by decide +kernel) rfl⟩
theorem fpX9_15 : FL RX9 15 9 1 false := ⟨_, _, _, cfX9, by decide, tb_at (i := 157) (by decide +kernel) rfl, rfl, fun h => by cases h⟩
theorem fgX9_18 : FG RX9 18 9 2 := ⟨_, _, _, cfX9, by decide, tb_at (i := 160) (by decide +kernel) rfl⟩
theorem fpX9_18 : FL RX9 18 9 2 false := ⟨_, _, _, cfX9, by decide, tb_at (i := 160) (by decide +kernel) rfl, rfl, fun h => by cases h⟩
theorem fgX9_39 : FG RX9 39 9 3 := ⟨_, _, _, cfX9, by decide, tb_at (i := 162) (by decide +kernel) rfl⟩
theorem fpX9_39 : FL RX9 39 9 3 true := ⟨_, _, _, cfX9, by decide, tb_at (i := 162) (by decide +kernel) rfl, rfl, fun _ => rfl⟩
theorem fgX9_43 : FG RX9 43 9 4 := ⟨_, _, _, cfX9, by decide, tb_at (i := 163) (by decide +kernel) rfl⟩
theorem fpX9_43 : FL RX9 43 9 4 true := ⟨_, _, _, cfX9, by decide, tb_at (i := 163) (by decide +kernel) rfl, rfl, fun _ => rfl⟩
theorem fgX9_47 : FG RX9 47 9 5 := ⟨_, _, _, cfX9, by decide, tb_at (i := 165) (by decide +kernel) rfl⟩
theorem fpX9_47 : FL RX9 47 9 5 true := ⟨_, _, _, cfX9, by decide, tb_at (i := 165) (by decide +kernel) rfl, rfl, fun _ => rfl⟩
theorem fgX9_50 : FG RX9 50 9 6 := ⟨_, _, _, cfX9, by decide, tb_at (i := 168) (by decide +kernel) rfl⟩
theorem fpX9_50 : FL RX9 50 9 6 true := ⟨_, _, _, cfX9, by decide, tb_at (i := 168) (by decide +kernel) rfl, rfl, fun _ => rfl⟩
theorem fgX9_53 : FG RX9 53 9 7 := ⟨_, _, _, cfX9, by decide, tb_at (i := 169) (by decide +kernel) rfl⟩
theorem fpX9_53 : FL RX9 53 9 7 true := ⟨_, _, _, cfX9, by decide, tb_at (i := 169) (by decide +kernel) rfl, rfl, fun _ => rfl⟩
theorem fgX9_56 : FG RX9 56 9 8 := ⟨_, _, _, cfX9, by decide, tb_at (i := 172) (by decide +kernel) rfl⟩
theorem fpX9_56 : FL RX9 56 9 8 true := ⟨_, _, _, cfX9, by decide, tb_at (i := 172) (by decide +kernel) rfl, rfl, fun _ => rfl⟩
theorem fgX9_59 : FG RX9 59 9 9 := ⟨_, _, _, cfX9, by decide, tb_at (i := 175) (by decide +kernel) rfl⟩
theorem fpX9_59 : FL RX9 59 9 9 true := ⟨_, _, _, cfX9, by decide, tb_at (i := 175) (by decide +kernel) rfl, rfl, fun _ => rfl⟩
theorem fgX9_62 : FG RX9 62 9 10 := ⟨_, _, _, cfX9, by decide, tb_at (i := 178) (by decide +kernel) rfl⟩
theorem fpX9_62 : FL RX9 62 9 10 true := ⟨_, _, _, cfX9, by decide, tb_at (i := 178) (by decide +kernel) rfl, rfl, fun _ => rfl⟩
theorem fgX9_65 : FG RX9 65 9 11 := ⟨_, _, _, cfX9, by decide, tb_at (i := 179) (by decide +kernel) rfl⟩
theorem fpX9_65 : FL RX9 65 9 11 true := ⟨_, _, _, cfX9, by decide, tb_at (i := 179) (by decide +kernel) rfl, rfl, fun _ => rfl⟩
theorem fgX9_68 : FG RX9 68 9 12 := ⟨_, _, _, cfX9, by decide, tb_at (i := 180) (by decide +kernel) rfl⟩
theorem fpX9_68 : FL RX9 68 9 12 true := ⟨_, _, _, cfX9, by decide, tb_at (i := 180) (by decide +kernel) rfl, rfl, fun _ => rfl⟩
theorem fgX9_71 : FG RX9 71 9 13 := ⟨_, _, _, cfX9, by decide, tb_at (i := 181) (by decide +kernel) rfl⟩
theorem fpX9_71 : FL RX9 71 9 13 true := ⟨_, _, _, cfX9, by decide, tb_at (i := 181) (by decide +kernel) rfl, rfl, fun _ => rfl⟩
theorem fgX9_74 : FG RX9 74 9 14 := ⟨_, _, _, cfX9, by decide, tb_at (i := 182) (by decide +kernel) rfl⟩
theorem fpX9_74 : FL RX9 74 9 14 true := ⟨_, _, _, cfX9, by decide, tb_at (i := 182) (by decide +kernel) rfl, rfl, fun _ => rfl⟩
theorem fgX9_77 : FG RX9 77 9 15 := ⟨_, _, _, cfX9, by decide, tb_at (i := 183) (by decide +kernel) rfl⟩
theorem fpX9_77 : FL RX9 77 9 15 true := ⟨_, _, _, cfX9, by decide, tb_at (i := 183) (by decide +kernel) rfl, rfl, fun _ => rfl⟩
theorem fgX9_95 : FG RX9 95 5 0 := ⟨_, _, _, cfX5, by decide, tb_at (i := 97) (by decide +kernel) rfl⟩
theorem klX10_252 : Cond.constantLong RX10 252 (2147483647) ∈ tb := tb_at (i := 785) (by decide +kernel) rfl
theorem klX10_254 : Cond.constantLong RX10 254 (48271) ∈ tb := tb_at (i := 786) (by decide +kernel) rfl
theorem klX10_279 : Cond.constantLong RX10 279 (17) ∈ tb := tb_at (i := 845) (by decide +kernel) rfl
theorem klX10_281 : Cond.constantLong RX10 281 (31) ∈ tb := tb_at (i := 846) (by decide +kernel) rfl
theorem klX10_308 : Cond.constantLong RX10 308 (8) ∈ tb := tb_at (i := 791) (by decide +kernel) rfl
theorem klX10_310 : Cond.constantLong RX10 310 (5) ∈ tb := tb_at (i := 792) (by decide +kernel) rfl
theorem klX10_312 : Cond.constantLong RX10 312 (64) ∈ tb := tb_at (i := 793) (by decide +kernel) rfl
theorem klX11_231 : Cond.constantLong RX11 231 (12) ∈ tb := tb_at (i := 1255) (by decide +kernel) rfl
theorem klX11_248 : Cond.constantLong RX11 248 (48271) ∈ tb := tb_at (i := 1269) (by decide +kernel) rfl
theorem klX11_250 : Cond.constantLong RX11 250 (2147483647) ∈ tb := tb_at (i := 1270) (by decide +kernel) rfl
theorem klX11_252 : Cond.constantLong RX11 252 (8) ∈ tb := tb_at (i := 1271) (by decide +kernel) rfl
theorem klX11_254 : Cond.constantLong RX11 254 (5) ∈ tb := tb_at (i := 1272) (by decide +kernel) rfl
theorem klX11_256 : Cond.constantLong RX11 256 (64) ∈ tb := tb_at (i := 1273) (by decide +kernel) rfl
theorem klX11_261 : Cond.constantLong RX11 261 (31) ∈ tb := tb_at (i := 1291) (by decide +kernel) rfl
theorem klX11_266 : Cond.constantLong RX11 266 (17) ∈ tb := tb_at (i := 1286) (by decide +kernel) rfl
theorem klX7_32 : Cond.constantLong RX7 32 (31) ∈ tb := tb_at (i := 852) (by decide +kernel) rfl
theorem kiX11_205 : Cond.constant RX11 205 (1000000) ∈ tb := tb_at (i := 1199) (by decide +kernel) rfl
theorem kiX11_247 : Cond.constant RX11 247 (2147483646) ∈ tb := tb_at (i := 1268) (by decide +kernel) rfl
theorem ckL_7 : Cond.classLink RL 7 "AshGreetings" ∈ tb := tb_at (i := 80) (by decide +kernel) rfl
theorem ckL_10 : Cond.classLink RL 10 "AshGreetingsModel" ∈ tb := tb_at (i := 853) (by decide +kernel) rfl
theorem ckX10_9 : Cond.classLink RX10 9 "AshGreetings$Strip" ∈ tb := tb_at (i := 88) (by decide +kernel) rfl
theorem ckX10_18 : Cond.classLink RX10 18 "AshGreetings$Reading" ∈ tb := tb_at (i := 90) (by decide +kernel) rfl
theorem ckX10_25 : Cond.classLink RX10 25 "AshGreetings$Town" ∈ tb := tb_at (i := 105) (by decide +kernel) rfl
theorem ckX10_36 : Cond.classLink RX10 36 "AshGreetings$Outlook" ∈ tb := tb_at (i := 218) (by decide +kernel) rfl
theorem ckX10_290 : Cond.classLink RX10 290 "AshGreetings$Devout" ∈ tb := tb_at (i := 505) (by decide +kernel) rfl
theorem ckX10_292 : Cond.classLink RX10 292 "AshGreetings$Stubborn" ∈ tb := tb_at (i := 506) (by decide +kernel) rfl
theorem ckX10_294 : Cond.classLink RX10 294 "AshGreetings$ShortOne" ∈ tb := tb_at (i := 507) (by decide +kernel) rfl
theorem ckX10_296 : Cond.classLink RX10 296 "AshGreetings$Priest" ∈ tb := tb_at (i := 508) (by decide +kernel) rfl
theorem ckX10_298 : Cond.classLink RX10 298 "AshGreetings$Brother" ∈ tb := tb_at (i := 509) (by decide +kernel) rfl
theorem ckX3_9 : Cond.classLink RX3 9 "AshGreetings$Town" ∈ tb := tb_at (i := 224) (by decide +kernel) rfl
theorem ckX3_25 : Cond.classLink RX3 25 "[[I" ∈ tb := tb_at (i := 226) (by decide +kernel) rfl
theorem ckX9_21 : Cond.classLink RX9 21 "AshGreetings$Neighbour" ∈ tb := tb_at (i := 111) (by decide +kernel) rfl
theorem ckX9_24 : Cond.classLink RX9 24 "AshGreetings$Devout" ∈ tb := tb_at (i := 119) (by decide +kernel) rfl
theorem ckX9_27 : Cond.classLink RX9 27 "AshGreetings$Stubborn" ∈ tb := tb_at (i := 126) (by decide +kernel) rfl
theorem ckX9_30 : Cond.classLink RX9 30 "AshGreetings$ShortOne" ∈ tb := tb_at (i := 133) (by decide +kernel) rfl
theorem ckX9_33 : Cond.classLink RX9 33 "AshGreetings$Priest" ∈ tb := tb_at (i := 140) (by decide +kernel) rfl
theorem ckX9_36 : Cond.classLink RX9 36 "AshGreetings$Brother" ∈ tb := tb_at (i := 147) (by decide +kernel) rfl
theorem cdX10_init : Cond.code yX10_init cX10_init 2 none ∈ tb := tb_at (i := 84) (by decide +kernel) rfl
theorem in_AshGreetings : Cond.initialized "AshGreetings" ∈ tb := tb_at (i := 65) (by decide +kernel) rfl
theorem cbL_9 : CB RL 9 mX10_init 0 := ⟨tb_at (i := 82) (by decide +kernel) rfl, cdX10_init, in_AshGreetings, ⟨by decide, by decide, by decide +kernel⟩, by decide⟩
theorem ciL_9 : CB RL 9 mX10_init 0 ∧ yX10_init.name = "<init>" ∧ Cond.instanceMethod yX10_init ∈ tb := ⟨cbL_9, rfl, tb_at (i := 83) (by decide +kernel) rfl⟩
theorem cdX11_init : Cond.code yX11_init cX11_init 2 none ∈ tb := tb_at (i := 857) (by decide +kernel) rfl
theorem in_AshGreetingsModel : Cond.initialized "AshGreetingsModel" ∈ tb := tb_at (i := 77) (by decide +kernel) rfl
theorem cbL_12 : CB RL 12 mX11_init 0 := ⟨tb_at (i := 855) (by decide +kernel) rfl, cdX11_init, in_AshGreetingsModel, ⟨by decide, by decide, by decide +kernel⟩, by decide⟩
theorem ciL_12 : CB RL 12 mX11_init 0 ∧ yX11_init.name = "<init>" ∧ Cond.instanceMethod yX11_init ∈ tb := ⟨cbL_12, rfl, tb_at (i := 856) (by decide +kernel) rfl⟩
theorem cdX10_row : Cond.code yX10_row cX10_row 3 (some .int) ∈ tb := tb_at (i := 322) (by decide +kernel) rfl
theorem cbL_13 : CB RL 13 mX10_row 2 := ⟨tb_at (i := 319) (by decide +kernel) rfl, cdX10_row, in_AshGreetings, ⟨by decide, by decide, by decide +kernel⟩, by decide⟩
theorem cvL_13 : CV RL 13 10 mX10_row 2 := ⟨cbL_13, tb_at (i := 320) (by decide +kernel) rfl, tb_at (i := 321) (by decide +kernel) rfl, _, _, cfX10⟩
theorem cdX11_row : Cond.code yX11_row cX11_row 4 (some .int) ∈ tb := tb_at (i := 974) (by decide +kernel) rfl
theorem cbL_17 : CB RL 17 mX11_row 2 := ⟨tb_at (i := 971) (by decide +kernel) rfl, cdX11_row, in_AshGreetingsModel, ⟨by decide, by decide, by decide +kernel⟩, by decide⟩
theorem cvL_17 : CV RL 17 11 mX11_row 2 := ⟨cbL_17, tb_at (i := 972) (by decide +kernel) rfl, tb_at (i := 973) (by decide +kernel) rfl, _, _, cfX11⟩
theorem cdX10_lay : Cond.code yX10_lay cX10_lay 5 (some .int) ∈ tb := tb_at (i := 344) (by decide +kernel) rfl
theorem cbL_18 : CB RL 18 mX10_lay 3 := ⟨tb_at (i := 341) (by decide +kernel) rfl, cdX10_lay, in_AshGreetings, ⟨by decide, by decide, by decide +kernel⟩, by decide⟩
theorem cvL_18 : CV RL 18 10 mX10_lay 3 := ⟨cbL_18, tb_at (i := 342) (by decide +kernel) rfl, tb_at (i := 343) (by decide +kernel) rfl, _, _, cfX10⟩
theorem cdX11_lay : Cond.code yX11_lay cX11_lay 5 (some .int) ∈ tb := tb_at (i := 985) (by decide +kernel) rfl
theorem cbL_22 : CB RL 22 mX11_lay 3 := ⟨tb_at (i := 982) (by decide +kernel) rfl, cdX11_lay, in_AshGreetingsModel, ⟨by decide, by decide, by decide +kernel⟩, by decide⟩
theorem cvL_22 : CV RL 22 11 mX11_lay 3 := ⟨cbL_22, tb_at (i := 983) (by decide +kernel) rfl, tb_at (i := 984) (by decide +kernel) rfl, _, _, cfX11⟩
theorem cdX10_at : Cond.code yX10_at cX10_at 4 (some .int) ∈ tb := tb_at (i := 360) (by decide +kernel) rfl
theorem cbL_23 : CB RL 23 mX10_at 2 := ⟨tb_at (i := 357) (by decide +kernel) rfl, cdX10_at, in_AshGreetings, ⟨by decide, by decide, by decide +kernel⟩, by decide⟩
theorem cvL_23 : CV RL 23 10 mX10_at 2 := ⟨cbL_23, tb_at (i := 358) (by decide +kernel) rfl, tb_at (i := 359) (by decide +kernel) rfl, _, _, cfX10⟩
theorem cdX11_at : Cond.code yX11_at cX11_at 3 (some .int) ∈ tb := tb_at (i := 997) (by decide +kernel) rfl
theorem cbL_26 : CB RL 26 mX11_at 2 := ⟨tb_at (i := 994) (by decide +kernel) rfl, cdX11_at, in_AshGreetingsModel, ⟨by decide, by decide, by decide +kernel⟩, by decide⟩
theorem cvL_26 : CV RL 26 11 mX11_at 2 := ⟨cbL_26, tb_at (i := 995) (by decide +kernel) rfl, tb_at (i := 996) (by decide +kernel) rfl, _, _, cfX11⟩
theorem cdX10_tear : Cond.code yX10_tear cX10_tear 2 (some .int) ∈ tb := tb_at (i := 364) (by decide +kernel) rfl
theorem cbL_27 : CB RL 27 mX10_tear 1 := ⟨tb_at (i := 361) (by decide +kernel) rfl, cdX10_tear, in_AshGreetings, ⟨by decide, by decide, by decide +kernel⟩, by decide⟩
theorem cvL_27 : CV RL 27 10 mX10_tear 1 := ⟨cbL_27, tb_at (i := 362) (by decide +kernel) rfl, tb_at (i := 363) (by decide +kernel) rfl, _, _, cfX10⟩
theorem cdX11_tear : Cond.code yX11_tear cX11_tear 2 (some .int) ∈ tb := tb_at (i := 1001) (by decide +kernel) rfl
theorem cbL_31 : CB RL 31 mX11_tear 1 := ⟨tb_at (i := 998) (by decide +kernel) rfl, cdX11_tear, in_AshGreetingsModel, ⟨by decide, by decide, by decide +kernel⟩, by decide⟩
theorem cvL_31 : CV RL 31 11 mX11_tear 1 := ⟨cbL_31, tb_at (i := 999) (by decide +kernel) rfl, tb_at (i := 1000) (by decide +kernel) rfl, _, _, cfX11⟩
theorem cdX10_copy : Cond.code yX10_copy cX10_copy 6 (some .int) ∈ tb := tb_at (i := 372) (by decide +kernel) rfl
theorem cbL_32 : CB RL 32 mX10_copy 5 := ⟨tb_at (i := 369) (by decide +kernel) rfl, cdX10_copy, in_AshGreetings, ⟨by decide, by decide, by decide +kernel⟩, by decide⟩
theorem cvL_32 : CV RL 32 10 mX10_copy 5 := ⟨cbL_32, tb_at (i := 370) (by decide +kernel) rfl, tb_at (i := 371) (by decide +kernel) rfl, _, _, cfX10⟩
theorem cdX11_copy : Cond.code yX11_copy cX11_copy 7 (some .int) ∈ tb := tb_at (i := 1005) (by decide +kernel) rfl
theorem cbL_36 : CB RL 36 mX11_copy 5 := ⟨tb_at (i := 1002) (by decide +kernel) rfl, cdX11_copy, in_AshGreetingsModel, ⟨by decide, by decide, by decide +kernel⟩, by decide⟩
theorem cvL_36 : CV RL 36 11 mX11_copy 5 := ⟨cbL_36, tb_at (i := 1003) (by decide +kernel) rfl, tb_at (i := 1004) (by decide +kernel) rfl, _, _, cfX11⟩
theorem cdX10_mean : Cond.code yX10_mean cX10_mean 3 (some .int) ∈ tb := tb_at (i := 383) (by decide +kernel) rfl
theorem cbL_37 : CB RL 37 mX10_mean 1 := ⟨tb_at (i := 380) (by decide +kernel) rfl, cdX10_mean, in_AshGreetings, ⟨by decide, by decide, by decide +kernel⟩, by decide⟩
theorem cvL_37 : CV RL 37 10 mX10_mean 1 := ⟨cbL_37, tb_at (i := 381) (by decide +kernel) rfl, tb_at (i := 382) (by decide +kernel) rfl, _, _, cfX10⟩
theorem cdX11_mean : Cond.code yX11_mean cX11_mean 5 (some .int) ∈ tb := tb_at (i := 1009) (by decide +kernel) rfl
theorem cbL_40 : CB RL 40 mX11_mean 1 := ⟨tb_at (i := 1006) (by decide +kernel) rfl, cdX11_mean, in_AshGreetingsModel, ⟨by decide, by decide, by decide +kernel⟩, by decide⟩
theorem cvL_40 : CV RL 40 11 mX11_mean 1 := ⟨cbL_40, tb_at (i := 1007) (by decide +kernel) rfl, tb_at (i := 1008) (by decide +kernel) rfl, _, _, cfX11⟩
theorem cdX10_text : Cond.code yX10_text cX10_text 3 (some .int) ∈ tb := tb_at (i := 391) (by decide +kernel) rfl
theorem cbL_41 : CB RL 41 mX10_text 2 := ⟨tb_at (i := 388) (by decide +kernel) rfl, cdX10_text, in_AshGreetings, ⟨by decide, by decide, by decide +kernel⟩, by decide⟩
theorem cvL_41 : CV RL 41 10 mX10_text 2 := ⟨cbL_41, tb_at (i := 389) (by decide +kernel) rfl, tb_at (i := 390) (by decide +kernel) rfl, _, _, cfX10⟩
theorem cdX11_text : Cond.code yX11_text cX11_text 4 (some .int) ∈ tb := tb_at (i := 1013) (by decide +kernel) rfl
theorem cbL_44 : CB RL 44 mX11_text 2 := ⟨tb_at (i := 1010) (by decide +kernel) rfl, cdX11_text, in_AshGreetingsModel, ⟨by decide, by decide, by decide +kernel⟩, by decide⟩
theorem cvL_44 : CV RL 44 11 mX11_text 2 := ⟨cbL_44, tb_at (i := 1011) (by decide +kernel) rfl, tb_at (i := 1012) (by decide +kernel) rfl, _, _, cfX11⟩
theorem cdX10_put : Cond.code yX10_put cX10_put 6 (some .int) ∈ tb := tb_at (i := 399) (by decide +kernel) rfl
theorem cbL_45 : CB RL 45 mX10_put 3 := ⟨tb_at (i := 396) (by decide +kernel) rfl, cdX10_put, in_AshGreetings, ⟨by decide, by decide, by decide +kernel⟩, by decide⟩
theorem cvL_45 : CV RL 45 10 mX10_put 3 := ⟨cbL_45, tb_at (i := 397) (by decide +kernel) rfl, tb_at (i := 398) (by decide +kernel) rfl, _, _, cfX10⟩
theorem cdX11_put : Cond.code yX11_put cX11_put 5 (some .int) ∈ tb := tb_at (i := 1020) (by decide +kernel) rfl
theorem cbL_48 : CB RL 48 mX11_put 3 := ⟨tb_at (i := 1017) (by decide +kernel) rfl, cdX11_put, in_AshGreetingsModel, ⟨by decide, by decide, by decide +kernel⟩, by decide⟩
theorem cvL_48 : CV RL 48 11 mX11_put 3 := ⟨cbL_48, tb_at (i := 1018) (by decide +kernel) rfl, tb_at (i := 1019) (by decide +kernel) rfl, _, _, cfX11⟩
theorem cdX10_fault : Cond.code yX10_fault cX10_fault 2 (some .int) ∈ tb := tb_at (i := 403) (by decide +kernel) rfl
theorem cbL_49 : CB RL 49 mX10_fault 1 := ⟨tb_at (i := 400) (by decide +kernel) rfl, cdX10_fault, in_AshGreetings, ⟨by decide, by decide, by decide +kernel⟩, by decide⟩
theorem cvL_49 : CV RL 49 10 mX10_fault 1 := ⟨cbL_49, tb_at (i := 401) (by decide +kernel) rfl, tb_at (i := 402) (by decide +kernel) rfl, _, _, cfX10⟩
theorem cdX11_fault : Cond.code yX11_fault cX11_fault 2 (some .int) ∈ tb := tb_at (i := 1024) (by decide +kernel) rfl
theorem cbL_52 : CB RL 52 mX11_fault 1 := ⟨tb_at (i := 1021) (by decide +kernel) rfl, cdX11_fault, in_AshGreetingsModel, ⟨by decide, by decide, by decide +kernel⟩, by decide⟩
theorem cvL_52 : CV RL 52 11 mX11_fault 1 := ⟨cbL_52, tb_at (i := 1022) (by decide +kernel) rfl, tb_at (i := 1023) (by decide +kernel) rfl, _, _, cfX11⟩
theorem cdX10_town : Cond.code yX10_town cX10_town 3 (some .int) ∈ tb := tb_at (i := 427) (by decide +kernel) rfl
theorem cbL_53 : CB RL 53 mX10_town 1 := ⟨tb_at (i := 424) (by decide +kernel) rfl, cdX10_town, in_AshGreetings, ⟨by decide, by decide, by decide +kernel⟩, by decide⟩
theorem cvL_53 : CV RL 53 10 mX10_town 1 := ⟨cbL_53, tb_at (i := 425) (by decide +kernel) rfl, tb_at (i := 426) (by decide +kernel) rfl, _, _, cfX10⟩
theorem cdX11_town : Cond.code yX11_town cX11_town 3 (some .int) ∈ tb := tb_at (i := 1055) (by decide +kernel) rfl
theorem cbL_56 : CB RL 56 mX11_town 1 := ⟨tb_at (i := 1052) (by decide +kernel) rfl, cdX11_town, in_AshGreetingsModel, ⟨by decide, by decide, by decide +kernel⟩, by decide⟩
theorem cvL_56 : CV RL 56 11 mX11_town 1 := ⟨cbL_56, tb_at (i := 1053) (by decide +kernel) rfl, tb_at (i := 1054) (by decide +kernel) rfl, _, _, cfX11⟩
theorem cdX10_person : Cond.code yX10_person cX10_person 3 (some .int) ∈ tb := tb_at (i := 447) (by decide +kernel) rfl
theorem cbL_57 : CB RL 57 mX10_person 2 := ⟨tb_at (i := 444) (by decide +kernel) rfl, cdX10_person, in_AshGreetings, ⟨by decide, by decide, by decide +kernel⟩, by decide⟩
theorem cvL_57 : CV RL 57 10 mX10_person 2 := ⟨cbL_57, tb_at (i := 445) (by decide +kernel) rfl, tb_at (i := 446) (by decide +kernel) rfl, _, _, cfX10⟩
theorem cdX11_person : Cond.code yX11_person cX11_person 3 (some .int) ∈ tb := tb_at (i := 1059) (by decide +kernel) rfl
theorem cbL_60 : CB RL 60 mX11_person 2 := ⟨tb_at (i := 1056) (by decide +kernel) rfl, cdX11_person, in_AshGreetingsModel, ⟨by decide, by decide, by decide +kernel⟩, by decide⟩
theorem cvL_60 : CV RL 60 11 mX11_person 2 := ⟨cbL_60, tb_at (i := 1057) (by decide +kernel) rfl, tb_at (i := 1058) (by decide +kernel) rfl, _, _, cfX11⟩
theorem cdX10_deep : Cond.code yX10_deep cX10_deep 2 (some .int) ∈ tb := tb_at (i := 483) (by decide +kernel) rfl
theorem cbL_61 : CB RL 61 mX10_deep 1 := ⟨tb_at (i := 480) (by decide +kernel) rfl, cdX10_deep, in_AshGreetings, ⟨by decide, by decide, by decide +kernel⟩, by decide⟩
theorem cvL_61 : CV RL 61 10 mX10_deep 1 := ⟨cbL_61, tb_at (i := 481) (by decide +kernel) rfl, tb_at (i := 482) (by decide +kernel) rfl, _, _, cfX10⟩
theorem cdX11_deep : Cond.code yX11_deep cX11_deep 2 (some .int) ∈ tb := tb_at (i := 1087) (by decide +kernel) rfl
theorem cbL_64 : CB RL 64 mX11_deep 1 := ⟨tb_at (i := 1084) (by decide +kernel) rfl, cdX11_deep, in_AshGreetingsModel, ⟨by decide, by decide, by decide +kernel⟩, by decide⟩
theorem cvL_64 : CV RL 64 11 mX11_deep 1 := ⟨cbL_64, tb_at (i := 1085) (by decide +kernel) rfl, tb_at (i := 1086) (by decide +kernel) rfl, _, _, cfX11⟩
theorem cdX10_mark : Cond.code yX10_mark cX10_mark 3 (some .int) ∈ tb := tb_at (i := 499) (by decide +kernel) rfl
theorem cbL_65 : CB RL 65 mX10_mark 2 := ⟨tb_at (i := 496) (by decide +kernel) rfl, cdX10_mark, in_AshGreetings, ⟨by decide, by decide, by decide +kernel⟩, by decide⟩
theorem cvL_65 : CV RL 65 10 mX10_mark 2 := ⟨cbL_65, tb_at (i := 497) (by decide +kernel) rfl, tb_at (i := 498) (by decide +kernel) rfl, _, _, cfX10⟩
theorem cdX11_mark : Cond.code yX11_mark cX11_mark 4 (some .int) ∈ tb := tb_at (i := 1098) (by decide +kernel) rfl
theorem cbL_68 : CB RL 68 mX11_mark 2 := ⟨tb_at (i := 1095) (by decide +kernel) rfl, cdX11_mark, in_AshGreetingsModel, ⟨by decide, by decide, by decide +kernel⟩, by decide⟩
theorem cvL_68 : CV RL 68 11 mX11_mark 2 := ⟨cbL_68, tb_at (i := 1096) (by decide +kernel) rfl, tb_at (i := 1097) (by decide +kernel) rfl, _, _, cfX11⟩
theorem cdX10_day : Cond.code yX10_day cX10_day 1 (some .int) ∈ tb := tb_at (i := 532) (by decide +kernel) rfl
theorem cbL_69 : CB RL 69 mX10_day 0 := ⟨tb_at (i := 529) (by decide +kernel) rfl, cdX10_day, in_AshGreetings, ⟨by decide, by decide, by decide +kernel⟩, by decide⟩
theorem cvL_69 : CV RL 69 10 mX10_day 0 := ⟨cbL_69, tb_at (i := 530) (by decide +kernel) rfl, tb_at (i := 531) (by decide +kernel) rfl, _, _, cfX10⟩
theorem cdX11_day : Cond.code yX11_day cX11_day 1 (some .int) ∈ tb := tb_at (i := 1117) (by decide +kernel) rfl
theorem cbL_73 : CB RL 73 mX11_day 0 := ⟨tb_at (i := 1114) (by decide +kernel) rfl, cdX11_day, in_AshGreetingsModel, ⟨by decide, by decide, by decide +kernel⟩, by decide⟩
theorem cvL_73 : CV RL 73 11 mX11_day 0 := ⟨cbL_73, tb_at (i := 1115) (by decide +kernel) rfl, tb_at (i := 1116) (by decide +kernel) rfl, _, _, cfX11⟩
theorem cdX10_fall : Cond.code yX10_fall cX10_fall 3 (some .int) ∈ tb := tb_at (i := 593) (by decide +kernel) rfl
theorem cbL_74 : CB RL 74 mX10_fall 2 := ⟨tb_at (i := 590) (by decide +kernel) rfl, cdX10_fall, in_AshGreetings, ⟨by decide, by decide, by decide +kernel⟩, by decide⟩
theorem cvL_74 : CV RL 74 10 mX10_fall 2 := ⟨cbL_74, tb_at (i := 591) (by decide +kernel) rfl, tb_at (i := 592) (by decide +kernel) rfl, _, _, cfX10⟩
theorem cdX11_fall : Cond.code yX11_fall cX11_fall 4 (some .int) ∈ tb := tb_at (i := 1144) (by decide +kernel) rfl
theorem cbL_77 : CB RL 77 mX11_fall 2 := ⟨tb_at (i := 1141) (by decide +kernel) rfl, cdX11_fall, in_AshGreetingsModel, ⟨by decide, by decide, by decide +kernel⟩, by decide⟩
theorem cvL_77 : CV RL 77 11 mX11_fall 2 := ⟨cbL_77, tb_at (i := 1142) (by decide +kernel) rfl, tb_at (i := 1143) (by decide +kernel) rfl, _, _, cfX11⟩
theorem cdX10_wind : Cond.code yX10_wind cX10_wind 3 (some .int) ∈ tb := tb_at (i := 597) (by decide +kernel) rfl
theorem cbL_78 : CB RL 78 mX10_wind 1 := ⟨tb_at (i := 594) (by decide +kernel) rfl, cdX10_wind, in_AshGreetings, ⟨by decide, by decide, by decide +kernel⟩, by decide⟩
theorem cvL_78 : CV RL 78 10 mX10_wind 1 := ⟨cbL_78, tb_at (i := 595) (by decide +kernel) rfl, tb_at (i := 596) (by decide +kernel) rfl, _, _, cfX10⟩
theorem cdX11_wind : Cond.code yX11_wind cX11_wind 2 (some .int) ∈ tb := tb_at (i := 1155) (by decide +kernel) rfl
theorem cbL_81 : CB RL 81 mX11_wind 1 := ⟨tb_at (i := 1152) (by decide +kernel) rfl, cdX11_wind, in_AshGreetingsModel, ⟨by decide, by decide, by decide +kernel⟩, by decide⟩
theorem cvL_81 : CV RL 81 11 mX11_wind 1 := ⟨cbL_81, tb_at (i := 1153) (by decide +kernel) rfl, tb_at (i := 1154) (by decide +kernel) rfl, _, _, cfX11⟩
theorem cdX10_go : Cond.code yX10_go cX10_go 4 (some .int) ∈ tb := tb_at (i := 601) (by decide +kernel) rfl
theorem cbL_82 : CB RL 82 mX10_go 2 := ⟨tb_at (i := 598) (by decide +kernel) rfl, cdX10_go, in_AshGreetings, ⟨by decide, by decide, by decide +kernel⟩, by decide⟩
theorem cvL_82 : CV RL 82 10 mX10_go 2 := ⟨cbL_82, tb_at (i := 599) (by decide +kernel) rfl, tb_at (i := 600) (by decide +kernel) rfl, _, _, cfX10⟩
theorem cdX11_go : Cond.code yX11_go cX11_go 4 (some .int) ∈ tb := tb_at (i := 1159) (by decide +kernel) rfl
theorem cbL_85 : CB RL 85 mX11_go 2 := ⟨tb_at (i := 1156) (by decide +kernel) rfl, cdX11_go, in_AshGreetingsModel, ⟨by decide, by decide, by decide +kernel⟩, by decide⟩
theorem cvL_85 : CV RL 85 11 mX11_go 2 := ⟨cbL_85, tb_at (i := 1157) (by decide +kernel) rfl, tb_at (i := 1158) (by decide +kernel) rfl, _, _, cfX11⟩
theorem cdX10_undo : Cond.code yX10_undo cX10_undo 3 (some .int) ∈ tb := tb_at (i := 605) (by decide +kernel) rfl
theorem cbL_86 : CB RL 86 mX10_undo 1 := ⟨tb_at (i := 602) (by decide +kernel) rfl, cdX10_undo, in_AshGreetings, ⟨by decide, by decide, by decide +kernel⟩, by decide⟩
theorem cvL_86 : CV RL 86 10 mX10_undo 1 := ⟨cbL_86, tb_at (i := 603) (by decide +kernel) rfl, tb_at (i := 604) (by decide +kernel) rfl, _, _, cfX10⟩
theorem cdX11_undo : Cond.code yX11_undo cX11_undo 4 (some .int) ∈ tb := tb_at (i := 1105) (by decide +kernel) rfl
theorem cbL_89 : CB RL 89 mX11_undo 1 := ⟨tb_at (i := 1102) (by decide +kernel) rfl, cdX11_undo, in_AshGreetingsModel, ⟨by decide, by decide, by decide +kernel⟩, by decide⟩
theorem cvL_89 : CV RL 89 11 mX11_undo 1 := ⟨cbL_89, tb_at (i := 1103) (by decide +kernel) rfl, tb_at (i := 1104) (by decide +kernel) rfl, _, _, cfX11⟩
theorem cdX10_keep : Cond.code yX10_keep cX10_keep 2 (some .int) ∈ tb := tb_at (i := 613) (by decide +kernel) rfl
theorem cbL_90 : CB RL 90 mX10_keep 1 := ⟨tb_at (i := 610) (by decide +kernel) rfl, cdX10_keep, in_AshGreetings, ⟨by decide, by decide, by decide +kernel⟩, by decide⟩
theorem cvL_90 : CV RL 90 10 mX10_keep 1 := ⟨cbL_90, tb_at (i := 611) (by decide +kernel) rfl, tb_at (i := 612) (by decide +kernel) rfl, _, _, cfX10⟩
theorem cdX11_keep : Cond.code yX11_keep cX11_keep 3 (some .int) ∈ tb := tb_at (i := 1109) (by decide +kernel) rfl
theorem cbL_93 : CB RL 93 mX11_keep 1 := ⟨tb_at (i := 1106) (by decide +kernel) rfl, cdX11_keep, in_AshGreetingsModel, ⟨by decide, by decide, by decide +kernel⟩, by decide⟩
theorem cvL_93 : CV RL 93 11 mX11_keep 1 := ⟨cbL_93, tb_at (i := 1107) (by decide +kernel) rfl, tb_at (i := 1108) (by decide +kernel) rfl, _, _, cfX11⟩
theorem cdX10_on : Cond.code yX10_on cX10_on 2 (some .int) ∈ tb := tb_at (i := 629) (by decide +kernel) rfl
theorem cbL_94 : CB RL 94 mX10_on 1 := ⟨tb_at (i := 626) (by decide +kernel) rfl, cdX10_on, in_AshGreetings, ⟨by decide, by decide, by decide +kernel⟩, by decide⟩
theorem cvL_94 : CV RL 94 10 mX10_on 1 := ⟨cbL_94, tb_at (i := 627) (by decide +kernel) rfl, tb_at (i := 628) (by decide +kernel) rfl, _, _, cfX10⟩
theorem cdX11_on : Cond.code yX11_on cX11_on 3 (some .int) ∈ tb := tb_at (i := 1113) (by decide +kernel) rfl
theorem cbL_97 : CB RL 97 mX11_on 1 := ⟨tb_at (i := 1110) (by decide +kernel) rfl, cdX11_on, in_AshGreetingsModel, ⟨by decide, by decide, by decide +kernel⟩, by decide⟩
theorem cvL_97 : CV RL 97 11 mX11_on 1 := ⟨cbL_97, tb_at (i := 1111) (by decide +kernel) rfl, tb_at (i := 1112) (by decide +kernel) rfl, _, _, cfX11⟩
theorem cdX10_meets : Cond.code yX10_meets cX10_meets 5 (some .int) ∈ tb := tb_at (i := 633) (by decide +kernel) rfl
theorem cbL_98 : CB RL 98 mX10_meets 0 := ⟨tb_at (i := 630) (by decide +kernel) rfl, cdX10_meets, in_AshGreetings, ⟨by decide, by decide, by decide +kernel⟩, by decide⟩
theorem cvL_98 : CV RL 98 10 mX10_meets 0 := ⟨cbL_98, tb_at (i := 631) (by decide +kernel) rfl, tb_at (i := 632) (by decide +kernel) rfl, _, _, cfX10⟩
theorem cdX11_meets : Cond.code yX11_meets cX11_meets 5 (some .int) ∈ tb := tb_at (i := 1163) (by decide +kernel) rfl
theorem cbL_101 : CB RL 101 mX11_meets 0 := ⟨tb_at (i := 1160) (by decide +kernel) rfl, cdX11_meets, in_AshGreetingsModel, ⟨by decide, by decide, by decide +kernel⟩, by decide⟩
theorem cvL_101 : CV RL 101 11 mX11_meets 0 := ⟨cbL_101, tb_at (i := 1161) (by decide +kernel) rfl, tb_at (i := 1162) (by decide +kernel) rfl, _, _, cfX11⟩
theorem cdX10_later : Cond.code yX10_later cX10_later 3 (some .int) ∈ tb := tb_at (i := 638) (by decide +kernel) rfl
theorem cbL_102 : CB RL 102 mX10_later 2 := ⟨tb_at (i := 635) (by decide +kernel) rfl, cdX10_later, in_AshGreetings, ⟨by decide, by decide, by decide +kernel⟩, by decide⟩
theorem cvL_102 : CV RL 102 10 mX10_later 2 := ⟨cbL_102, tb_at (i := 636) (by decide +kernel) rfl, tb_at (i := 637) (by decide +kernel) rfl, _, _, cfX10⟩
theorem cdX11_later : Cond.code yX11_later cX11_later 4 (some .int) ∈ tb := tb_at (i := 1167) (by decide +kernel) rfl
theorem cbL_105 : CB RL 105 mX11_later 2 := ⟨tb_at (i := 1164) (by decide +kernel) rfl, cdX11_later, in_AshGreetingsModel, ⟨by decide, by decide, by decide +kernel⟩, by decide⟩
theorem cvL_105 : CV RL 105 11 mX11_later 2 := ⟨cbL_105, tb_at (i := 1165) (by decide +kernel) rfl, tb_at (i := 1166) (by decide +kernel) rfl, _, _, cfX11⟩
theorem cdX10_peace : Cond.code yX10_peace cX10_peace 1 (some .int) ∈ tb := tb_at (i := 666) (by decide +kernel) rfl
theorem cbL_106 : CB RL 106 mX10_peace 0 := ⟨tb_at (i := 663) (by decide +kernel) rfl, cdX10_peace, in_AshGreetings, ⟨by decide, by decide, by decide +kernel⟩, by decide⟩
theorem cvL_106 : CV RL 106 10 mX10_peace 0 := ⟨cbL_106, tb_at (i := 664) (by decide +kernel) rfl, tb_at (i := 665) (by decide +kernel) rfl, _, _, cfX10⟩
theorem cdX11_peace : Cond.code yX11_peace cX11_peace 4 (some .int) ∈ tb := tb_at (i := 1179) (by decide +kernel) rfl
theorem cbL_109 : CB RL 109 mX11_peace 0 := ⟨tb_at (i := 1176) (by decide +kernel) rfl, cdX11_peace, in_AshGreetingsModel, ⟨by decide, by decide, by decide +kernel⟩, by decide⟩
theorem cvL_109 : CV RL 109 11 mX11_peace 0 := ⟨cbL_109, tb_at (i := 1177) (by decide +kernel) rfl, tb_at (i := 1178) (by decide +kernel) rfl, _, _, cfX11⟩
theorem cdX10_left : Cond.code yX10_left cX10_left 3 (some .int) ∈ tb := tb_at (i := 679) (by decide +kernel) rfl
theorem cbL_110 : CB RL 110 mX10_left 1 := ⟨tb_at (i := 676) (by decide +kernel) rfl, cdX10_left, in_AshGreetings, ⟨by decide, by decide, by decide +kernel⟩, by decide⟩
theorem cvL_110 : CV RL 110 10 mX10_left 1 := ⟨cbL_110, tb_at (i := 677) (by decide +kernel) rfl, tb_at (i := 678) (by decide +kernel) rfl, _, _, cfX10⟩
theorem cdX11_left : Cond.code yX11_left cX11_left 4 (some .int) ∈ tb := tb_at (i := 1183) (by decide +kernel) rfl
theorem cbL_113 : CB RL 113 mX11_left 1 := ⟨tb_at (i := 1180) (by decide +kernel) rfl, cdX11_left, in_AshGreetingsModel, ⟨by decide, by decide, by decide +kernel⟩, by decide⟩
theorem cvL_113 : CV RL 113 11 mX11_left 1 := ⟨cbL_113, tb_at (i := 1181) (by decide +kernel) rfl, tb_at (i := 1182) (by decide +kernel) rfl, _, _, cfX11⟩
theorem cdX10_ash : Cond.code yX10_ash cX10_ash 2 (some .int) ∈ tb := tb_at (i := 687) (by decide +kernel) rfl
theorem cbL_114 : CB RL 114 mX10_ash 1 := ⟨tb_at (i := 684) (by decide +kernel) rfl, cdX10_ash, in_AshGreetings, ⟨by decide, by decide, by decide +kernel⟩, by decide⟩
theorem cvL_114 : CV RL 114 10 mX10_ash 1 := ⟨cbL_114, tb_at (i := 685) (by decide +kernel) rfl, tb_at (i := 686) (by decide +kernel) rfl, _, _, cfX10⟩
theorem cdX11_ash : Cond.code yX11_ash cX11_ash 7 (some .int) ∈ tb := tb_at (i := 1198) (by decide +kernel) rfl
theorem cbL_117 : CB RL 117 mX11_ash 1 := ⟨tb_at (i := 1195) (by decide +kernel) rfl, cdX11_ash, in_AshGreetingsModel, ⟨by decide, by decide, by decide +kernel⟩, by decide⟩
theorem cvL_117 : CV RL 117 11 mX11_ash 1 := ⟨cbL_117, tb_at (i := 1196) (by decide +kernel) rfl, tb_at (i := 1197) (by decide +kernel) rfl, _, _, cfX11⟩
theorem cdX10_best : Cond.code yX10_best cX10_best 2 (some .int) ∈ tb := tb_at (i := 697) (by decide +kernel) rfl
theorem cbL_118 : CB RL 118 mX10_best 1 := ⟨tb_at (i := 694) (by decide +kernel) rfl, cdX10_best, in_AshGreetings, ⟨by decide, by decide, by decide +kernel⟩, by decide⟩
theorem cvL_118 : CV RL 118 10 mX10_best 1 := ⟨cbL_118, tb_at (i := 695) (by decide +kernel) rfl, tb_at (i := 696) (by decide +kernel) rfl, _, _, cfX10⟩
theorem cdX11_best : Cond.code yX11_best cX11_best 7 (some .int) ∈ tb := tb_at (i := 1203) (by decide +kernel) rfl
theorem cbL_121 : CB RL 121 mX11_best 1 := ⟨tb_at (i := 1200) (by decide +kernel) rfl, cdX11_best, in_AshGreetingsModel, ⟨by decide, by decide, by decide +kernel⟩, by decide⟩
theorem cvL_121 : CV RL 121 11 mX11_best 1 := ⟨cbL_121, tb_at (i := 1201) (by decide +kernel) rfl, tb_at (i := 1202) (by decide +kernel) rfl, _, _, cfX11⟩
theorem cdX10_kinds : Cond.code yX10_kinds cX10_kinds 4 (some .int) ∈ tb := tb_at (i := 705) (by decide +kernel) rfl
theorem cbL_122 : CB RL 122 mX10_kinds 2 := ⟨tb_at (i := 702) (by decide +kernel) rfl, cdX10_kinds, in_AshGreetings, ⟨by decide, by decide, by decide +kernel⟩, by decide⟩
theorem cvL_122 : CV RL 122 10 mX10_kinds 2 := ⟨cbL_122, tb_at (i := 703) (by decide +kernel) rfl, tb_at (i := 704) (by decide +kernel) rfl, _, _, cfX10⟩
theorem cdX11_kinds : Cond.code yX11_kinds cX11_kinds 4 (some .int) ∈ tb := tb_at (i := 1207) (by decide +kernel) rfl
theorem cbL_125 : CB RL 125 mX11_kinds 2 := ⟨tb_at (i := 1204) (by decide +kernel) rfl, cdX11_kinds, in_AshGreetingsModel, ⟨by decide, by decide, by decide +kernel⟩, by decide⟩
theorem cvL_125 : CV RL 125 11 mX11_kinds 2 := ⟨cbL_125, tb_at (i := 1205) (by decide +kernel) rfl, tb_at (i := 1206) (by decide +kernel) rfl, _, _, cfX11⟩
theorem cdX10_highs : Cond.code yX10_highs cX10_highs 4 (some .int) ∈ tb := tb_at (i := 721) (by decide +kernel) rfl
theorem cbL_126 : CB RL 126 mX10_highs 2 := ⟨tb_at (i := 718) (by decide +kernel) rfl, cdX10_highs, in_AshGreetings, ⟨by decide, by decide, by decide +kernel⟩, by decide⟩
theorem cvL_126 : CV RL 126 10 mX10_highs 2 := ⟨cbL_126, tb_at (i := 719) (by decide +kernel) rfl, tb_at (i := 720) (by decide +kernel) rfl, _, _, cfX10⟩
theorem cdX11_highs : Cond.code yX11_highs cX11_highs 7 (some .int) ∈ tb := tb_at (i := 1223) (by decide +kernel) rfl
theorem cbL_129 : CB RL 129 mX11_highs 2 := ⟨tb_at (i := 1220) (by decide +kernel) rfl, cdX11_highs, in_AshGreetingsModel, ⟨by decide, by decide, by decide +kernel⟩, by decide⟩
theorem cvL_129 : CV RL 129 11 mX11_highs 2 := ⟨cbL_129, tb_at (i := 1221) (by decide +kernel) rfl, tb_at (i := 1222) (by decide +kernel) rfl, _, _, cfX11⟩
theorem cdX10_test : Cond.code yX10_test cX10_test 4 (some .int) ∈ tb := tb_at (i := 729) (by decide +kernel) rfl
theorem cbL_130 : CB RL 130 mX10_test 2 := ⟨tb_at (i := 726) (by decide +kernel) rfl, cdX10_test, in_AshGreetings, ⟨by decide, by decide, by decide +kernel⟩, by decide⟩
theorem cvL_130 : CV RL 130 10 mX10_test 2 := ⟨cbL_130, tb_at (i := 727) (by decide +kernel) rfl, tb_at (i := 728) (by decide +kernel) rfl, _, _, cfX10⟩
theorem cdX11_test : Cond.code yX11_test cX11_test 12 (some .int) ∈ tb := tb_at (i := 1227) (by decide +kernel) rfl
theorem cbL_133 : CB RL 133 mX11_test 2 := ⟨tb_at (i := 1224) (by decide +kernel) rfl, cdX11_test, in_AshGreetingsModel, ⟨by decide, by decide, by decide +kernel⟩, by decide⟩
theorem cvL_133 : CV RL 133 11 mX11_test 2 := ⟨cbL_133, tb_at (i := 1225) (by decide +kernel) rfl, tb_at (i := 1226) (by decide +kernel) rfl, _, _, cfX11⟩
theorem cdX10_duel : Cond.code yX10_duel cX10_duel 2 (some .int) ∈ tb := tb_at (i := 746) (by decide +kernel) rfl
theorem cbL_134 : CB RL 134 mX10_duel 1 := ⟨tb_at (i := 743) (by decide +kernel) rfl, cdX10_duel, in_AshGreetings, ⟨by decide, by decide, by decide +kernel⟩, by decide⟩
theorem cvL_134 : CV RL 134 10 mX10_duel 1 := ⟨cbL_134, tb_at (i := 744) (by decide +kernel) rfl, tb_at (i := 745) (by decide +kernel) rfl, _, _, cfX10⟩
theorem cdX11_duel : Cond.code yX11_duel cX11_duel 9 (some .int) ∈ tb := tb_at (i := 1238) (by decide +kernel) rfl
theorem cbL_137 : CB RL 137 mX11_duel 1 := ⟨tb_at (i := 1235) (by decide +kernel) rfl, cdX11_duel, in_AshGreetingsModel, ⟨by decide, by decide, by decide +kernel⟩, by decide⟩
theorem cvL_137 : CV RL 137 11 mX11_duel 1 := ⟨cbL_137, tb_at (i := 1236) (by decide +kernel) rfl, tb_at (i := 1237) (by decide +kernel) rfl, _, _, cfX11⟩
theorem cdX10_odds : Cond.code yX10_odds cX10_odds 4 (some .int) ∈ tb := tb_at (i := 760) (by decide +kernel) rfl
theorem cbL_138 : CB RL 138 mX10_odds 3 := ⟨tb_at (i := 757) (by decide +kernel) rfl, cdX10_odds, in_AshGreetings, ⟨by decide, by decide, by decide +kernel⟩, by decide⟩
theorem cvL_138 : CV RL 138 10 mX10_odds 3 := ⟨cbL_138, tb_at (i := 758) (by decide +kernel) rfl, tb_at (i := 759) (by decide +kernel) rfl, _, _, cfX10⟩
theorem cdX11_odds : Cond.code yX11_odds cX11_odds 5 (some .int) ∈ tb := tb_at (i := 1250) (by decide +kernel) rfl
theorem cbL_141 : CB RL 141 mX11_odds 3 := ⟨tb_at (i := 1247) (by decide +kernel) rfl, cdX11_odds, in_AshGreetingsModel, ⟨by decide, by decide, by decide +kernel⟩, by decide⟩
theorem cvL_141 : CV RL 141 11 mX11_odds 3 := ⟨cbL_141, tb_at (i := 1248) (by decide +kernel) rfl, tb_at (i := 1249) (by decide +kernel) rfl, _, _, cfX11⟩
theorem cdX10_mid : Cond.code yX10_mid cX10_mid 3 (some .int) ∈ tb := tb_at (i := 780) (by decide +kernel) rfl
theorem cbL_142 : CB RL 142 mX10_mid 2 := ⟨tb_at (i := 777) (by decide +kernel) rfl, cdX10_mid, in_AshGreetings, ⟨by decide, by decide, by decide +kernel⟩, by decide⟩
theorem cvL_142 : CV RL 142 10 mX10_mid 2 := ⟨cbL_142, tb_at (i := 778) (by decide +kernel) rfl, tb_at (i := 779) (by decide +kernel) rfl, _, _, cfX10⟩
theorem cdX11_mid : Cond.code yX11_mid cX11_mid 4 (some .int) ∈ tb := tb_at (i := 1263) (by decide +kernel) rfl
theorem cbL_145 : CB RL 145 mX11_mid 2 := ⟨tb_at (i := 1260) (by decide +kernel) rfl, cdX11_mid, in_AshGreetingsModel, ⟨by decide, by decide, by decide +kernel⟩, by decide⟩
theorem cvL_145 : CV RL 145 11 mX11_mid 2 := ⟨cbL_145, tb_at (i := 1261) (by decide +kernel) rfl, tb_at (i := 1262) (by decide +kernel) rfl, _, _, cfX11⟩
theorem cdX10_lots : Cond.code yX10_lots cX10_lots 6 (some .int) ∈ tb := tb_at (i := 784) (by decide +kernel) rfl
theorem cbL_146 : CB RL 146 mX10_lots 2 := ⟨tb_at (i := 781) (by decide +kernel) rfl, cdX10_lots, in_AshGreetings, ⟨by decide, by decide, by decide +kernel⟩, by decide⟩
theorem cvL_146 : CV RL 146 10 mX10_lots 2 := ⟨cbL_146, tb_at (i := 782) (by decide +kernel) rfl, tb_at (i := 783) (by decide +kernel) rfl, _, _, cfX10⟩
theorem cdX11_lots : Cond.code yX11_lots cX11_lots 9 (some .int) ∈ tb := tb_at (i := 1267) (by decide +kernel) rfl
theorem cbL_149 : CB RL 149 mX11_lots 2 := ⟨tb_at (i := 1264) (by decide +kernel) rfl, cdX11_lots, in_AshGreetingsModel, ⟨by decide, by decide, by decide +kernel⟩, by decide⟩
theorem cvL_149 : CV RL 149 11 mX11_lots 2 := ⟨cbL_149, tb_at (i := 1265) (by decide +kernel) rfl, tb_at (i := 1266) (by decide +kernel) rfl, _, _, cfX11⟩
theorem cdX10_asked : Cond.code yX10_asked cX10_asked 1 (some .int) ∈ tb := tb_at (i := 797) (by decide +kernel) rfl
theorem cbL_150 : CB RL 150 mX10_asked 0 := ⟨tb_at (i := 794) (by decide +kernel) rfl, cdX10_asked, in_AshGreetings, ⟨by decide, by decide, by decide +kernel⟩, by decide⟩
theorem cvL_150 : CV RL 150 10 mX10_asked 0 := ⟨cbL_150, tb_at (i := 795) (by decide +kernel) rfl, tb_at (i := 796) (by decide +kernel) rfl, _, _, cfX10⟩
theorem cdX11_asked : Cond.code yX11_asked cX11_asked 1 (some .int) ∈ tb := tb_at (i := 951) (by decide +kernel) rfl
theorem cbL_153 : CB RL 153 mX11_asked 0 := ⟨tb_at (i := 948) (by decide +kernel) rfl, cdX11_asked, in_AshGreetingsModel, ⟨by decide, by decide, by decide +kernel⟩, by decide⟩
theorem cvL_153 : CV RL 153 11 mX11_asked 0 := ⟨cbL_153, tb_at (i := 949) (by decide +kernel) rfl, tb_at (i := 950) (by decide +kernel) rfl, _, _, cfX11⟩
theorem cdX10_upper : Cond.code yX10_upper cX10_upper 1 (some .long) ∈ tb := tb_at (i := 801) (by decide +kernel) rfl
theorem cbL_154 : CB RL 154 mX10_upper 0 := ⟨tb_at (i := 798) (by decide +kernel) rfl, cdX10_upper, in_AshGreetings, ⟨by decide, by decide, by decide +kernel⟩, by decide⟩
theorem cvL_154 : CV RL 154 10 mX10_upper 0 := ⟨cbL_154, tb_at (i := 799) (by decide +kernel) rfl, tb_at (i := 800) (by decide +kernel) rfl, _, _, cfX10⟩
theorem cdX11_upper : Cond.code yX11_upper cX11_upper 1 (some .long) ∈ tb := tb_at (i := 955) (by decide +kernel) rfl
theorem cbL_158 : CB RL 158 mX11_upper 0 := ⟨tb_at (i := 952) (by decide +kernel) rfl, cdX11_upper, in_AshGreetingsModel, ⟨by decide, by decide, by decide +kernel⟩, by decide⟩
theorem cvL_158 : CV RL 158 11 mX11_upper 0 := ⟨cbL_158, tb_at (i := 953) (by decide +kernel) rfl, tb_at (i := 954) (by decide +kernel) rfl, _, _, cfX11⟩
theorem cdX10_lower : Cond.code yX10_lower cX10_lower 1 (some .long) ∈ tb := tb_at (i := 805) (by decide +kernel) rfl
theorem cbL_159 : CB RL 159 mX10_lower 0 := ⟨tb_at (i := 802) (by decide +kernel) rfl, cdX10_lower, in_AshGreetings, ⟨by decide, by decide, by decide +kernel⟩, by decide⟩
theorem cvL_159 : CV RL 159 10 mX10_lower 0 := ⟨cbL_159, tb_at (i := 803) (by decide +kernel) rfl, tb_at (i := 804) (by decide +kernel) rfl, _, _, cfX10⟩
theorem cdX11_lower : Cond.code yX11_lower cX11_lower 1 (some .long) ∈ tb := tb_at (i := 959) (by decide +kernel) rfl
theorem cbL_162 : CB RL 162 mX11_lower 0 := ⟨tb_at (i := 956) (by decide +kernel) rfl, cdX11_lower, in_AshGreetingsModel, ⟨by decide, by decide, by decide +kernel⟩, by decide⟩
theorem cvL_162 : CV RL 162 11 mX11_lower 0 := ⟨cbL_162, tb_at (i := 957) (by decide +kernel) rfl, tb_at (i := 958) (by decide +kernel) rfl, _, _, cfX11⟩
theorem cdX10_count : Cond.code yX10_count cX10_count 2 (some .int) ∈ tb := tb_at (i := 809) (by decide +kernel) rfl
theorem cbL_163 : CB RL 163 mX10_count 1 := ⟨tb_at (i := 806) (by decide +kernel) rfl, cdX10_count, in_AshGreetings, ⟨by decide, by decide, by decide +kernel⟩, by decide⟩
theorem cvL_163 : CV RL 163 10 mX10_count 1 := ⟨cbL_163, tb_at (i := 807) (by decide +kernel) rfl, tb_at (i := 808) (by decide +kernel) rfl, _, _, cfX10⟩
theorem cdX11_count : Cond.code yX11_count cX11_count 2 (some .int) ∈ tb := tb_at (i := 1277) (by decide +kernel) rfl
theorem cbL_166 : CB RL 166 mX11_count 1 := ⟨tb_at (i := 1274) (by decide +kernel) rfl, cdX11_count, in_AshGreetingsModel, ⟨by decide, by decide, by decide +kernel⟩, by decide⟩
theorem cvL_166 : CV RL 166 11 mX11_count 1 := ⟨cbL_166, tb_at (i := 1275) (by decide +kernel) rfl, tb_at (i := 1276) (by decide +kernel) rfl, _, _, cfX11⟩
theorem cdX10_finding : Cond.code yX10_finding cX10_finding 1 (some .int) ∈ tb := tb_at (i := 836) (by decide +kernel) rfl
theorem cbL_167 : CB RL 167 mX10_finding 0 := ⟨tb_at (i := 833) (by decide +kernel) rfl, cdX10_finding, in_AshGreetings, ⟨by decide, by decide, by decide +kernel⟩, by decide⟩
theorem cvL_167 : CV RL 167 10 mX10_finding 0 := ⟨cbL_167, tb_at (i := 834) (by decide +kernel) rfl, tb_at (i := 835) (by decide +kernel) rfl, _, _, cfX10⟩
theorem cdX11_finding : Cond.code yX11_finding cX11_finding 1 (some .int) ∈ tb := tb_at (i := 963) (by decide +kernel) rfl
theorem cbL_170 : CB RL 170 mX11_finding 0 := ⟨tb_at (i := 960) (by decide +kernel) rfl, cdX11_finding, in_AshGreetingsModel, ⟨by decide, by decide, by decide +kernel⟩, by decide⟩
theorem cvL_170 : CV RL 170 11 mX11_finding 0 := ⟨cbL_170, tb_at (i := 961) (by decide +kernel) rfl, tb_at (i := 962) (by decide +kernel) rfl, _, _, cfX11⟩
theorem cdX10_findings : Cond.code yX10_findings cX10_findings 2 (some .int) ∈ tb := tb_at (i := 840) (by decide +kernel) rfl
theorem cbL_171 : CB RL 171 mX10_findings 1 := ⟨tb_at (i := 837) (by decide +kernel) rfl, cdX10_findings, in_AshGreetings, ⟨by decide, by decide, by decide +kernel⟩, by decide⟩
theorem cvL_171 : CV RL 171 10 mX10_findings 1 := ⟨cbL_171, tb_at (i := 838) (by decide +kernel) rfl, tb_at (i := 839) (by decide +kernel) rfl, _, _, cfX10⟩
theorem cdX11_findings : Cond.code yX11_findings cX11_findings 2 (some .int) ∈ tb := tb_at (i := 967) (by decide +kernel) rfl
theorem cbL_174 : CB RL 174 mX11_findings 1 := ⟨tb_at (i := 964) (by decide +kernel) rfl, cdX11_findings, in_AshGreetingsModel, ⟨by decide, by decide, by decide +kernel⟩, by decide⟩
theorem cvL_174 : CV RL 174 11 mX11_findings 1 := ⟨cbL_174, tb_at (i := 965) (by decide +kernel) rfl, tb_at (i := 966) (by decide +kernel) rfl, _, _, cfX11⟩
theorem cdX10_digest : Cond.code yX10_digest cX10_digest 5 (some .long) ∈ tb := tb_at (i := 844) (by decide +kernel) rfl
theorem cbL_175 : CB RL 175 mX10_digest 0 := ⟨tb_at (i := 841) (by decide +kernel) rfl, cdX10_digest, in_AshGreetings, ⟨by decide, by decide, by decide +kernel⟩, by decide⟩
theorem cvL_175 : CV RL 175 10 mX10_digest 0 := ⟨cbL_175, tb_at (i := 842) (by decide +kernel) rfl, tb_at (i := 843) (by decide +kernel) rfl, _, _, cfX10⟩
theorem cdX11_digest : Cond.code yX11_digest cX11_digest 3 (some .long) ∈ tb := tb_at (i := 1285) (by decide +kernel) rfl
theorem cbL_178 : CB RL 178 mX11_digest 0 := ⟨tb_at (i := 1282) (by decide +kernel) rfl, cdX11_digest, in_AshGreetingsModel, ⟨by decide, by decide, by decide +kernel⟩, by decide⟩
theorem cvL_178 : CV RL 178 11 mX11_digest 0 := ⟨cbL_178, tb_at (i := 1283) (by decide +kernel) rfl, tb_at (i := 1284) (by decide +kernel) rfl, _, _, cfX11⟩
theorem cdX8_init : Cond.code yX8_init cX8_init 1 none ∈ tb := tb_at (i := 130) (by decide +kernel) rfl
theorem in_AshGreetings_Stubborn : Cond.initialized "AshGreetings$Stubborn" ∈ tb := tb_at (i := 70) (by decide +kernel) rfl
theorem cbX0_1 : CB RX0 1 mX8_init 0 := ⟨tb_at (i := 152) (by decide +kernel) rfl, cdX8_init, in_AshGreetings_Stubborn, ⟨by decide, by decide, by decide +kernel⟩, by decide⟩
theorem ciX0_1 : CB RX0 1 mX8_init 0 ∧ yX8_init.name = "<init>" ∧ Cond.instanceMethod yX8_init ∈ tb := ⟨cbX0_1, rfl, tb_at (i := 129) (by decide +kernel) rfl⟩
theorem cdX2_init : Cond.code yX2_init cX2_init 1 none ∈ tb := tb_at (i := 116) (by decide +kernel) rfl
theorem in_AshGreetings_Neighbour : Cond.initialized "AshGreetings$Neighbour" ∈ tb := tb_at (i := 68) (by decide +kernel) rfl
theorem cbX1_1 : CB RX1 1 mX2_init 0 := ⟨tb_at (i := 124) (by decide +kernel) rfl, cdX2_init, in_AshGreetings_Neighbour, ⟨by decide, by decide, by decide +kernel⟩, by decide⟩
theorem ciX1_1 : CB RX1 1 mX2_init 0 ∧ yX2_init.name = "<init>" ∧ Cond.instanceMethod yX2_init ∈ tb := ⟨cbX1_1, rfl, tb_at (i := 115) (by decide +kernel) rfl⟩
theorem cdX5_init : Cond.code yX5_init cX5_init 1 none ∈ tb := tb_at (i := 94) (by decide +kernel) rfl
theorem in_AshGreetings_Reading : Cond.initialized "AshGreetings$Reading" ∈ tb := tb_at (i := 66) (by decide +kernel) rfl
theorem cbX10_20 : CB RX10 20 mX5_init 0 := ⟨tb_at (i := 92) (by decide +kernel) rfl, cdX5_init, in_AshGreetings_Reading, ⟨by decide, by decide, by decide +kernel⟩, by decide⟩
theorem ciX10_20 : CB RX10 20 mX5_init 0 ∧ yX5_init.name = "<init>" ∧ Cond.instanceMethod yX5_init ∈ tb := ⟨cbX10_20, rfl, tb_at (i := 93) (by decide +kernel) rfl⟩
theorem cdX9_init : Cond.code yX9_init cX9_init 1 none ∈ tb := tb_at (i := 109) (by decide +kernel) rfl
theorem in_AshGreetings_Town : Cond.initialized "AshGreetings$Town" ∈ tb := tb_at (i := 67) (by decide +kernel) rfl
theorem cbX10_27 : CB RX10 27 mX9_init 0 := ⟨tb_at (i := 107) (by decide +kernel) rfl, cdX9_init, in_AshGreetings_Town, ⟨by decide, by decide, by decide +kernel⟩, by decide⟩
theorem ciX10_27 : CB RX10 27 mX9_init 0 ∧ yX9_init.name = "<init>" ∧ Cond.instanceMethod yX9_init ∈ tb := ⟨cbX10_27, rfl, tb_at (i := 108) (by decide +kernel) rfl⟩
theorem cdX3_init : Cond.code yX3_init cX3_init 1 none ∈ tb := tb_at (i := 222) (by decide +kernel) rfl
theorem in_AshGreetings_Outlook : Cond.initialized "AshGreetings$Outlook" ∈ tb := tb_at (i := 74) (by decide +kernel) rfl
theorem cbX10_38 : CB RX10 38 mX3_init 0 := ⟨tb_at (i := 220) (by decide +kernel) rfl, cdX3_init, in_AshGreetings_Outlook, ⟨by decide, by decide, by decide +kernel⟩, by decide⟩
theorem ciX10_38 : CB RX10 38 mX3_init 0 ∧ yX3_init.name = "<init>" ∧ Cond.instanceMethod yX3_init ∈ tb := ⟨cbX10_38, rfl, tb_at (i := 221) (by decide +kernel) rfl⟩
theorem cdX7_init : Cond.code yX7_init cX7_init 2 none ∈ tb := tb_at (i := 267) (by decide +kernel) rfl
theorem in_AshGreetings_Strip : Cond.initialized "AshGreetings$Strip" ∈ tb := tb_at (i := 75) (by decide +kernel) rfl
theorem cbX10_61 : CB RX10 61 mX7_init 1 := ⟨tb_at (i := 265) (by decide +kernel) rfl, cdX7_init, in_AshGreetings_Strip, ⟨by decide, by decide, by decide +kernel⟩, by decide⟩
theorem ciX10_61 : CB RX10 61 mX7_init 1 ∧ yX7_init.name = "<init>" ∧ Cond.instanceMethod yX7_init ∈ tb := ⟨cbX10_61, rfl, tb_at (i := 266) (by decide +kernel) rfl⟩
theorem cdX10_isRow : Cond.code yX10_isRow cX10_isRow 2 (some .boolean) ∈ tb := tb_at (i := 326) (by decide +kernel) rfl
theorem cbX10_64 : CB RX10 64 mX10_isRow 1 := ⟨tb_at (i := 323) (by decide +kernel) rfl, cdX10_isRow, in_AshGreetings, ⟨by decide, by decide, by decide +kernel⟩, by decide⟩
theorem cvX10_64 : CV RX10 64 10 mX10_isRow 1 := ⟨cbX10_64, tb_at (i := 325) (by decide +kernel) rfl, tb_at (i := 0) (by decide +kernel) rfl, _, _, cfX10⟩
theorem cdX10_foundOut : Cond.code yX10_foundOut cX10_foundOut 2 (some .int) ∈ tb := tb_at (i := 330) (by decide +kernel) rfl
theorem cbX10_68 : CB RX10 68 mX10_foundOut 1 := ⟨tb_at (i := 327) (by decide +kernel) rfl, cdX10_foundOut, in_AshGreetings, ⟨by decide, by decide, by decide +kernel⟩, by decide⟩
theorem cvX10_68 : CV RX10 68 10 mX10_foundOut 1 := ⟨cbX10_68, tb_at (i := 329) (by decide +kernel) rfl, tb_at (i := 1) (by decide +kernel) rfl, _, _, cfX10⟩
theorem cdX7_open : Cond.code yX7_open cX7_open 3 none ∈ tb := tb_at (i := 334) (by decide +kernel) rfl
theorem cbX10_72 : CB RX10 72 mX7_open 2 := ⟨tb_at (i := 331) (by decide +kernel) rfl, cdX7_open, in_AshGreetings_Strip, ⟨by decide, by decide, by decide +kernel⟩, by decide⟩
theorem cvX10_72 : CV RX10 72 7 mX7_open 2 := ⟨cbX10_72, tb_at (i := 332) (by decide +kernel) rfl, tb_at (i := 333) (by decide +kernel) rfl, _, _, cfX7⟩
theorem cdX10_refusalOfPlace : Cond.code yX10_refusalOfPlace cX10_refusalOfPlace 3 (some .int) ∈ tb := tb_at (i := 348) (by decide +kernel) rfl
theorem cbX10_76 : CB RX10 76 mX10_refusalOfPlace 2 := ⟨tb_at (i := 345) (by decide +kernel) rfl, cdX10_refusalOfPlace, in_AshGreetings, ⟨by decide, by decide, by decide +kernel⟩, by decide⟩
theorem cvX10_76 : CV RX10 76 10 mX10_refusalOfPlace 2 := ⟨cbX10_76, tb_at (i := 347) (by decide +kernel) rfl, tb_at (i := 2) (by decide +kernel) rfl, _, _, cfX10⟩
theorem cdX7_isThere : Cond.code yX7_isThere cX7_isThere 1 (some .boolean) ∈ tb := tb_at (i := 352) (by decide +kernel) rfl
theorem cbX10_83 : CB RX10 83 mX7_isThere 0 := ⟨tb_at (i := 349) (by decide +kernel) rfl, cdX7_isThere, in_AshGreetings_Strip, ⟨by decide, by decide, by decide +kernel⟩, by decide⟩
theorem cvX10_83 : CV RX10 83 7 mX7_isThere 0 := ⟨cbX10_83, tb_at (i := 350) (by decide +kernel) rfl, tb_at (i := 351) (by decide +kernel) rfl, _, _, cfX7⟩
theorem cdX7_close : Cond.code yX7_close cX7_close 1 none ∈ tb := tb_at (i := 368) (by decide +kernel) rfl
theorem cbX10_87 : CB RX10 87 mX7_close 0 := ⟨tb_at (i := 365) (by decide +kernel) rfl, cdX7_close, in_AshGreetings_Strip, ⟨by decide, by decide, by decide +kernel⟩, by decide⟩
theorem cvX10_87 : CV RX10 87 7 mX7_close 0 := ⟨cbX10_87, tb_at (i := 366) (by decide +kernel) rfl, tb_at (i := 367) (by decide +kernel) rfl, _, _, cfX7⟩
theorem cdX7_hasRun : Cond.code yX7_hasRun cX7_hasRun 3 (some .boolean) ∈ tb := tb_at (i := 376) (by decide +kernel) rfl
theorem cbX10_90 : CB RX10 90 mX7_hasRun 2 := ⟨tb_at (i := 373) (by decide +kernel) rfl, cdX7_hasRun, in_AshGreetings_Strip, ⟨by decide, by decide, by decide +kernel⟩, by decide⟩
theorem cvX10_90 : CV RX10 90 7 mX7_hasRun 2 := ⟨cbX10_90, tb_at (i := 374) (by decide +kernel) rfl, tb_at (i := 375) (by decide +kernel) rfl, _, _, cfX7⟩
theorem cdX7_total : Cond.code yX7_total cX7_total 4 (some .long) ∈ tb := tb_at (i := 387) (by decide +kernel) rfl
theorem cbX10_103 : CB RX10 103 mX7_total 0 := ⟨tb_at (i := 384) (by decide +kernel) rfl, cdX7_total, in_AshGreetings_Strip, ⟨by decide, by decide, by decide +kernel⟩, by decide⟩
theorem cvX10_103 : CV RX10 103 7 mX7_total 0 := ⟨cbX10_103, tb_at (i := 385) (by decide +kernel) rfl, tb_at (i := 386) (by decide +kernel) rfl, _, _, cfX7⟩
theorem cdX10_isText : Cond.code yX10_isText cX10_isText 2 (some .boolean) ∈ tb := tb_at (i := 395) (by decide +kernel) rfl
theorem cbX10_107 : CB RX10 107 mX10_isText 1 := ⟨tb_at (i := 392) (by decide +kernel) rfl, cdX10_isText, in_AshGreetings, ⟨by decide, by decide, by decide +kernel⟩, by decide⟩
theorem cvX10_107 : CV RX10 107 10 mX10_isText 1 := ⟨cbX10_107, tb_at (i := 394) (by decide +kernel) rfl, tb_at (i := 3) (by decide +kernel) rfl, _, _, cfX10⟩
theorem cdX5_faultOf : Cond.code yX5_faultOf cX5_faultOf 5 (some .int) ∈ tb := tb_at (i := 407) (by decide +kernel) rfl
theorem cbX10_110 : CB RX10 110 mX5_faultOf 1 := ⟨tb_at (i := 404) (by decide +kernel) rfl, cdX5_faultOf, in_AshGreetings_Reading, ⟨by decide, by decide, by decide +kernel⟩, by decide⟩
theorem cvX10_110 : CV RX10 110 5 mX5_faultOf 1 := ⟨cbX10_110, tb_at (i := 405) (by decide +kernel) rfl, tb_at (i := 406) (by decide +kernel) rfl, _, _, cfX5⟩
theorem cdX9_settle : Cond.code yX9_settle cX9_settle 4 none ∈ tb := tb_at (i := 431) (by decide +kernel) rfl
theorem cbX10_114 : CB RX10 114 mX9_settle 1 := ⟨tb_at (i := 428) (by decide +kernel) rfl, cdX9_settle, in_AshGreetings_Town, ⟨by decide, by decide, by decide +kernel⟩, by decide⟩
theorem cvX10_114 : CV RX10 114 9 mX9_settle 1 := ⟨cbX10_114, tb_at (i := 429) (by decide +kernel) rfl, tb_at (i := 430) (by decide +kernel) rfl, _, _, cfX9⟩
theorem cdX10_isPerson : Cond.code yX10_isPerson cX10_isPerson 2 (some .boolean) ∈ tb := tb_at (i := 451) (by decide +kernel) rfl
theorem cbX10_121 : CB RX10 121 mX10_isPerson 1 := ⟨tb_at (i := 448) (by decide +kernel) rfl, cdX10_isPerson, in_AshGreetings, ⟨by decide, by decide, by decide +kernel⟩, by decide⟩
theorem cvX10_121 : CV RX10 121 10 mX10_isPerson 1 := ⟨cbX10_121, tb_at (i := 450) (by decide +kernel) rfl, tb_at (i := 7) (by decide +kernel) rfl, _, _, cfX10⟩
theorem cdX9_factOf : Cond.code yX9_factOf cX9_factOf 3 (some .int) ∈ tb := tb_at (i := 455) (by decide +kernel) rfl
theorem cbX10_124 : CB RX10 124 mX9_factOf 2 := ⟨tb_at (i := 452) (by decide +kernel) rfl, cdX9_factOf, in_AshGreetings_Town, ⟨by decide, by decide, by decide +kernel⟩, by decide⟩
theorem cvX10_124 : CV RX10 124 9 mX9_factOf 2 := ⟨cbX10_124, tb_at (i := 453) (by decide +kernel) rfl, tb_at (i := 454) (by decide +kernel) rfl, _, _, cfX9⟩
theorem cdX10_isStreet : Cond.code yX10_isStreet cX10_isStreet 2 (some .boolean) ∈ tb := tb_at (i := 487) (by decide +kernel) rfl
theorem cbX10_128 : CB RX10 128 mX10_isStreet 1 := ⟨tb_at (i := 484) (by decide +kernel) rfl, cdX10_isStreet, in_AshGreetings, ⟨by decide, by decide, by decide +kernel⟩, by decide⟩
theorem cvX10_128 : CV RX10 128 10 mX10_isStreet 1 := ⟨cbX10_128, tb_at (i := 486) (by decide +kernel) rfl, tb_at (i := 8) (by decide +kernel) rfl, _, _, cfX10⟩
theorem cdX9_hasPeople : Cond.code yX9_hasPeople cX9_hasPeople 1 (some .boolean) ∈ tb := tb_at (i := 491) (by decide +kernel) rfl
theorem cbX10_131 : CB RX10 131 mX9_hasPeople 0 := ⟨tb_at (i := 488) (by decide +kernel) rfl, cdX9_hasPeople, in_AshGreetings_Town, ⟨by decide, by decide, by decide +kernel⟩, by decide⟩
theorem cvX10_131 : CV RX10 131 9 mX9_hasPeople 0 := ⟨cbX10_131, tb_at (i := 489) (by decide +kernel) rfl, tb_at (i := 490) (by decide +kernel) rfl, _, _, cfX9⟩
theorem cdX9_crowdIn : Cond.code yX9_crowdIn cX9_crowdIn 4 (some .int) ∈ tb := tb_at (i := 495) (by decide +kernel) rfl
theorem cbX10_134 : CB RX10 134 mX9_crowdIn 1 := ⟨tb_at (i := 492) (by decide +kernel) rfl, cdX9_crowdIn, in_AshGreetings_Town, ⟨by decide, by decide, by decide +kernel⟩, by decide⟩
theorem cvX10_134 : CV RX10 134 9 mX9_crowdIn 1 := ⟨cbX10_134, tb_at (i := 493) (by decide +kernel) rfl, tb_at (i := 494) (by decide +kernel) rfl, _, _, cfX9⟩
theorem cdX9_sortOf : Cond.code yX9_sortOf cX9_sortOf 2 (some (.object "AshGreetings$Neighbour")) ∈ tb := tb_at (i := 463) (by decide +kernel) rfl
theorem cbX10_140 : CB RX10 140 mX9_sortOf 1 := ⟨tb_at (i := 500) (by decide +kernel) rfl, cdX9_sortOf, in_AshGreetings_Town, ⟨by decide, by decide, by decide +kernel⟩, by decide⟩
theorem cvX10_140 : CV RX10 140 9 mX9_sortOf 1 := ⟨cbX10_140, tb_at (i := 461) (by decide +kernel) rfl, tb_at (i := 462) (by decide +kernel) rfl, _, _, cfX9⟩
theorem cdX10_isOfKind : Cond.code yX10_isOfKind cX10_isOfKind 3 (some .boolean) ∈ tb := tb_at (i := 504) (by decide +kernel) rfl
theorem cbX10_144 : CB RX10 144 mX10_isOfKind 2 := ⟨tb_at (i := 501) (by decide +kernel) rfl, cdX10_isOfKind, in_AshGreetings, ⟨by decide, by decide, by decide +kernel⟩, by decide⟩
theorem cvX10_144 : CV RX10 144 10 mX10_isOfKind 2 := ⟨cbX10_144, tb_at (i := 503) (by decide +kernel) rfl, tb_at (i := 9) (by decide +kernel) rfl, _, _, cfX10⟩
theorem cdX2_forgiveness : Cond.code yX2_forgiveness cX2_forgiveness 2 (some .int) ∈ tb := tb_at (i := 523) (by decide +kernel) rfl
theorem cuX10_154_2 : CU RX10 154 2 yX2_forgiveness mX2_forgiveness 1 := ⟨tb_at (i := 510) (by decide +kernel) rfl, tb_at (i := 513) (by decide +kernel) rfl, tb_at (i := 512) (by decide +kernel) rfl, tb_at (i := 511) (by decide +kernel) rfl, in_AshGreetings_Neighbour, cdX2_forgiveness, ⟨by decide, by decide, by decide +kernel⟩, by decide, Or.inl rfl, _, _, cfX2⟩
theorem cdX1_forgiveness : Cond.code yX1_forgiveness cX1_forgiveness 2 (some .int) ∈ tb := tb_at (i := 519) (by decide +kernel) rfl
theorem in_AshGreetings_Devout : Cond.initialized "AshGreetings$Devout" ∈ tb := tb_at (i := 69) (by decide +kernel) rfl
theorem cuX10_154_1 : CU RX10 154 1 yX2_forgiveness mX1_forgiveness 1 := ⟨tb_at (i := 510) (by decide +kernel) rfl, tb_at (i := 513) (by decide +kernel) rfl, tb_at (i := 517) (by decide +kernel) rfl, tb_at (i := 518) (by decide +kernel) rfl, in_AshGreetings_Devout, cdX1_forgiveness, ⟨by decide, by decide, by decide +kernel⟩, by decide, Or.inr ⟨tb_at (i := 511) (by decide +kernel) rfl, _, _, _, cdX2_forgiveness⟩, _, _, cfX1⟩
theorem cdX8_forgiveness : Cond.code yX8_forgiveness cX8_forgiveness 2 (some .int) ∈ tb := tb_at (i := 516) (by decide +kernel) rfl
theorem cuX10_154_8 : CU RX10 154 8 yX2_forgiveness mX8_forgiveness 1 := ⟨tb_at (i := 510) (by decide +kernel) rfl, tb_at (i := 513) (by decide +kernel) rfl, tb_at (i := 522) (by decide +kernel) rfl, tb_at (i := 515) (by decide +kernel) rfl, in_AshGreetings_Stubborn, cdX8_forgiveness, ⟨by decide, by decide, by decide +kernel⟩, by decide, Or.inr ⟨tb_at (i := 511) (by decide +kernel) rfl, _, _, _, cdX2_forgiveness⟩, _, _, cfX8⟩
theorem cuX10_154_6 : CU RX10 154 6 yX2_forgiveness mX2_forgiveness 1 := ⟨tb_at (i := 510) (by decide +kernel) rfl, tb_at (i := 513) (by decide +kernel) rfl, tb_at (i := 521) (by decide +kernel) rfl, tb_at (i := 511) (by decide +kernel) rfl, in_AshGreetings_Neighbour, cdX2_forgiveness, ⟨by decide, by decide, by decide +kernel⟩, by decide, Or.inl rfl, _, _, cfX6⟩
theorem cuX10_154_4 : CU RX10 154 4 yX2_forgiveness mX1_forgiveness 1 := ⟨tb_at (i := 510) (by decide +kernel) rfl, tb_at (i := 513) (by decide +kernel) rfl, tb_at (i := 520) (by decide +kernel) rfl, tb_at (i := 518) (by decide +kernel) rfl, in_AshGreetings_Devout, cdX1_forgiveness, ⟨by decide, by decide, by decide +kernel⟩, by decide, Or.inr ⟨tb_at (i := 511) (by decide +kernel) rfl, _, _, _, cdX2_forgiveness⟩, _, _, cfX4⟩
theorem cuX10_154_0 : CU RX10 154 0 yX2_forgiveness mX8_forgiveness 1 := ⟨tb_at (i := 510) (by decide +kernel) rfl, tb_at (i := 513) (by decide +kernel) rfl, tb_at (i := 514) (by decide +kernel) rfl, tb_at (i := 515) (by decide +kernel) rfl, in_AshGreetings_Stubborn, cdX8_forgiveness, ⟨by decide, by decide, by decide +kernel⟩, by decide, Or.inr ⟨tb_at (i := 511) (by decide +kernel) rfl, _, _, _, cdX2_forgiveness⟩, _, _, cfX0⟩
theorem cdX2_seenAs : Cond.code yX2_seenAs cX2_seenAs 2 (some .int) ∈ tb := tb_at (i := 475) (by decide +kernel) rfl
theorem cuX10_162_2 : CU RX10 162 2 yX2_seenAs mX2_seenAs 1 := ⟨tb_at (i := 524) (by decide +kernel) rfl, tb_at (i := 467) (by decide +kernel) rfl, tb_at (i := 466) (by decide +kernel) rfl, tb_at (i := 465) (by decide +kernel) rfl, in_AshGreetings_Neighbour, cdX2_seenAs, ⟨by decide, by decide, by decide +kernel⟩, by decide, Or.inl rfl, _, _, cfX2⟩
theorem cuX10_162_1 : CU RX10 162 1 yX2_seenAs mX2_seenAs 1 := ⟨tb_at (i := 524) (by decide +kernel) rfl, tb_at (i := 467) (by decide +kernel) rfl, tb_at (i := 469) (by decide +kernel) rfl, tb_at (i := 465) (by decide +kernel) rfl, in_AshGreetings_Neighbour, cdX2_seenAs, ⟨by decide, by decide, by decide +kernel⟩, by decide, Or.inl rfl, _, _, cfX1⟩
theorem cuX10_162_8 : CU RX10 162 8 yX2_seenAs mX2_seenAs 1 := ⟨tb_at (i := 524) (by decide +kernel) rfl, tb_at (i := 467) (by decide +kernel) rfl, tb_at (i := 474) (by decide +kernel) rfl, tb_at (i := 465) (by decide +kernel) rfl, in_AshGreetings_Neighbour, cdX2_seenAs, ⟨by decide, by decide, by decide +kernel⟩, by decide, Or.inl rfl, _, _, cfX8⟩
theorem cdX6_seenAs : Cond.code yX6_seenAs cX6_seenAs 2 (some .int) ∈ tb := tb_at (i := 473) (by decide +kernel) rfl
theorem in_AshGreetings_ShortOne : Cond.initialized "AshGreetings$ShortOne" ∈ tb := tb_at (i := 71) (by decide +kernel) rfl
theorem cuX10_162_6 : CU RX10 162 6 yX2_seenAs mX6_seenAs 1 := ⟨tb_at (i := 524) (by decide +kernel) rfl, tb_at (i := 467) (by decide +kernel) rfl, tb_at (i := 471) (by decide +kernel) rfl, tb_at (i := 472) (by decide +kernel) rfl, in_AshGreetings_ShortOne, cdX6_seenAs, ⟨by decide, by decide, by decide +kernel⟩, by decide, Or.inr ⟨tb_at (i := 465) (by decide +kernel) rfl, _, _, _, cdX2_seenAs⟩, _, _, cfX6⟩
theorem cuX10_162_4 : CU RX10 162 4 yX2_seenAs mX2_seenAs 1 := ⟨tb_at (i := 524) (by decide +kernel) rfl, tb_at (i := 467) (by decide +kernel) rfl, tb_at (i := 470) (by decide +kernel) rfl, tb_at (i := 465) (by decide +kernel) rfl, in_AshGreetings_Neighbour, cdX2_seenAs, ⟨by decide, by decide, by decide +kernel⟩, by decide, Or.inl rfl, _, _, cfX4⟩
theorem cuX10_162_0 : CU RX10 162 0 yX2_seenAs mX2_seenAs 1 := ⟨tb_at (i := 524) (by decide +kernel) rfl, tb_at (i := 467) (by decide +kernel) rfl, tb_at (i := 468) (by decide +kernel) rfl, tb_at (i := 465) (by decide +kernel) rfl, in_AshGreetings_Neighbour, cdX2_seenAs, ⟨by decide, by decide, by decide +kernel⟩, by decide, Or.inl rfl, _, _, cfX0⟩
theorem cdX9_facesFoe : Cond.code yX9_facesFoe cX9_facesFoe 2 (some .boolean) ∈ tb := tb_at (i := 528) (by decide +kernel) rfl
theorem cbX10_165 : CB RX10 165 mX9_facesFoe 1 := ⟨tb_at (i := 525) (by decide +kernel) rfl, cdX9_facesFoe, in_AshGreetings_Town, ⟨by decide, by decide, by decide +kernel⟩, by decide⟩
theorem cvX10_165 : CV RX10 165 9 mX9_facesFoe 1 := ⟨cbX10_165, tb_at (i := 526) (by decide +kernel) rfl, tb_at (i := 527) (by decide +kernel) rfl, _, _, cfX9⟩
theorem cdX9_perform : Cond.code yX9_perform cX9_perform 4 none ∈ tb := tb_at (i := 536) (by decide +kernel) rfl
theorem cbX10_171 : CB RX10 171 mX9_perform 3 := ⟨tb_at (i := 533) (by decide +kernel) rfl, cdX9_perform, in_AshGreetings_Town, ⟨by decide, by decide, by decide +kernel⟩, by decide⟩
theorem cvX10_171 : CV RX10 171 9 mX9_perform 3 := ⟨cbX10_171, tb_at (i := 534) (by decide +kernel) rfl, tb_at (i := 535) (by decide +kernel) rfl, _, _, cfX9⟩
theorem cdX9_totalGrudge : Cond.code yX9_totalGrudge cX9_totalGrudge 3 (some .int) ∈ tb := tb_at (i := 589) (by decide +kernel) rfl
theorem cbX10_175 : CB RX10 175 mX9_totalGrudge 0 := ⟨tb_at (i := 586) (by decide +kernel) rfl, cdX9_totalGrudge, in_AshGreetings_Town, ⟨by decide, by decide, by decide +kernel⟩, by decide⟩
theorem cvX10_175 : CV RX10 175 9 mX9_totalGrudge 0 := ⟨cbX10_175, tb_at (i := 587) (by decide +kernel) rfl, tb_at (i := 588) (by decide +kernel) rfl, _, _, cfX9⟩
theorem cdX9_goBackTo : Cond.code yX9_goBackTo cX9_goBackTo 3 none ∈ tb := tb_at (i := 609) (by decide +kernel) rfl
theorem cbX10_182 : CB RX10 182 mX9_goBackTo 1 := ⟨tb_at (i := 606) (by decide +kernel) rfl, cdX9_goBackTo, in_AshGreetings_Town, ⟨by decide, by decide, by decide +kernel⟩, by decide⟩
theorem cvX10_182 : CV RX10 182 9 mX9_goBackTo 1 := ⟨cbX10_182, tb_at (i := 607) (by decide +kernel) rfl, tb_at (i := 608) (by decide +kernel) rfl, _, _, cfX9⟩
theorem cdX10_isKeepingPlace : Cond.code yX10_isKeepingPlace cX10_isKeepingPlace 2 (some .boolean) ∈ tb := tb_at (i := 617) (by decide +kernel) rfl
theorem cbX10_185 : CB RX10 185 mX10_isKeepingPlace 1 := ⟨tb_at (i := 614) (by decide +kernel) rfl, cdX10_isKeepingPlace, in_AshGreetings, ⟨by decide, by decide, by decide +kernel⟩, by decide⟩
theorem cvX10_185 : CV RX10 185 10 mX10_isKeepingPlace 1 := ⟨cbX10_185, tb_at (i := 616) (by decide +kernel) rfl, tb_at (i := 12) (by decide +kernel) rfl, _, _, cfX10⟩
theorem cdX9_become : Cond.code yX9_become cX9_become 2 none ∈ tb := tb_at (i := 621) (by decide +kernel) rfl
theorem cbX10_188 : CB RX10 188 mX9_become 1 := ⟨tb_at (i := 618) (by decide +kernel) rfl, cdX9_become, in_AshGreetings_Town, ⟨by decide, by decide, by decide +kernel⟩, by decide⟩
theorem cvX10_188 : CV RX10 188 9 mX9_become 1 := ⟨cbX10_188, tb_at (i := 619) (by decide +kernel) rfl, tb_at (i := 620) (by decide +kernel) rfl, _, _, cfX9⟩
theorem cdX9_moodOf : Cond.code yX9_moodOf cX9_moodOf 2 (some .int) ∈ tb := tb_at (i := 548) (by decide +kernel) rfl
theorem cbX10_192 : CB RX10 192 mX9_moodOf 1 := ⟨tb_at (i := 634) (by decide +kernel) rfl, cdX9_moodOf, in_AshGreetings_Town, ⟨by decide, by decide, by decide +kernel⟩, by decide⟩
theorem cvX10_192 : CV RX10 192 9 mX9_moodOf 1 := ⟨cbX10_192, tb_at (i := 546) (by decide +kernel) rfl, tb_at (i := 547) (by decide +kernel) rfl, _, _, cfX9⟩
theorem cdX3_lookAt : Cond.code yX3_lookAt cX3_lookAt 2 none ∈ tb := tb_at (i := 642) (by decide +kernel) rfl
theorem cbX10_195 : CB RX10 195 mX3_lookAt 1 := ⟨tb_at (i := 639) (by decide +kernel) rfl, cdX3_lookAt, in_AshGreetings_Outlook, ⟨by decide, by decide, by decide +kernel⟩, by decide⟩
theorem cvX10_195 : CV RX10 195 3 mX3_lookAt 1 := ⟨cbX10_195, tb_at (i := 640) (by decide +kernel) rfl, tb_at (i := 641) (by decide +kernel) rfl, _, _, cfX3⟩
theorem cdX3_totalBehind : Cond.code yX3_totalBehind cX3_totalBehind 3 (some .int) ∈ tb := tb_at (i := 647) (by decide +kernel) rfl
theorem cbX10_198 : CB RX10 198 mX3_totalBehind 1 := ⟨tb_at (i := 644) (by decide +kernel) rfl, cdX3_totalBehind, in_AshGreetings_Outlook, ⟨by decide, by decide, by decide +kernel⟩, by decide⟩
theorem cvX10_198 : CV RX10 198 3 mX3_totalBehind 1 := ⟨cbX10_198, tb_at (i := 645) (by decide +kernel) rfl, tb_at (i := 646) (by decide +kernel) rfl, _, _, cfX3⟩
theorem cdX3_daysTillPeace : Cond.code yX3_daysTillPeace cX3_daysTillPeace 4 (some .int) ∈ tb := tb_at (i := 670) (by decide +kernel) rfl
theorem cbX10_202 : CB RX10 202 mX3_daysTillPeace 0 := ⟨tb_at (i := 667) (by decide +kernel) rfl, cdX3_daysTillPeace, in_AshGreetings_Outlook, ⟨by decide, by decide, by decide +kernel⟩, by decide⟩
theorem cvX10_202 : CV RX10 202 3 mX3_daysTillPeace 0 := ⟨cbX10_202, tb_at (i := 668) (by decide +kernel) rfl, tb_at (i := 669) (by decide +kernel) rfl, _, _, cfX3⟩
theorem cdX10_passOn : Cond.code yX10_passOn cX10_passOn 2 (some .int) ∈ tb := tb_at (i := 675) (by decide +kernel) rfl
theorem cbX10_205 : CB RX10 205 mX10_passOn 1 := ⟨tb_at (i := 672) (by decide +kernel) rfl, cdX10_passOn, in_AshGreetings, ⟨by decide, by decide, by decide +kernel⟩, by decide⟩
theorem cvX10_205 : CV RX10 205 10 mX10_passOn 1 := ⟨cbX10_205, tb_at (i := 674) (by decide +kernel) rfl, tb_at (i := 16) (by decide +kernel) rfl, _, _, cfX10⟩
theorem cdX3_howManyAtPeace : Cond.code yX3_howManyAtPeace cX3_howManyAtPeace 3 (some .int) ∈ tb := tb_at (i := 683) (by decide +kernel) rfl
theorem cbX10_208 : CB RX10 208 mX3_howManyAtPeace 0 := ⟨tb_at (i := 680) (by decide +kernel) rfl, cdX3_howManyAtPeace, in_AshGreetings_Outlook, ⟨by decide, by decide, by decide +kernel⟩, by decide⟩
theorem cvX10_208 : CV RX10 208 3 mX3_howManyAtPeace 0 := ⟨cbX10_208, tb_at (i := 681) (by decide +kernel) rfl, tb_at (i := 682) (by decide +kernel) rfl, _, _, cfX3⟩
theorem cdX3_bestDepth : Cond.code yX3_bestDepth cX3_bestDepth 5 (some .int) ∈ tb := tb_at (i := 691) (by decide +kernel) rfl
theorem cbX10_211 : CB RX10 211 mX3_bestDepth 1 := ⟨tb_at (i := 688) (by decide +kernel) rfl, cdX3_bestDepth, in_AshGreetings_Outlook, ⟨by decide, by decide, by decide +kernel⟩, by decide⟩
theorem cvX10_211 : CV RX10 211 3 mX3_bestDepth 1 := ⟨cbX10_211, tb_at (i := 689) (by decide +kernel) rfl, tb_at (i := 690) (by decide +kernel) rfl, _, _, cfX3⟩
theorem cdX3_bestMove : Cond.code yX3_bestMove cX3_bestMove 8 (some .int) ∈ tb := tb_at (i := 701) (by decide +kernel) rfl
theorem cbX10_214 : CB RX10 214 mX3_bestMove 1 := ⟨tb_at (i := 698) (by decide +kernel) rfl, cdX3_bestMove, in_AshGreetings_Outlook, ⟨by decide, by decide, by decide +kernel⟩, by decide⟩
theorem cvX10_214 : CV RX10 214 3 mX3_bestMove 1 := ⟨cbX10_214, tb_at (i := 699) (by decide +kernel) rfl, tb_at (i := 700) (by decide +kernel) rfl, _, _, cfX3⟩
theorem cdX10_refusalOfRecord : Cond.code yX10_refusalOfRecord cX10_refusalOfRecord 5 (some .int) ∈ tb := tb_at (i := 709) (by decide +kernel) rfl
theorem cbX10_217 : CB RX10 217 mX10_refusalOfRecord 2 := ⟨tb_at (i := 706) (by decide +kernel) rfl, cdX10_refusalOfRecord, in_AshGreetings, ⟨by decide, by decide, by decide +kernel⟩, by decide⟩
theorem cvX10_217 : CV RX10 217 10 mX10_refusalOfRecord 2 := ⟨cbX10_217, tb_at (i := 708) (by decide +kernel) rfl, tb_at (i := 17) (by decide +kernel) rfl, _, _, cfX10⟩
theorem cdX3_kindsThatFit : Cond.code yX3_kindsThatFit cX3_kindsThatFit 6 (some .int) ∈ tb := tb_at (i := 713) (by decide +kernel) rfl
theorem cbX10_220 : CB RX10 220 mX3_kindsThatFit 2 := ⟨tb_at (i := 710) (by decide +kernel) rfl, cdX3_kindsThatFit, in_AshGreetings_Outlook, ⟨by decide, by decide, by decide +kernel⟩, by decide⟩
theorem cvX10_220 : CV RX10 220 3 mX3_kindsThatFit 2 := ⟨cbX10_220, tb_at (i := 711) (by decide +kernel) rfl, tb_at (i := 712) (by decide +kernel) rfl, _, _, cfX3⟩
theorem cdX3_heightsThatFit : Cond.code yX3_heightsThatFit cX3_heightsThatFit 6 (some .int) ∈ tb := tb_at (i := 725) (by decide +kernel) rfl
theorem cbX10_224 : CB RX10 224 mX3_heightsThatFit 2 := ⟨tb_at (i := 722) (by decide +kernel) rfl, cdX3_heightsThatFit, in_AshGreetings_Outlook, ⟨by decide, by decide, by decide +kernel⟩, by decide⟩
theorem cvX10_224 : CV RX10 224 3 mX3_heightsThatFit 2 := ⟨cbX10_224, tb_at (i := 723) (by decide +kernel) rfl, tb_at (i := 724) (by decide +kernel) rfl, _, _, cfX3⟩
theorem cdX3_bestLook : Cond.code yX3_bestLook cX3_bestLook 7 (some .int) ∈ tb := tb_at (i := 733) (by decide +kernel) rfl
theorem cbX10_227 : CB RX10 227 mX3_bestLook 2 := ⟨tb_at (i := 730) (by decide +kernel) rfl, cdX3_bestLook, in_AshGreetings_Outlook, ⟨by decide, by decide, by decide +kernel⟩, by decide⟩
theorem cvX10_227 : CV RX10 227 3 mX3_bestLook 2 := ⟨cbX10_227, tb_at (i := 731) (by decide +kernel) rfl, tb_at (i := 732) (by decide +kernel) rfl, _, _, cfX3⟩
theorem cdX10_areChances : Cond.code yX10_areChances cX10_areChances 3 (some .boolean) ∈ tb := tb_at (i := 764) (by decide +kernel) rfl
theorem cbX10_233 : CB RX10 233 mX10_areChances 2 := ⟨tb_at (i := 761) (by decide +kernel) rfl, cdX10_areChances, in_AshGreetings, ⟨by decide, by decide, by decide +kernel⟩, by decide⟩
theorem cvX10_233 : CV RX10 233 10 mX10_areChances 2 := ⟨cbX10_233, tb_at (i := 763) (by decide +kernel) rfl, tb_at (i := 23) (by decide +kernel) rfl, _, _, cfX10⟩
theorem cdX3_weighWinds : Cond.code yX3_weighWinds cX3_weighWinds 9 none ∈ tb := tb_at (i := 768) (by decide +kernel) rfl
theorem cbX10_236 : CB RX10 236 mX3_weighWinds 3 := ⟨tb_at (i := 765) (by decide +kernel) rfl, cdX3_weighWinds, in_AshGreetings_Outlook, ⟨by decide, by decide, by decide +kernel⟩, by decide⟩
theorem cvX10_236 : CV RX10 236 3 mX3_weighWinds 3 := ⟨cbX10_236, tb_at (i := 766) (by decide +kernel) rfl, tb_at (i := 767) (by decide +kernel) rfl, _, _, cfX3⟩
theorem cdX10_tellInLowestTerms : Cond.code yX10_tellInLowestTerms cX10_tellInLowestTerms 7 none ∈ tb := tb_at (i := 773) (by decide +kernel) rfl
theorem cbX10_245 : CB RX10 245 mX10_tellInLowestTerms 2 := ⟨tb_at (i := 770) (by decide +kernel) rfl, cdX10_tellInLowestTerms, in_AshGreetings, ⟨by decide, by decide, by decide +kernel⟩, by decide⟩
theorem cvX10_245 : CV RX10 245 10 mX10_tellInLowestTerms 2 := ⟨cbX10_245, tb_at (i := 772) (by decide +kernel) rfl, tb_at (i := 24) (by decide +kernel) rfl, _, _, cfX10⟩
theorem cdX10_performByLot : Cond.code yX10_performByLot cX10_performByLot 6 none ∈ tb := tb_at (i := 790) (by decide +kernel) rfl
theorem cbX10_256 : CB RX10 256 mX10_performByLot 1 := ⟨tb_at (i := 787) (by decide +kernel) rfl, cdX10_performByLot, in_AshGreetings, ⟨by decide, by decide, by decide +kernel⟩, by decide⟩
theorem cvX10_256 : CV RX10 256 10 mX10_performByLot 1 := ⟨cbX10_256, tb_at (i := 789) (by decide +kernel) rfl, tb_at (i := 25) (by decide +kernel) rfl, _, _, cfX10⟩
theorem cdX9_whoIsHid : Cond.code yX9_whoIsHid cX9_whoIsHid 3 (some .int) ∈ tb := tb_at (i := 813) (by decide +kernel) rfl
theorem cbX10_260 : CB RX10 260 mX9_whoIsHid 0 := ⟨tb_at (i := 810) (by decide +kernel) rfl, cdX9_whoIsHid, in_AshGreetings_Town, ⟨by decide, by decide, by decide +kernel⟩, by decide⟩
theorem cvX10_260 : CV RX10 260 9 mX9_whoIsHid 0 := ⟨cbX10_260, tb_at (i := 811) (by decide +kernel) rfl, tb_at (i := 812) (by decide +kernel) rfl, _, _, cfX9⟩
theorem cdX9_whoIsAtPeace : Cond.code yX9_whoIsAtPeace cX9_whoIsAtPeace 3 (some .int) ∈ tb := tb_at (i := 817) (by decide +kernel) rfl
theorem cbX10_263 : CB RX10 263 mX9_whoIsAtPeace 0 := ⟨tb_at (i := 814) (by decide +kernel) rfl, cdX9_whoIsAtPeace, in_AshGreetings_Town, ⟨by decide, by decide, by decide +kernel⟩, by decide⟩
theorem cvX10_263 : CV RX10 263 9 mX9_whoIsAtPeace 0 := ⟨cbX10_263, tb_at (i := 815) (by decide +kernel) rfl, tb_at (i := 816) (by decide +kernel) rfl, _, _, cfX9⟩
theorem cdX9_totalDeep : Cond.code yX9_totalDeep cX9_totalDeep 3 (some .int) ∈ tb := tb_at (i := 821) (by decide +kernel) rfl
theorem cbX10_266 : CB RX10 266 mX9_totalDeep 0 := ⟨tb_at (i := 818) (by decide +kernel) rfl, cdX9_totalDeep, in_AshGreetings_Town, ⟨by decide, by decide, by decide +kernel⟩, by decide⟩
theorem cvX10_266 : CV RX10 266 9 mX9_totalDeep 0 := ⟨cbX10_266, tb_at (i := 819) (by decide +kernel) rfl, tb_at (i := 820) (by decide +kernel) rfl, _, _, cfX9⟩
theorem cdX10_howManyAreThere : Cond.code yX10_howManyAreThere cX10_howManyAreThere 6 (some .int) ∈ tb := tb_at (i := 824) (by decide +kernel) rfl
theorem cbX10_269 : CB RX10 269 mX10_howManyAreThere 1 := ⟨tb_at (i := 822) (by decide +kernel) rfl, cdX10_howManyAreThere, in_AshGreetings, ⟨by decide, by decide, by decide +kernel⟩, by decide⟩
theorem csX10_269 : CB RX10 269 mX10_howManyAreThere 1 ∧ Cond.static yX10_howManyAreThere ∈ tb := ⟨cbX10_269, tb_at (i := 823) (by decide +kernel) rfl⟩
theorem cdX10_howManyAreKept : Cond.code yX10_howManyAreKept cX10_howManyAreKept 3 (some .int) ∈ tb := tb_at (i := 828) (by decide +kernel) rfl
theorem cbX10_273 : CB RX10 273 mX10_howManyAreKept 0 := ⟨tb_at (i := 825) (by decide +kernel) rfl, cdX10_howManyAreKept, in_AshGreetings, ⟨by decide, by decide, by decide +kernel⟩, by decide⟩
theorem cvX10_273 : CV RX10 273 10 mX10_howManyAreKept 0 := ⟨cbX10_273, tb_at (i := 827) (by decide +kernel) rfl, tb_at (i := 26) (by decide +kernel) rfl, _, _, cfX10⟩
theorem cdX10_howManyOfKind : Cond.code yX10_howManyOfKind cX10_howManyOfKind 4 (some .int) ∈ tb := tb_at (i := 832) (by decide +kernel) rfl
theorem cbX10_276 : CB RX10 276 mX10_howManyOfKind 1 := ⟨tb_at (i := 829) (by decide +kernel) rfl, cdX10_howManyOfKind, in_AshGreetings, ⟨by decide, by decide, by decide +kernel⟩, by decide⟩
theorem cvX10_276 : CV RX10 276 10 mX10_howManyOfKind 1 := ⟨cbX10_276, tb_at (i := 831) (by decide +kernel) rfl, tb_at (i := 27) (by decide +kernel) rfl, _, _, cfX10⟩
theorem cbX10_283 : CB RX10 283 mX10_count 1 := ⟨tb_at (i := 847) (by decide +kernel) rfl, cdX10_count, in_AshGreetings, ⟨by decide, by decide, by decide +kernel⟩, by decide⟩
theorem cvX10_283 : CV RX10 283 10 mX10_count 1 := ⟨cbX10_283, tb_at (i := 807) (by decide +kernel) rfl, tb_at (i := 808) (by decide +kernel) rfl, _, _, cfX10⟩
theorem cdX7_digestedInto : Cond.code yX7_digestedInto cX7_digestedInto 6 (some .long) ∈ tb := tb_at (i := 851) (by decide +kernel) rfl
theorem cbX10_286 : CB RX10 286 mX7_digestedInto 1 := ⟨tb_at (i := 848) (by decide +kernel) rfl, cdX7_digestedInto, in_AshGreetings_Strip, ⟨by decide, by decide, by decide +kernel⟩, by decide⟩
theorem cvX10_286 : CV RX10 286 7 mX7_digestedInto 1 := ⟨cbX10_286, tb_at (i := 849) (by decide +kernel) rfl, tb_at (i := 850) (by decide +kernel) rfl, _, _, cfX7⟩
theorem cdX7_has : Cond.code yX7_has cX7_has 2 (some .boolean) ∈ tb := tb_at (i := 356) (by decide +kernel) rfl
theorem cbX10_300 : CB RX10 300 mX7_has 1 := ⟨tb_at (i := 353) (by decide +kernel) rfl, cdX7_has, in_AshGreetings_Strip, ⟨by decide, by decide, by decide +kernel⟩, by decide⟩
theorem cvX10_300 : CV RX10 300 7 mX7_has 1 := ⟨cbX10_300, tb_at (i := 354) (by decide +kernel) rfl, tb_at (i := 355) (by decide +kernel) rfl, _, _, cfX7⟩
theorem cdX10_greatestShared : Cond.code yX10_greatestShared cX10_greatestShared 11 (some .long) ∈ tb := tb_at (i := 776) (by decide +kernel) rfl
theorem cbX10_304 : CB RX10 304 mX10_greatestShared 2 := ⟨tb_at (i := 774) (by decide +kernel) rfl, cdX10_greatestShared, in_AshGreetings, ⟨by decide, by decide, by decide +kernel⟩, by decide⟩
theorem csX10_304 : CB RX10 304 mX10_greatestShared 2 ∧ Cond.static yX10_greatestShared ∈ tb := ⟨cbX10_304, tb_at (i := 775) (by decide +kernel) rfl⟩
theorem cdX11_in : Cond.code yX11_in cX11_in 3 (some .boolean) ∈ tb := tb_at (i := 970) (by decide +kernel) rfl
theorem cbX11_76 : CB RX11 76 mX11_in 3 := ⟨tb_at (i := 968) (by decide +kernel) rfl, cdX11_in, in_AshGreetingsModel, ⟨by decide, by decide, by decide +kernel⟩, by decide⟩
theorem csX11_76 : CB RX11 76 mX11_in 3 ∧ Cond.static yX11_in ∈ tb := ⟨cbX11_76, tb_at (i := 969) (by decide +kernel) rfl⟩
theorem cdX11_isRow : Cond.code yX11_isRow cX11_isRow 1 (some .boolean) ∈ tb := tb_at (i := 977) (by decide +kernel) rfl
theorem cbX11_80 : CB RX11 80 mX11_isRow 1 := ⟨tb_at (i := 975) (by decide +kernel) rfl, cdX11_isRow, in_AshGreetingsModel, ⟨by decide, by decide, by decide +kernel⟩, by decide⟩
theorem csX11_80 : CB RX11 80 mX11_isRow 1 ∧ Cond.static yX11_isRow ∈ tb := ⟨cbX11_80, tb_at (i := 976) (by decide +kernel) rfl⟩
theorem cdX11_found : Cond.code yX11_found cX11_found 2 (some .int) ∈ tb := tb_at (i := 981) (by decide +kernel) rfl
theorem cbX11_84 : CB RX11 84 mX11_found 1 := ⟨tb_at (i := 978) (by decide +kernel) rfl, cdX11_found, in_AshGreetingsModel, ⟨by decide, by decide, by decide +kernel⟩, by decide⟩
theorem cvX11_84 : CV RX11 84 11 mX11_found 1 := ⟨cbX11_84, tb_at (i := 980) (by decide +kernel) rfl, tb_at (i := 28) (by decide +kernel) rfl, _, _, cfX11⟩
theorem cdX11_rowAt : Cond.code yX11_rowAt cX11_rowAt 3 (some .int) ∈ tb := tb_at (i := 989) (by decide +kernel) rfl
theorem cbX11_88 : CB RX11 88 mX11_rowAt 2 := ⟨tb_at (i := 986) (by decide +kernel) rfl, cdX11_rowAt, in_AshGreetingsModel, ⟨by decide, by decide, by decide +kernel⟩, by decide⟩
theorem cvX11_88 : CV RX11 88 11 mX11_rowAt 2 := ⟨cbX11_88, tb_at (i := 988) (by decide +kernel) rfl, tb_at (i := 29) (by decide +kernel) rfl, _, _, cfX11⟩
theorem cdX11_tells : Cond.code yX11_tells cX11_tells 3 (some .int) ∈ tb := tb_at (i := 993) (by decide +kernel) rfl
theorem cbX11_92 : CB RX11 92 mX11_tells 2 := ⟨tb_at (i := 990) (by decide +kernel) rfl, cdX11_tells, in_AshGreetingsModel, ⟨by decide, by decide, by decide +kernel⟩, by decide⟩
theorem cvX11_92 : CV RX11 92 11 mX11_tells 2 := ⟨cbX11_92, tb_at (i := 992) (by decide +kernel) rfl, tb_at (i := 30) (by decide +kernel) rfl, _, _, cfX11⟩
theorem cdX11_isText : Cond.code yX11_isText cX11_isText 1 (some .boolean) ∈ tb := tb_at (i := 1016) (by decide +kernel) rfl
theorem cbX11_95 : CB RX11 95 mX11_isText 1 := ⟨tb_at (i := 1014) (by decide +kernel) rfl, cdX11_isText, in_AshGreetingsModel, ⟨by decide, by decide, by decide +kernel⟩, by decide⟩
theorem csX11_95 : CB RX11 95 mX11_isText 1 ∧ Cond.static yX11_isText ∈ tb := ⟨cbX11_95, tb_at (i := 1015) (by decide +kernel) rfl⟩
theorem cdX11_byteAt : Cond.code yX11_byteAt cX11_byteAt 2 (some .int) ∈ tb := tb_at (i := 1036) (by decide +kernel) rfl
theorem cbX11_101 : CB RX11 101 mX11_byteAt 1 := ⟨tb_at (i := 1033) (by decide +kernel) rfl, cdX11_byteAt, in_AshGreetingsModel, ⟨by decide, by decide, by decide +kernel⟩, by decide⟩
theorem cvX11_101 : CV RX11 101 11 mX11_byteAt 1 := ⟨cbX11_101, tb_at (i := 1035) (by decide +kernel) rfl, tb_at (i := 33) (by decide +kernel) rfl, _, _, cfX11⟩
theorem cdX11_figure : Cond.code yX11_figure cX11_figure 4 (some .int) ∈ tb := tb_at (i := 1044) (by decide +kernel) rfl
theorem cbX11_104 : CB RX11 104 mX11_figure 2 := ⟨tb_at (i := 1041) (by decide +kernel) rfl, cdX11_figure, in_AshGreetingsModel, ⟨by decide, by decide, by decide +kernel⟩, by decide⟩
theorem cvX11_104 : CV RX11 104 11 mX11_figure 2 := ⟨cbX11_104, tb_at (i := 1043) (by decide +kernel) rfl, tb_at (i := 35) (by decide +kernel) rfl, _, _, cfX11⟩
theorem cdX11_kindOf : Cond.code yX11_kindOf cX11_kindOf 1 (some .int) ∈ tb := tb_at (i := 1051) (by decide +kernel) rfl
theorem cbX11_107 : CB RX11 107 mX11_kindOf 1 := ⟨tb_at (i := 1049) (by decide +kernel) rfl, cdX11_kindOf, in_AshGreetingsModel, ⟨by decide, by decide, by decide +kernel⟩, by decide⟩
theorem csX11_107 : CB RX11 107 mX11_kindOf 1 ∧ Cond.static yX11_kindOf ∈ tb := ⟨cbX11_107, tb_at (i := 1050) (by decide +kernel) rfl⟩
theorem cdX11_blanks : Cond.code yX11_blanks cX11_blanks 2 none ∈ tb := tb_at (i := 1032) (by decide +kernel) rfl
theorem cbX11_113 : CB RX11 113 mX11_blanks 1 := ⟨tb_at (i := 1029) (by decide +kernel) rfl, cdX11_blanks, in_AshGreetingsModel, ⟨by decide, by decide, by decide +kernel⟩, by decide⟩
theorem cvX11_113 : CV RX11 113 11 mX11_blanks 1 := ⟨cbX11_113, tb_at (i := 1031) (by decide +kernel) rfl, tb_at (i := 32) (by decide +kernel) rfl, _, _, cfX11⟩
theorem cdX11_readsDeep : Cond.code yX11_readsDeep cX11_readsDeep 3 (some .boolean) ∈ tb := tb_at (i := 1040) (by decide +kernel) rfl
theorem cbX11_117 : CB RX11 117 mX11_readsDeep 1 := ⟨tb_at (i := 1037) (by decide +kernel) rfl, cdX11_readsDeep, in_AshGreetingsModel, ⟨by decide, by decide, by decide +kernel⟩, by decide⟩
theorem cvX11_117 : CV RX11 117 11 mX11_readsDeep 1 := ⟨cbX11_117, tb_at (i := 1039) (by decide +kernel) rfl, tb_at (i := 34) (by decide +kernel) rfl, _, _, cfX11⟩
theorem cdX11_readsOne : Cond.code yX11_readsOne cX11_readsOne 5 (some .boolean) ∈ tb := tb_at (i := 1048) (by decide +kernel) rfl
theorem cbX11_120 : CB RX11 120 mX11_readsOne 1 := ⟨tb_at (i := 1045) (by decide +kernel) rfl, cdX11_readsOne, in_AshGreetingsModel, ⟨by decide, by decide, by decide +kernel⟩, by decide⟩
theorem cvX11_120 : CV RX11 120 11 mX11_readsOne 1 := ⟨cbX11_120, tb_at (i := 1047) (by decide +kernel) rfl, tb_at (i := 36) (by decide +kernel) rfl, _, _, cfX11⟩
theorem cdX11_faultOf : Cond.code yX11_faultOf cX11_faultOf 2 (some .int) ∈ tb := tb_at (i := 1028) (by decide +kernel) rfl
theorem cbX11_123 : CB RX11 123 mX11_faultOf 1 := ⟨tb_at (i := 1025) (by decide +kernel) rfl, cdX11_faultOf, in_AshGreetingsModel, ⟨by decide, by decide, by decide +kernel⟩, by decide⟩
theorem cvX11_123 : CV RX11 123 11 mX11_faultOf 1 := ⟨cbX11_123, tb_at (i := 1027) (by decide +kernel) rfl, tb_at (i := 31) (by decide +kernel) rfl, _, _, cfX11⟩
theorem cdX11_seen : Cond.code yX11_seen cX11_seen 3 (some .int) ∈ tb := tb_at (i := 1075) (by decide +kernel) rfl
theorem cbX11_132 : CB RX11 132 mX11_seen 1 := ⟨tb_at (i := 1072) (by decide +kernel) rfl, cdX11_seen, in_AshGreetingsModel, ⟨by decide, by decide, by decide +kernel⟩, by decide⟩
theorem cvX11_132 : CV RX11 132 11 mX11_seen 1 := ⟨cbX11_132, tb_at (i := 1074) (by decide +kernel) rfl, tb_at (i := 40) (by decide +kernel) rfl, _, _, cfX11⟩
theorem cdX11_nextTo : Cond.code yX11_nextTo cX11_nextTo 8 (some .int) ∈ tb := tb_at (i := 1083) (by decide +kernel) rfl
theorem cbX11_135 : CB RX11 135 mX11_nextTo 2 := ⟨tb_at (i := 1080) (by decide +kernel) rfl, cdX11_nextTo, in_AshGreetingsModel, ⟨by decide, by decide, by decide +kernel⟩, by decide⟩
theorem cvX11_135 : CV RX11 135 11 mX11_nextTo 2 := ⟨cbX11_135, tb_at (i := 1082) (by decide +kernel) rfl, tb_at (i := 42) (by decide +kernel) rfl, _, _, cfX11⟩
theorem cdX11_isHid : Cond.code yX11_isHid cX11_isHid 3 (some .boolean) ∈ tb := tb_at (i := 1071) (by decide +kernel) rfl
theorem cbX11_139 : CB RX11 139 mX11_isHid 2 := ⟨tb_at (i := 1068) (by decide +kernel) rfl, cdX11_isHid, in_AshGreetingsModel, ⟨by decide, by decide, by decide +kernel⟩, by decide⟩
theorem cvX11_139 : CV RX11 139 11 mX11_isHid 2 := ⟨cbX11_139, tb_at (i := 1070) (by decide +kernel) rfl, tb_at (i := 39) (by decide +kernel) rfl, _, _, cfX11⟩
theorem cdX11_isOf : Cond.code yX11_isOf cX11_isOf 2 (some .boolean) ∈ tb := tb_at (i := 1101) (by decide +kernel) rfl
theorem cbX11_143 : CB RX11 143 mX11_isOf 2 := ⟨tb_at (i := 1099) (by decide +kernel) rfl, cdX11_isOf, in_AshGreetingsModel, ⟨by decide, by decide, by decide +kernel⟩, by decide⟩
theorem csX11_143 : CB RX11 143 mX11_isOf 2 ∧ Cond.static yX11_isOf ∈ tb := ⟨cbX11_143, tb_at (i := 1100) (by decide +kernel) rfl⟩
theorem cdX11_isMet : Cond.code yX11_isMet cX11_isMet 4 (some .boolean) ∈ tb := tb_at (i := 1079) (by decide +kernel) rfl
theorem cbX11_147 : CB RX11 147 mX11_isMet 2 := ⟨tb_at (i := 1076) (by decide +kernel) rfl, cdX11_isMet, in_AshGreetingsModel, ⟨by decide, by decide, by decide +kernel⟩, by decide⟩
theorem cvX11_147 : CV RX11 147 11 mX11_isMet 2 := ⟨cbX11_147, tb_at (i := 1078) (by decide +kernel) rfl, tb_at (i := 41) (by decide +kernel) rfl, _, _, cfX11⟩
theorem cdX11_isForgiven : Cond.code yX11_isForgiven cX11_isForgiven 3 (some .boolean) ∈ tb := tb_at (i := 1133) (by decide +kernel) rfl
theorem cbX11_150 : CB RX11 150 mX11_isForgiven 2 := ⟨tb_at (i := 1130) (by decide +kernel) rfl, cdX11_isForgiven, in_AshGreetingsModel, ⟨by decide, by decide, by decide +kernel⟩, by decide⟩
theorem cvX11_150 : CV RX11 150 11 mX11_isForgiven 2 := ⟨cbX11_150, tb_at (i := 1132) (by decide +kernel) rfl, tb_at (i := 47) (by decide +kernel) rfl, _, _, cfX11⟩
theorem cdX11_lessBy : Cond.code yX11_lessBy cX11_lessBy 2 (some .int) ∈ tb := tb_at (i := 1136) (by decide +kernel) rfl
theorem cbX11_153 : CB RX11 153 mX11_lessBy 2 := ⟨tb_at (i := 1134) (by decide +kernel) rfl, cdX11_lessBy, in_AshGreetingsModel, ⟨by decide, by decide, by decide +kernel⟩, by decide⟩
theorem csX11_153 : CB RX11 153 mX11_lessBy 2 ∧ Cond.static yX11_lessBy ∈ tb := ⟨cbX11_153, tb_at (i := 1135) (by decide +kernel) rfl⟩
theorem cdX11_grudgeThen : Cond.code yX11_grudgeThen cX11_grudgeThen 5 (some .int) ∈ tb := tb_at (i := 1129) (by decide +kernel) rfl
theorem cbX11_156 : CB RX11 156 mX11_grudgeThen 2 := ⟨tb_at (i := 1126) (by decide +kernel) rfl, cdX11_grudgeThen, in_AshGreetingsModel, ⟨by decide, by decide, by decide +kernel⟩, by decide⟩
theorem cvX11_156 : CV RX11 156 11 mX11_grudgeThen 2 := ⟨cbX11_156, tb_at (i := 1128) (by decide +kernel) rfl, tb_at (i := 46) (by decide +kernel) rfl, _, _, cfX11⟩
theorem cdX11_passes : Cond.code yX11_passes cX11_passes 3 none ∈ tb := tb_at (i := 1125) (by decide +kernel) rfl
theorem cbX11_159 : CB RX11 159 mX11_passes 1 := ⟨tb_at (i := 1122) (by decide +kernel) rfl, cdX11_passes, in_AshGreetingsModel, ⟨by decide, by decide, by decide +kernel⟩, by decide⟩
theorem cvX11_159 : CV RX11 159 11 mX11_passes 1 := ⟨cbX11_159, tb_at (i := 1124) (by decide +kernel) rfl, tb_at (i := 45) (by decide +kernel) rfl, _, _, cfX11⟩
theorem cdX11_all : Cond.code yX11_all cX11_all 4 (some .int) ∈ tb := tb_at (i := 1140) (by decide +kernel) rfl
theorem cbX11_163 : CB RX11 163 mX11_all 1 := ⟨tb_at (i := 1137) (by decide +kernel) rfl, cdX11_all, in_AshGreetingsModel, ⟨by decide, by decide, by decide +kernel⟩, by decide⟩
theorem cvX11_163 : CV RX11 163 11 mX11_all 1 := ⟨cbX11_163, tb_at (i := 1139) (by decide +kernel) rfl, tb_at (i := 48) (by decide +kernel) rfl, _, _, cfX11⟩
theorem cdX11_isOne : Cond.code yX11_isOne cX11_isOne 2 (some .boolean) ∈ tb := tb_at (i := 1063) (by decide +kernel) rfl
theorem cbX11_167 : CB RX11 167 mX11_isOne 1 := ⟨tb_at (i := 1060) (by decide +kernel) rfl, cdX11_isOne, in_AshGreetingsModel, ⟨by decide, by decide, by decide +kernel⟩, by decide⟩
theorem cvX11_167 : CV RX11 167 11 mX11_isOne 1 := ⟨cbX11_167, tb_at (i := 1062) (by decide +kernel) rfl, tb_at (i := 37) (by decide +kernel) rfl, _, _, cfX11⟩
theorem cdX11_personTells : Cond.code yX11_personTells cX11_personTells 3 (some .int) ∈ tb := tb_at (i := 1067) (by decide +kernel) rfl
theorem cbX11_170 : CB RX11 170 mX11_personTells 2 := ⟨tb_at (i := 1064) (by decide +kernel) rfl, cdX11_personTells, in_AshGreetingsModel, ⟨by decide, by decide, by decide +kernel⟩, by decide⟩
theorem cvX11_170 : CV RX11 170 11 mX11_personTells 2 := ⟨cbX11_170, tb_at (i := 1066) (by decide +kernel) rfl, tb_at (i := 38) (by decide +kernel) rfl, _, _, cfX11⟩
theorem cdX11_isStreet : Cond.code yX11_isStreet cX11_isStreet 1 (some .boolean) ∈ tb := tb_at (i := 1090) (by decide +kernel) rfl
theorem cbX11_173 : CB RX11 173 mX11_isStreet 1 := ⟨tb_at (i := 1088) (by decide +kernel) rfl, cdX11_isStreet, in_AshGreetingsModel, ⟨by decide, by decide, by decide +kernel⟩, by decide⟩
theorem csX11_173 : CB RX11 173 mX11_isStreet 1 ∧ Cond.static yX11_isStreet ∈ tb := ⟨cbX11_173, tb_at (i := 1089) (by decide +kernel) rfl⟩
theorem cdX11_inStreet : Cond.code yX11_inStreet cX11_inStreet 4 (some .int) ∈ tb := tb_at (i := 1094) (by decide +kernel) rfl
theorem cbX11_176 : CB RX11 176 mX11_inStreet 1 := ⟨tb_at (i := 1091) (by decide +kernel) rfl, cdX11_inStreet, in_AshGreetingsModel, ⟨by decide, by decide, by decide +kernel⟩, by decide⟩
theorem cvX11_176 : CV RX11 176 11 mX11_inStreet 1 := ⟨cbX11_176, tb_at (i := 1093) (by decide +kernel) rfl, tb_at (i := 43) (by decide +kernel) rfl, _, _, cfX11⟩
theorem cdX11_remember : Cond.code yX11_remember cX11_remember 2 none ∈ tb := tb_at (i := 1121) (by decide +kernel) rfl
theorem cbX11_179 : CB RX11 179 mX11_remember 0 := ⟨tb_at (i := 1118) (by decide +kernel) rfl, cdX11_remember, in_AshGreetingsModel, ⟨by decide, by decide, by decide +kernel⟩, by decide⟩
theorem cvX11_179 : CV RX11 179 11 mX11_remember 0 := ⟨cbX11_179, tb_at (i := 1120) (by decide +kernel) rfl, tb_at (i := 44) (by decide +kernel) rfl, _, _, cfX11⟩
theorem cdX11_deeper : Cond.code yX11_deeper cX11_deeper 2 (some .int) ∈ tb := tb_at (i := 1147) (by decide +kernel) rfl
theorem cbX11_182 : CB RX11 182 mX11_deeper 2 := ⟨tb_at (i := 1145) (by decide +kernel) rfl, cdX11_deeper, in_AshGreetingsModel, ⟨by decide, by decide, by decide +kernel⟩, by decide⟩
theorem csX11_182 : CB RX11 182 mX11_deeper 2 ∧ Cond.static yX11_deeper ∈ tb := ⟨cbX11_182, tb_at (i := 1146) (by decide +kernel) rfl⟩
theorem cdX11_becomes : Cond.code yX11_becomes cX11_becomes 4 (some .int) ∈ tb := tb_at (i := 1151) (by decide +kernel) rfl
theorem cbX11_185 : CB RX11 185 mX11_becomes 3 := ⟨tb_at (i := 1148) (by decide +kernel) rfl, cdX11_becomes, in_AshGreetingsModel, ⟨by decide, by decide, by decide +kernel⟩, by decide⟩
theorem cvX11_185 : CV RX11 185 11 mX11_becomes 3 := ⟨cbX11_185, tb_at (i := 1150) (by decide +kernel) rfl, tb_at (i := 49) (by decide +kernel) rfl, _, _, cfX11⟩
theorem cdX11_copyNow : Cond.code yX11_copyNow cX11_copyNow 2 none ∈ tb := tb_at (i := 1171) (by decide +kernel) rfl
theorem cbX11_189 : CB RX11 189 mX11_copyNow 0 := ⟨tb_at (i := 1168) (by decide +kernel) rfl, cdX11_copyNow, in_AshGreetingsModel, ⟨by decide, by decide, by decide +kernel⟩, by decide⟩
theorem cvX11_189 : CV RX11 189 11 mX11_copyNow 0 := ⟨cbX11_189, tb_at (i := 1170) (by decide +kernel) rfl, tb_at (i := 50) (by decide +kernel) rfl, _, _, cfX11⟩
theorem cdX11_allBehind : Cond.code yX11_allBehind cX11_allBehind 3 (some .int) ∈ tb := tb_at (i := 1175) (by decide +kernel) rfl
theorem cbX11_192 : CB RX11 192 mX11_allBehind 1 := ⟨tb_at (i := 1172) (by decide +kernel) rfl, cdX11_allBehind, in_AshGreetingsModel, ⟨by decide, by decide, by decide +kernel⟩, by decide⟩
theorem cvX11_192 : CV RX11 192 11 mX11_allBehind 1 := ⟨cbX11_192, tb_at (i := 1174) (by decide +kernel) rfl, tb_at (i := 51) (by decide +kernel) rfl, _, _, cfX11⟩
theorem cdX11_need : Cond.code yX11_need cX11_need 2 (some .int) ∈ tb := tb_at (i := 1187) (by decide +kernel) rfl
theorem cbX11_195 : CB RX11 195 mX11_need 1 := ⟨tb_at (i := 1184) (by decide +kernel) rfl, cdX11_need, in_AshGreetingsModel, ⟨by decide, by decide, by decide +kernel⟩, by decide⟩
theorem cvX11_195 : CV RX11 195 11 mX11_need 1 := ⟨cbX11_195, tb_at (i := 1186) (by decide +kernel) rfl, tb_at (i := 52) (by decide +kernel) rfl, _, _, cfX11⟩
theorem cdX11_calm : Cond.code yX11_calm cX11_calm 4 (some .int) ∈ tb := tb_at (i := 1191) (by decide +kernel) rfl
theorem cbX11_199 : CB RX11 199 mX11_calm 1 := ⟨tb_at (i := 1188) (by decide +kernel) rfl, cdX11_calm, in_AshGreetingsModel, ⟨by decide, by decide, by decide +kernel⟩, by decide⟩
theorem cvX11_199 : CV RX11 199 11 mX11_calm 1 := ⟨cbX11_199, tb_at (i := 1190) (by decide +kernel) rfl, tb_at (i := 53) (by decide +kernel) rfl, _, _, cfX11⟩
theorem cdX11_bits : Cond.code yX11_bits cX11_bits 3 (some .int) ∈ tb := tb_at (i := 1194) (by decide +kernel) rfl
theorem cbX11_202 : CB RX11 202 mX11_bits 1 := ⟨tb_at (i := 1192) (by decide +kernel) rfl, cdX11_bits, in_AshGreetingsModel, ⟨by decide, by decide, by decide +kernel⟩, by decide⟩
theorem csX11_202 : CB RX11 202 mX11_bits 1 ∧ Cond.static yX11_bits ∈ tb := ⟨cbX11_202, tb_at (i := 1193) (by decide +kernel) rfl⟩
theorem cdX11_isSo : Cond.code yX11_isSo cX11_isSo 4 (some .boolean) ∈ tb := tb_at (i := 1219) (by decide +kernel) rfl
theorem cbX11_206 : CB RX11 206 mX11_isSo 1 := ⟨tb_at (i := 1216) (by decide +kernel) rfl, cdX11_isSo, in_AshGreetingsModel, ⟨by decide, by decide, by decide +kernel⟩, by decide⟩
theorem cvX11_206 : CV RX11 206 11 mX11_isSo 1 := ⟨cbX11_206, tb_at (i := 1218) (by decide +kernel) rfl, tb_at (i := 56) (by decide +kernel) rfl, _, _, cfX11⟩
theorem cdX11_needTotals : Cond.code yX11_needTotals cX11_needTotals 5 (some .int) ∈ tb := tb_at (i := 1211) (by decide +kernel) rfl
theorem cbX11_209 : CB RX11 209 mX11_needTotals 2 := ⟨tb_at (i := 1208) (by decide +kernel) rfl, cdX11_needTotals, in_AshGreetingsModel, ⟨by decide, by decide, by decide +kernel⟩, by decide⟩
theorem cvX11_209 : CV RX11 209 11 mX11_needTotals 2 := ⟨cbX11_209, tb_at (i := 1210) (by decide +kernel) rfl, tb_at (i := 54) (by decide +kernel) rfl, _, _, cfX11⟩
theorem cdX11_kindsBy : Cond.code yX11_kindsBy cX11_kindsBy 6 (some .int) ∈ tb := tb_at (i := 1215) (by decide +kernel) rfl
theorem cbX11_212 : CB RX11 212 mX11_kindsBy 2 := ⟨tb_at (i := 1212) (by decide +kernel) rfl, cdX11_kindsBy, in_AshGreetingsModel, ⟨by decide, by decide, by decide +kernel⟩, by decide⟩
theorem cvX11_212 : CV RX11 212 11 mX11_kindsBy 2 := ⟨cbX11_212, tb_at (i := 1214) (by decide +kernel) rfl, tb_at (i := 55) (by decide +kernel) rfl, _, _, cfX11⟩
theorem cdX11_has : Cond.code yX11_has cX11_has 2 (some .boolean) ∈ tb := tb_at (i := 1230) (by decide +kernel) rfl
theorem cbX11_215 : CB RX11 215 mX11_has 2 := ⟨tb_at (i := 1228) (by decide +kernel) rfl, cdX11_has, in_AshGreetingsModel, ⟨by decide, by decide, by decide +kernel⟩, by decide⟩
theorem csX11_215 : CB RX11 215 mX11_has 2 ∧ Cond.static yX11_has ∈ tb := ⟨cbX11_215, tb_at (i := 1229) (by decide +kernel) rfl⟩
theorem cdX11_allAs : Cond.code yX11_allAs cX11_allAs 6 (some .int) ∈ tb := tb_at (i := 1234) (by decide +kernel) rfl
theorem cbX11_218 : CB RX11 218 mX11_allAs 3 := ⟨tb_at (i := 1231) (by decide +kernel) rfl, cdX11_allAs, in_AshGreetingsModel, ⟨by decide, by decide, by decide +kernel⟩, by decide⟩
theorem cvX11_218 : CV RX11 218 11 mX11_allAs 3 := ⟨cbX11_218, tb_at (i := 1233) (by decide +kernel) rfl, tb_at (i := 57) (by decide +kernel) rfl, _, _, cfX11⟩
theorem cdX11_moves : Cond.code yX11_moves cX11_moves 3 none ∈ tb := tb_at (i := 1246) (by decide +kernel) rfl
theorem cbX11_221 : CB RX11 221 mX11_moves 2 := ⟨tb_at (i := 1243) (by decide +kernel) rfl, cdX11_moves, in_AshGreetingsModel, ⟨by decide, by decide, by decide +kernel⟩, by decide⟩
theorem cvX11_221 : CV RX11 221 11 mX11_moves 2 := ⟨cbX11_221, tb_at (i := 1245) (by decide +kernel) rfl, tb_at (i := 59) (by decide +kernel) rfl, _, _, cfX11⟩
theorem cdX11_behindTurns : Cond.code yX11_behindTurns cX11_behindTurns 5 (some .int) ∈ tb := tb_at (i := 1242) (by decide +kernel) rfl
theorem cbX11_225 : CB RX11 225 mX11_behindTurns 2 := ⟨tb_at (i := 1239) (by decide +kernel) rfl, cdX11_behindTurns, in_AshGreetingsModel, ⟨by decide, by decide, by decide +kernel⟩, by decide⟩
theorem cvX11_225 : CV RX11 225 11 mX11_behindTurns 2 := ⟨cbX11_225, tb_at (i := 1241) (by decide +kernel) rfl, tb_at (i := 58) (by decide +kernel) rfl, _, _, cfX11⟩
theorem cdX11_layWinds : Cond.code yX11_layWinds cX11_layWinds 8 none ∈ tb := tb_at (i := 1254) (by decide +kernel) rfl
theorem cbX11_239 : CB RX11 239 mX11_layWinds 3 := ⟨tb_at (i := 1251) (by decide +kernel) rfl, cdX11_layWinds, in_AshGreetingsModel, ⟨by decide, by decide, by decide +kernel⟩, by decide⟩
theorem cvX11_239 : CV RX11 239 11 mX11_layWinds 3 := ⟨cbX11_239, tb_at (i := 1253) (by decide +kernel) rfl, tb_at (i := 60) (by decide +kernel) rfl, _, _, cfX11⟩
theorem cdX11_lowest : Cond.code yX11_lowest cX11_lowest 12 (some .int) ∈ tb := tb_at (i := 1259) (by decide +kernel) rfl
theorem cbX11_243 : CB RX11 243 mX11_lowest 3 := ⟨tb_at (i := 1256) (by decide +kernel) rfl, cdX11_lowest, in_AshGreetingsModel, ⟨by decide, by decide, by decide +kernel⟩, by decide⟩
theorem cvX11_243 : CV RX11 243 11 mX11_lowest 3 := ⟨cbX11_243, tb_at (i := 1258) (by decide +kernel) rfl, tb_at (i := 61) (by decide +kernel) rfl, _, _, cfX11⟩
theorem cdX11_counted : Cond.code yX11_counted cX11_counted 4 (some .int) ∈ tb := tb_at (i := 1281) (by decide +kernel) rfl
theorem cbX11_258 : CB RX11 258 mX11_counted 1 := ⟨tb_at (i := 1278) (by decide +kernel) rfl, cdX11_counted, in_AshGreetingsModel, ⟨by decide, by decide, by decide +kernel⟩, by decide⟩
theorem cvX11_258 : CV RX11 258 11 mX11_counted 1 := ⟨cbX11_258, tb_at (i := 1280) (by decide +kernel) rfl, tb_at (i := 62) (by decide +kernel) rfl, _, _, cfX11⟩
theorem cdX11_adds : Cond.code yX11_adds cX11_adds 3 none ∈ tb := tb_at (i := 1290) (by decide +kernel) rfl
theorem cbX11_268 : CB RX11 268 mX11_adds 1 := ⟨tb_at (i := 1287) (by decide +kernel) rfl, cdX11_adds, in_AshGreetingsModel, ⟨by decide, by decide, by decide +kernel⟩, by decide⟩
theorem cvX11_268 : CV RX11 268 11 mX11_adds 1 := ⟨cbX11_268, tb_at (i := 1289) (by decide +kernel) rfl, tb_at (i := 63) (by decide +kernel) rfl, _, _, cfX11⟩
theorem cuX2_9_2 : CU RX2 9 2 yX2_forgiveness mX2_forgiveness 1 := ⟨tb_at (i := 571) (by decide +kernel) rfl, tb_at (i := 513) (by decide +kernel) rfl, tb_at (i := 512) (by decide +kernel) rfl, tb_at (i := 511) (by decide +kernel) rfl, in_AshGreetings_Neighbour, cdX2_forgiveness, ⟨by decide, by decide, by decide +kernel⟩, by decide, Or.inl rfl, _, _, cfX2⟩
theorem cuX2_9_1 : CU RX2 9 1 yX2_forgiveness mX1_forgiveness 1 := ⟨tb_at (i := 571) (by decide +kernel) rfl, tb_at (i := 513) (by decide +kernel) rfl, tb_at (i := 517) (by decide +kernel) rfl, tb_at (i := 518) (by decide +kernel) rfl, in_AshGreetings_Devout, cdX1_forgiveness, ⟨by decide, by decide, by decide +kernel⟩, by decide, Or.inr ⟨tb_at (i := 511) (by decide +kernel) rfl, _, _, _, cdX2_forgiveness⟩, _, _, cfX1⟩
theorem cuX2_9_8 : CU RX2 9 8 yX2_forgiveness mX8_forgiveness 1 := ⟨tb_at (i := 571) (by decide +kernel) rfl, tb_at (i := 513) (by decide +kernel) rfl, tb_at (i := 522) (by decide +kernel) rfl, tb_at (i := 515) (by decide +kernel) rfl, in_AshGreetings_Stubborn, cdX8_forgiveness, ⟨by decide, by decide, by decide +kernel⟩, by decide, Or.inr ⟨tb_at (i := 511) (by decide +kernel) rfl, _, _, _, cdX2_forgiveness⟩, _, _, cfX8⟩
theorem cuX2_9_6 : CU RX2 9 6 yX2_forgiveness mX2_forgiveness 1 := ⟨tb_at (i := 571) (by decide +kernel) rfl, tb_at (i := 513) (by decide +kernel) rfl, tb_at (i := 521) (by decide +kernel) rfl, tb_at (i := 511) (by decide +kernel) rfl, in_AshGreetings_Neighbour, cdX2_forgiveness, ⟨by decide, by decide, by decide +kernel⟩, by decide, Or.inl rfl, _, _, cfX6⟩
theorem cuX2_9_4 : CU RX2 9 4 yX2_forgiveness mX1_forgiveness 1 := ⟨tb_at (i := 571) (by decide +kernel) rfl, tb_at (i := 513) (by decide +kernel) rfl, tb_at (i := 520) (by decide +kernel) rfl, tb_at (i := 518) (by decide +kernel) rfl, in_AshGreetings_Devout, cdX1_forgiveness, ⟨by decide, by decide, by decide +kernel⟩, by decide, Or.inr ⟨tb_at (i := 511) (by decide +kernel) rfl, _, _, _, cdX2_forgiveness⟩, _, _, cfX4⟩
theorem cuX2_9_0 : CU RX2 9 0 yX2_forgiveness mX8_forgiveness 1 := ⟨tb_at (i := 571) (by decide +kernel) rfl, tb_at (i := 513) (by decide +kernel) rfl, tb_at (i := 514) (by decide +kernel) rfl, tb_at (i := 515) (by decide +kernel) rfl, in_AshGreetings_Stubborn, cdX8_forgiveness, ⟨by decide, by decide, by decide +kernel⟩, by decide, Or.inr ⟨tb_at (i := 511) (by decide +kernel) rfl, _, _, _, cdX2_forgiveness⟩, _, _, cfX0⟩
theorem cdX2_anger : Cond.code yX2_anger cX2_anger 1 (some .int) ∈ tb := tb_at (i := 584) (by decide +kernel) rfl
theorem cuX2_21_2 : CU RX2 21 2 yX2_anger mX2_anger 0 := ⟨tb_at (i := 573) (by decide +kernel) rfl, tb_at (i := 576) (by decide +kernel) rfl, tb_at (i := 575) (by decide +kernel) rfl, tb_at (i := 574) (by decide +kernel) rfl, in_AshGreetings_Neighbour, cdX2_anger, ⟨by decide, by decide, by decide +kernel⟩, by decide, Or.inl rfl, _, _, cfX2⟩
theorem cuX2_21_1 : CU RX2 21 1 yX2_anger mX2_anger 0 := ⟨tb_at (i := 573) (by decide +kernel) rfl, tb_at (i := 576) (by decide +kernel) rfl, tb_at (i := 580) (by decide +kernel) rfl, tb_at (i := 574) (by decide +kernel) rfl, in_AshGreetings_Neighbour, cdX2_anger, ⟨by decide, by decide, by decide +kernel⟩, by decide, Or.inl rfl, _, _, cfX1⟩
theorem cuX2_21_8 : CU RX2 21 8 yX2_anger mX2_anger 0 := ⟨tb_at (i := 573) (by decide +kernel) rfl, tb_at (i := 576) (by decide +kernel) rfl, tb_at (i := 583) (by decide +kernel) rfl, tb_at (i := 574) (by decide +kernel) rfl, in_AshGreetings_Neighbour, cdX2_anger, ⟨by decide, by decide, by decide +kernel⟩, by decide, Or.inl rfl, _, _, cfX8⟩
theorem cuX2_21_6 : CU RX2 21 6 yX2_anger mX2_anger 0 := ⟨tb_at (i := 573) (by decide +kernel) rfl, tb_at (i := 576) (by decide +kernel) rfl, tb_at (i := 582) (by decide +kernel) rfl, tb_at (i := 574) (by decide +kernel) rfl, in_AshGreetings_Neighbour, cdX2_anger, ⟨by decide, by decide, by decide +kernel⟩, by decide, Or.inl rfl, _, _, cfX6⟩
theorem cuX2_21_4 : CU RX2 21 4 yX2_anger mX2_anger 0 := ⟨tb_at (i := 573) (by decide +kernel) rfl, tb_at (i := 576) (by decide +kernel) rfl, tb_at (i := 581) (by decide +kernel) rfl, tb_at (i := 574) (by decide +kernel) rfl, in_AshGreetings_Neighbour, cdX2_anger, ⟨by decide, by decide, by decide +kernel⟩, by decide, Or.inl rfl, _, _, cfX4⟩
theorem cdX0_anger : Cond.code yX0_anger cX0_anger 1 (some .int) ∈ tb := tb_at (i := 579) (by decide +kernel) rfl
theorem in_AshGreetings_Brother : Cond.initialized "AshGreetings$Brother" ∈ tb := tb_at (i := 73) (by decide +kernel) rfl
theorem cuX2_21_0 : CU RX2 21 0 yX2_anger mX0_anger 0 := ⟨tb_at (i := 573) (by decide +kernel) rfl, tb_at (i := 576) (by decide +kernel) rfl, tb_at (i := 577) (by decide +kernel) rfl, tb_at (i := 578) (by decide +kernel) rfl, in_AshGreetings_Brother, cdX0_anger, ⟨by decide, by decide, by decide +kernel⟩, by decide, Or.inr ⟨tb_at (i := 574) (by decide +kernel) rfl, _, _, _, cdX2_anger⟩, _, _, cfX0⟩
theorem cbX3_11 : CB RX3 11 mX9_init 0 := ⟨tb_at (i := 225) (by decide +kernel) rfl, cdX9_init, in_AshGreetings_Town, ⟨by decide, by decide, by decide +kernel⟩, by decide⟩
theorem ciX3_11 : CB RX3 11 mX9_init 0 ∧ yX9_init.name = "<init>" ∧ Cond.instanceMethod yX9_init ∈ tb := ⟨cbX3_11, rfl, tb_at (i := 108) (by decide +kernel) rfl⟩
theorem cdX9_becomeAside : Cond.code yX9_becomeAside cX9_becomeAside 2 none ∈ tb := tb_at (i := 625) (by decide +kernel) rfl
theorem cbX3_50 : CB RX3 50 mX9_becomeAside 1 := ⟨tb_at (i := 643) (by decide +kernel) rfl, cdX9_becomeAside, in_AshGreetings_Town, ⟨by decide, by decide, by decide +kernel⟩, by decide⟩
theorem cvX3_50 : CV RX3 50 9 mX9_becomeAside 1 := ⟨cbX3_50, tb_at (i := 623) (by decide +kernel) rfl, tb_at (i := 624) (by decide +kernel) rfl, _, _, cfX9⟩
theorem cbX3_58 : CB RX3 58 mX9_moodOf 1 := ⟨tb_at (i := 652) (by decide +kernel) rfl, cdX9_moodOf, in_AshGreetings_Town, ⟨by decide, by decide, by decide +kernel⟩, by decide⟩
theorem cvX3_58 : CV RX3 58 9 mX9_moodOf 1 := ⟨cbX3_58, tb_at (i := 546) (by decide +kernel) rfl, tb_at (i := 547) (by decide +kernel) rfl, _, _, cfX9⟩
theorem cbX3_63 : CB RX3 63 mX9_sortOf 1 := ⟨tb_at (i := 657) (by decide +kernel) rfl, cdX9_sortOf, in_AshGreetings_Town, ⟨by decide, by decide, by decide +kernel⟩, by decide⟩
theorem cvX3_63 : CV RX3 63 9 mX9_sortOf 1 := ⟨cbX3_63, tb_at (i := 461) (by decide +kernel) rfl, tb_at (i := 462) (by decide +kernel) rfl, _, _, cfX9⟩
theorem cdX2_grudgeBehind : Cond.code yX2_grudgeBehind cX2_grudgeBehind 4 (some .int) ∈ tb := tb_at (i := 570) (by decide +kernel) rfl
theorem cuX3_67_2 : CU RX3 67 2 yX2_grudgeBehind mX2_grudgeBehind 3 := ⟨tb_at (i := 658) (by decide +kernel) rfl, tb_at (i := 564) (by decide +kernel) rfl, tb_at (i := 563) (by decide +kernel) rfl, tb_at (i := 562) (by decide +kernel) rfl, in_AshGreetings_Neighbour, cdX2_grudgeBehind, ⟨by decide, by decide, by decide +kernel⟩, by decide, Or.inl rfl, _, _, cfX2⟩
theorem cuX3_67_1 : CU RX3 67 1 yX2_grudgeBehind mX2_grudgeBehind 3 := ⟨tb_at (i := 658) (by decide +kernel) rfl, tb_at (i := 564) (by decide +kernel) rfl, tb_at (i := 566) (by decide +kernel) rfl, tb_at (i := 562) (by decide +kernel) rfl, in_AshGreetings_Neighbour, cdX2_grudgeBehind, ⟨by decide, by decide, by decide +kernel⟩, by decide, Or.inl rfl, _, _, cfX1⟩
theorem cuX3_67_8 : CU RX3 67 8 yX2_grudgeBehind mX2_grudgeBehind 3 := ⟨tb_at (i := 658) (by decide +kernel) rfl, tb_at (i := 564) (by decide +kernel) rfl, tb_at (i := 569) (by decide +kernel) rfl, tb_at (i := 562) (by decide +kernel) rfl, in_AshGreetings_Neighbour, cdX2_grudgeBehind, ⟨by decide, by decide, by decide +kernel⟩, by decide, Or.inl rfl, _, _, cfX8⟩
theorem cuX3_67_6 : CU RX3 67 6 yX2_grudgeBehind mX2_grudgeBehind 3 := ⟨tb_at (i := 658) (by decide +kernel) rfl, tb_at (i := 564) (by decide +kernel) rfl, tb_at (i := 568) (by decide +kernel) rfl, tb_at (i := 562) (by decide +kernel) rfl, in_AshGreetings_Neighbour, cdX2_grudgeBehind, ⟨by decide, by decide, by decide +kernel⟩, by decide, Or.inl rfl, _, _, cfX6⟩
theorem cuX3_67_4 : CU RX3 67 4 yX2_grudgeBehind mX2_grudgeBehind 3 := ⟨tb_at (i := 658) (by decide +kernel) rfl, tb_at (i := 564) (by decide +kernel) rfl, tb_at (i := 567) (by decide +kernel) rfl, tb_at (i := 562) (by decide +kernel) rfl, in_AshGreetings_Neighbour, cdX2_grudgeBehind, ⟨by decide, by decide, by decide +kernel⟩, by decide, Or.inl rfl, _, _, cfX4⟩
theorem cuX3_67_0 : CU RX3 67 0 yX2_grudgeBehind mX2_grudgeBehind 3 := ⟨tb_at (i := 658) (by decide +kernel) rfl, tb_at (i := 564) (by decide +kernel) rfl, tb_at (i := 565) (by decide +kernel) rfl, tb_at (i := 562) (by decide +kernel) rfl, in_AshGreetings_Neighbour, cdX2_grudgeBehind, ⟨by decide, by decide, by decide +kernel⟩, by decide, Or.inl rfl, _, _, cfX0⟩
theorem cdX3_startFromNow : Cond.code yX3_startFromNow cX3_startFromNow 2 none ∈ tb := tb_at (i := 651) (by decide +kernel) rfl
theorem cbX3_73 : CB RX3 73 mX3_startFromNow 0 := ⟨tb_at (i := 648) (by decide +kernel) rfl, cdX3_startFromNow, in_AshGreetings_Outlook, ⟨by decide, by decide, by decide +kernel⟩, by decide⟩
theorem cvX3_73 : CV RX3 73 3 mX3_startFromNow 0 := ⟨cbX3_73, tb_at (i := 650) (by decide +kernel) rfl, tb_at (i := 13) (by decide +kernel) rfl, _, _, cfX3⟩
theorem cdX3_foreseeDay : Cond.code yX3_foreseeDay cX3_foreseeDay 2 none ∈ tb := tb_at (i := 656) (by decide +kernel) rfl
theorem cbX3_76 : CB RX3 76 mX3_foreseeDay 0 := ⟨tb_at (i := 653) (by decide +kernel) rfl, cdX3_foreseeDay, in_AshGreetings_Outlook, ⟨by decide, by decide, by decide +kernel⟩, by decide⟩
theorem cvX3_76 : CV RX3 76 3 mX3_foreseeDay 0 := ⟨cbX3_76, tb_at (i := 655) (by decide +kernel) rfl, tb_at (i := 14) (by decide +kernel) rfl, _, _, cfX3⟩
theorem cdX3_total : Cond.code yX3_total cX3_total 3 (some .int) ∈ tb := tb_at (i := 662) (by decide +kernel) rfl
theorem cbX3_79 : CB RX3 79 mX3_total 0 := ⟨tb_at (i := 659) (by decide +kernel) rfl, cdX3_total, in_AshGreetings_Outlook, ⟨by decide, by decide, by decide +kernel⟩, by decide⟩
theorem cvX3_79 : CV RX3 79 3 mX3_total 0 := ⟨cbX3_79, tb_at (i := 661) (by decide +kernel) rfl, tb_at (i := 15) (by decide +kernel) rfl, _, _, cfX3⟩
theorem cdJ7_fill_53178 : Cond.code yJ7_fill_53178 cJ7_fill_53178 4 none ∈ tb := tb_at (i := 340) (by decide +kernel) rfl
theorem in_java_util_Arrays : Cond.initialized "java/util/Arrays" ∈ tb := tb_at (i := 78) (by decide +kernel) rfl
theorem cbX3_92 : CB RX3 92 mJ7_fill_53178 2 := ⟨tb_at (i := 692) (by decide +kernel) rfl, cdJ7_fill_53178, in_java_util_Arrays, ⟨by decide, by decide, by decide +kernel⟩, by decide⟩
theorem csX3_92 : CB RX3 92 mJ7_fill_53178 2 ∧ Cond.static yJ7_fill_53178 ∈ tb := ⟨cbX3_92, tb_at (i := 339) (by decide +kernel) rfl⟩
theorem cbX3_98 : CB RX3 98 mX3_totalBehind 1 := ⟨tb_at (i := 693) (by decide +kernel) rfl, cdX3_totalBehind, in_AshGreetings_Outlook, ⟨by decide, by decide, by decide +kernel⟩, by decide⟩
theorem cvX3_98 : CV RX3 98 3 mX3_totalBehind 1 := ⟨cbX3_98, tb_at (i := 645) (by decide +kernel) rfl, tb_at (i := 646) (by decide +kernel) rfl, _, _, cfX3⟩
theorem cdX3_fits : Cond.code yX3_fits cX3_fits 3 (some .boolean) ∈ tb := tb_at (i := 717) (by decide +kernel) rfl
theorem cbX3_107 : CB RX3 107 mX3_fits 1 := ⟨tb_at (i := 714) (by decide +kernel) rfl, cdX3_fits, in_AshGreetings_Outlook, ⟨by decide, by decide, by decide +kernel⟩, by decide⟩
theorem cvX3_107 : CV RX3 107 3 mX3_fits 1 := ⟨cbX3_107, tb_at (i := 716) (by decide +kernel) rfl, tb_at (i := 18) (by decide +kernel) rfl, _, _, cfX3⟩
theorem cbX3_122 : CB RX3 122 mX3_kindsThatFit 2 := ⟨tb_at (i := 734) (by decide +kernel) rfl, cdX3_kindsThatFit, in_AshGreetings_Outlook, ⟨by decide, by decide, by decide +kernel⟩, by decide⟩
theorem cvX3_122 : CV RX3 122 3 mX3_kindsThatFit 2 := ⟨cbX3_122, tb_at (i := 711) (by decide +kernel) rfl, tb_at (i := 712) (by decide +kernel) rfl, _, _, cfX3⟩
theorem cdX3_foretellEach : Cond.code yX3_foretellEach cX3_foretellEach 4 none ∈ tb := tb_at (i := 738) (by decide +kernel) rfl
theorem cbX3_126 : CB RX3 126 mX3_foretellEach 1 := ⟨tb_at (i := 735) (by decide +kernel) rfl, cdX3_foretellEach, in_AshGreetings_Outlook, ⟨by decide, by decide, by decide +kernel⟩, by decide⟩
theorem cvX3_126 : CV RX3 126 3 mX3_foretellEach 1 := ⟨cbX3_126, tb_at (i := 737) (by decide +kernel) rfl, tb_at (i := 19) (by decide +kernel) rfl, _, _, cfX3⟩
theorem cdX3_greatestPart : Cond.code yX3_greatestPart cX3_greatestPart 8 (some .int) ∈ tb := tb_at (i := 742) (by decide +kernel) rfl
theorem cbX3_130 : CB RX3 130 mX3_greatestPart 2 := ⟨tb_at (i := 739) (by decide +kernel) rfl, cdX3_greatestPart, in_AshGreetings_Outlook, ⟨by decide, by decide, by decide +kernel⟩, by decide⟩
theorem cvX3_130 : CV RX3 130 3 mX3_greatestPart 2 := ⟨cbX3_130, tb_at (i := 741) (by decide +kernel) rfl, tb_at (i := 20) (by decide +kernel) rfl, _, _, cfX3⟩
theorem cdX3_mostByWind : Cond.code yX3_mostByWind cX3_mostByWind 5 (some .int) ∈ tb := tb_at (i := 754) (by decide +kernel) rfl
theorem cbX3_133 : CB RX3 133 mX3_mostByWind 1 := ⟨tb_at (i := 751) (by decide +kernel) rfl, cdX3_mostByWind, in_AshGreetings_Outlook, ⟨by decide, by decide, by decide +kernel⟩, by decide⟩
theorem cvX3_133 : CV RX3 133 3 mX3_mostByWind 1 := ⟨cbX3_133, tb_at (i := 753) (by decide +kernel) rfl, tb_at (i := 22) (by decide +kernel) rfl, _, _, cfX3⟩
theorem cdX3_leastByAsh : Cond.code yX3_leastByAsh cX3_leastByAsh 5 (some .int) ∈ tb := tb_at (i := 750) (by decide +kernel) rfl
theorem cbX3_139 : CB RX3 139 mX3_leastByAsh 1 := ⟨tb_at (i := 755) (by decide +kernel) rfl, cdX3_leastByAsh, in_AshGreetings_Outlook, ⟨by decide, by decide, by decide +kernel⟩, by decide⟩
theorem cvX3_139 : CV RX3 139 3 mX3_leastByAsh 1 := ⟨cbX3_139, tb_at (i := 749) (by decide +kernel) rfl, tb_at (i := 21) (by decide +kernel) rfl, _, _, cfX3⟩
theorem cdX1_init : Cond.code yX1_init cX1_init 1 none ∈ tb := tb_at (i := 123) (by decide +kernel) rfl
theorem cbX4_1 : CB RX4 1 mX1_init 0 := ⟨tb_at (i := 145) (by decide +kernel) rfl, cdX1_init, in_AshGreetings_Devout, ⟨by decide, by decide, by decide +kernel⟩, by decide⟩
theorem ciX4_1 : CB RX4 1 mX1_init 0 ∧ yX1_init.name = "<init>" ∧ Cond.instanceMethod yX1_init ∈ tb := ⟨cbX4_1, rfl, tb_at (i := 122) (by decide +kernel) rfl⟩
theorem cdX5_valueOf : Cond.code yX5_valueOf cX5_valueOf 3 (some .int) ∈ tb := tb_at (i := 411) (by decide +kernel) rfl
theorem cbX5_27 : CB RX5 27 mX5_valueOf 1 := ⟨tb_at (i := 408) (by decide +kernel) rfl, cdX5_valueOf, in_AshGreetings_Reading, ⟨by decide, by decide, by decide +kernel⟩, by decide⟩
theorem cvX5_27 : CV RX5 27 5 mX5_valueOf 1 := ⟨cbX5_27, tb_at (i := 410) (by decide +kernel) rfl, tb_at (i := 4) (by decide +kernel) rfl, _, _, cfX5⟩
theorem cdX5_howManyPeople : Cond.code yX5_howManyPeople cX5_howManyPeople 1 (some .int) ∈ tb := tb_at (i := 423) (by decide +kernel) rfl
theorem cbX5_31 : CB RX5 31 mX5_howManyPeople 0 := ⟨tb_at (i := 420) (by decide +kernel) rfl, cdX5_howManyPeople, in_AshGreetings_Reading, ⟨by decide, by decide, by decide +kernel⟩, by decide⟩
theorem cvX5_31 : CV RX5 31 5 mX5_howManyPeople 0 := ⟨cbX5_31, tb_at (i := 421) (by decide +kernel) rfl, tb_at (i := 422) (by decide +kernel) rfl, _, _, cfX5⟩
theorem cdX5_figure : Cond.code yX5_figure cX5_figure 3 (some .int) ∈ tb := tb_at (i := 414) (by decide +kernel) rfl
theorem cbX5_35 : CB RX5 35 mX5_figure 2 := ⟨tb_at (i := 412) (by decide +kernel) rfl, cdX5_figure, in_AshGreetings_Reading, ⟨by decide, by decide, by decide +kernel⟩, by decide⟩
theorem csX5_35 : CB RX5 35 mX5_figure 2 ∧ Cond.static yX5_figure ∈ tb := ⟨cbX5_35, tb_at (i := 413) (by decide +kernel) rfl⟩
theorem cdX5_kindOf : Cond.code yX5_kindOf cX5_kindOf 2 (some .int) ∈ tb := tb_at (i := 417) (by decide +kernel) rfl
theorem cbX5_39 : CB RX5 39 mX5_kindOf 1 := ⟨tb_at (i := 415) (by decide +kernel) rfl, cdX5_kindOf, in_AshGreetings_Reading, ⟨by decide, by decide, by decide +kernel⟩, by decide⟩
theorem csX5_39 : CB RX5 39 mX5_kindOf 1 ∧ Cond.static yX5_kindOf ∈ tb := ⟨cbX5_39, tb_at (i := 416) (by decide +kernel) rfl⟩
theorem cbX6_1 : CB RX6 1 mX2_init 0 := ⟨tb_at (i := 138) (by decide +kernel) rfl, cdX2_init, in_AshGreetings_Neighbour, ⟨by decide, by decide, by decide +kernel⟩, by decide⟩
theorem ciX6_1 : CB RX6 1 mX2_init 0 ∧ yX2_init.name = "<init>" ∧ Cond.instanceMethod yX2_init ∈ tb := ⟨cbX6_1, rfl, tb_at (i := 115) (by decide +kernel) rfl⟩
theorem cbX7_26 : CB RX7 26 mJ7_fill_53178 2 := ⟨tb_at (i := 338) (by decide +kernel) rfl, cdJ7_fill_53178, in_java_util_Arrays, ⟨by decide, by decide, by decide +kernel⟩, by decide⟩
theorem csX7_26 : CB RX7 26 mJ7_fill_53178 2 ∧ Cond.static yJ7_fill_53178 ∈ tb := ⟨cbX7_26, tb_at (i := 339) (by decide +kernel) rfl⟩
theorem cbX8_1 : CB RX8 1 mX2_init 0 := ⟨tb_at (i := 131) (by decide +kernel) rfl, cdX2_init, in_AshGreetings_Neighbour, ⟨by decide, by decide, by decide +kernel⟩, by decide⟩
theorem ciX8_1 : CB RX8 1 mX2_init 0 ∧ yX2_init.name = "<init>" ∧ Cond.instanceMethod yX2_init ∈ tb := ⟨cbX8_1, rfl, tb_at (i := 115) (by decide +kernel) rfl⟩
theorem cbX9_23 : CB RX9 23 mX2_init 0 := ⟨tb_at (i := 114) (by decide +kernel) rfl, cdX2_init, in_AshGreetings_Neighbour, ⟨by decide, by decide, by decide +kernel⟩, by decide⟩
theorem ciX9_23 : CB RX9 23 mX2_init 0 ∧ yX2_init.name = "<init>" ∧ Cond.instanceMethod yX2_init ∈ tb := ⟨cbX9_23, rfl, tb_at (i := 115) (by decide +kernel) rfl⟩
theorem cbX9_26 : CB RX9 26 mX1_init 0 := ⟨tb_at (i := 121) (by decide +kernel) rfl, cdX1_init, in_AshGreetings_Devout, ⟨by decide, by decide, by decide +kernel⟩, by decide⟩
theorem ciX9_26 : CB RX9 26 mX1_init 0 ∧ yX1_init.name = "<init>" ∧ Cond.instanceMethod yX1_init ∈ tb := ⟨cbX9_26, rfl, tb_at (i := 122) (by decide +kernel) rfl⟩
theorem cbX9_29 : CB RX9 29 mX8_init 0 := ⟨tb_at (i := 128) (by decide +kernel) rfl, cdX8_init, in_AshGreetings_Stubborn, ⟨by decide, by decide, by decide +kernel⟩, by decide⟩
theorem ciX9_29 : CB RX9 29 mX8_init 0 ∧ yX8_init.name = "<init>" ∧ Cond.instanceMethod yX8_init ∈ tb := ⟨cbX9_29, rfl, tb_at (i := 129) (by decide +kernel) rfl⟩
theorem cdX6_init : Cond.code yX6_init cX6_init 1 none ∈ tb := tb_at (i := 137) (by decide +kernel) rfl
theorem cbX9_32 : CB RX9 32 mX6_init 0 := ⟨tb_at (i := 135) (by decide +kernel) rfl, cdX6_init, in_AshGreetings_ShortOne, ⟨by decide, by decide, by decide +kernel⟩, by decide⟩
theorem ciX9_32 : CB RX9 32 mX6_init 0 ∧ yX6_init.name = "<init>" ∧ Cond.instanceMethod yX6_init ∈ tb := ⟨cbX9_32, rfl, tb_at (i := 136) (by decide +kernel) rfl⟩
theorem cdX4_init : Cond.code yX4_init cX4_init 1 none ∈ tb := tb_at (i := 144) (by decide +kernel) rfl
theorem in_AshGreetings_Priest : Cond.initialized "AshGreetings$Priest" ∈ tb := tb_at (i := 72) (by decide +kernel) rfl
theorem cbX9_35 : CB RX9 35 mX4_init 0 := ⟨tb_at (i := 142) (by decide +kernel) rfl, cdX4_init, in_AshGreetings_Priest, ⟨by decide, by decide, by decide +kernel⟩, by decide⟩
theorem ciX9_35 : CB RX9 35 mX4_init 0 ∧ yX4_init.name = "<init>" ∧ Cond.instanceMethod yX4_init ∈ tb := ⟨cbX9_35, rfl, tb_at (i := 143) (by decide +kernel) rfl⟩
theorem cdX0_init : Cond.code yX0_init cX0_init 1 none ∈ tb := tb_at (i := 151) (by decide +kernel) rfl
theorem cbX9_38 : CB RX9 38 mX0_init 0 := ⟨tb_at (i := 149) (by decide +kernel) rfl, cdX0_init, in_AshGreetings_Brother, ⟨by decide, by decide, by decide +kernel⟩, by decide⟩
theorem ciX9_38 : CB RX9 38 mX0_init 0 ∧ yX0_init.name = "<init>" ∧ Cond.instanceMethod yX0_init ∈ tb := ⟨cbX9_38, rfl, tb_at (i := 150) (by decide +kernel) rfl⟩
theorem cbX9_80 : CB RX9 80 mX5_howManyPeople 0 := ⟨tb_at (i := 432) (by decide +kernel) rfl, cdX5_howManyPeople, in_AshGreetings_Reading, ⟨by decide, by decide, by decide +kernel⟩, by decide⟩
theorem cvX9_80 : CV RX9 80 5 mX5_howManyPeople 0 := ⟨cbX9_80, tb_at (i := 421) (by decide +kernel) rfl, tb_at (i := 422) (by decide +kernel) rfl, _, _, cfX5⟩
theorem cdX9_further : Cond.code yX9_further cX9_further 4 (some .int) ∈ tb := tb_at (i := 438) (by decide +kernel) rfl
theorem cbX9_98 : CB RX9 98 mX9_further 2 := ⟨tb_at (i := 435) (by decide +kernel) rfl, cdX9_further, in_AshGreetings_Town, ⟨by decide, by decide, by decide +kernel⟩, by decide⟩
theorem cvX9_98 : CV RX9 98 9 mX9_further 2 := ⟨cbX9_98, tb_at (i := 437) (by decide +kernel) rfl, tb_at (i := 5) (by decide +kernel) rfl, _, _, cfX9⟩
theorem cdX9_startAnew : Cond.code yX9_startAnew cX9_startAnew 1 none ∈ tb := tb_at (i := 442) (by decide +kernel) rfl
theorem cbX9_101 : CB RX9 101 mX9_startAnew 0 := ⟨tb_at (i := 439) (by decide +kernel) rfl, cdX9_startAnew, in_AshGreetings_Town, ⟨by decide, by decide, by decide +kernel⟩, by decide⟩
theorem cvX9_101 : CV RX9 101 9 mX9_startAnew 0 := ⟨cbX9_101, tb_at (i := 441) (by decide +kernel) rfl, tb_at (i := 6) (by decide +kernel) rfl, _, _, cfX9⟩
theorem cbX9_110 : CB RX9 110 mX9_becomeAside 1 := ⟨tb_at (i := 622) (by decide +kernel) rfl, cdX9_becomeAside, in_AshGreetings_Town, ⟨by decide, by decide, by decide +kernel⟩, by decide⟩
theorem cvX9_110 : CV RX9 110 9 mX9_becomeAside 1 := ⟨cbX9_110, tb_at (i := 623) (by decide +kernel) rfl, tb_at (i := 624) (by decide +kernel) rfl, _, _, cfX9⟩
theorem cdX9_carryOut : Cond.code yX9_carryOut cX9_carryOut 3 none ∈ tb := tb_at (i := 540) (by decide +kernel) rfl
theorem cbX9_114 : CB RX9 114 mX9_carryOut 1 := ⟨tb_at (i := 537) (by decide +kernel) rfl, cdX9_carryOut, in_AshGreetings_Town, ⟨by decide, by decide, by decide +kernel⟩, by decide⟩
theorem cvX9_114 : CV RX9 114 9 mX9_carryOut 1 := ⟨cbX9_114, tb_at (i := 539) (by decide +kernel) rfl, tb_at (i := 10) (by decide +kernel) rfl, _, _, cfX9⟩
theorem cdX9_passDay : Cond.code yX9_passDay cX9_passDay 2 none ∈ tb := tb_at (i := 544) (by decide +kernel) rfl
theorem cbX9_118 : CB RX9 118 mX9_passDay 0 := ⟨tb_at (i := 541) (by decide +kernel) rfl, cdX9_passDay, in_AshGreetings_Town, ⟨by decide, by decide, by decide +kernel⟩, by decide⟩
theorem cvX9_118 : CV RX9 118 9 mX9_passDay 0 := ⟨cbX9_118, tb_at (i := 543) (by decide +kernel) rfl, tb_at (i := 11) (by decide +kernel) rfl, _, _, cfX9⟩
theorem cbX9_121 : CB RX9 121 mX9_sortOf 1 := ⟨tb_at (i := 460) (by decide +kernel) rfl, cdX9_sortOf, in_AshGreetings_Town, ⟨by decide, by decide, by decide +kernel⟩, by decide⟩
theorem cvX9_121 : CV RX9 121 9 mX9_sortOf 1 := ⟨cbX9_121, tb_at (i := 461) (by decide +kernel) rfl, tb_at (i := 462) (by decide +kernel) rfl, _, _, cfX9⟩
theorem cbX9_125 : CB RX9 125 mX9_moodOf 1 := ⟨tb_at (i := 545) (by decide +kernel) rfl, cdX9_moodOf, in_AshGreetings_Town, ⟨by decide, by decide, by decide +kernel⟩, by decide⟩
theorem cvX9_125 : CV RX9 125 9 mX9_moodOf 1 := ⟨cbX9_125, tb_at (i := 546) (by decide +kernel) rfl, tb_at (i := 547) (by decide +kernel) rfl, _, _, cfX9⟩
theorem cuX9_129_2 : CU RX9 129 2 yX2_grudgeBehind mX2_grudgeBehind 3 := ⟨tb_at (i := 561) (by decide +kernel) rfl, tb_at (i := 564) (by decide +kernel) rfl, tb_at (i := 563) (by decide +kernel) rfl, tb_at (i := 562) (by decide +kernel) rfl, in_AshGreetings_Neighbour, cdX2_grudgeBehind, ⟨by decide, by decide, by decide +kernel⟩, by decide, Or.inl rfl, _, _, cfX2⟩
theorem cuX9_129_1 : CU RX9 129 1 yX2_grudgeBehind mX2_grudgeBehind 3 := ⟨tb_at (i := 561) (by decide +kernel) rfl, tb_at (i := 564) (by decide +kernel) rfl, tb_at (i := 566) (by decide +kernel) rfl, tb_at (i := 562) (by decide +kernel) rfl, in_AshGreetings_Neighbour, cdX2_grudgeBehind, ⟨by decide, by decide, by decide +kernel⟩, by decide, Or.inl rfl, _, _, cfX1⟩
theorem cuX9_129_8 : CU RX9 129 8 yX2_grudgeBehind mX2_grudgeBehind 3 := ⟨tb_at (i := 561) (by decide +kernel) rfl, tb_at (i := 564) (by decide +kernel) rfl, tb_at (i := 569) (by decide +kernel) rfl, tb_at (i := 562) (by decide +kernel) rfl, in_AshGreetings_Neighbour, cdX2_grudgeBehind, ⟨by decide, by decide, by decide +kernel⟩, by decide, Or.inl rfl, _, _, cfX8⟩
theorem cuX9_129_6 : CU RX9 129 6 yX2_grudgeBehind mX2_grudgeBehind 3 := ⟨tb_at (i := 561) (by decide +kernel) rfl, tb_at (i := 564) (by decide +kernel) rfl, tb_at (i := 568) (by decide +kernel) rfl, tb_at (i := 562) (by decide +kernel) rfl, in_AshGreetings_Neighbour, cdX2_grudgeBehind, ⟨by decide, by decide, by decide +kernel⟩, by decide, Or.inl rfl, _, _, cfX6⟩
theorem cuX9_129_4 : CU RX9 129 4 yX2_grudgeBehind mX2_grudgeBehind 3 := ⟨tb_at (i := 561) (by decide +kernel) rfl, tb_at (i := 564) (by decide +kernel) rfl, tb_at (i := 567) (by decide +kernel) rfl, tb_at (i := 562) (by decide +kernel) rfl, in_AshGreetings_Neighbour, cdX2_grudgeBehind, ⟨by decide, by decide, by decide +kernel⟩, by decide, Or.inl rfl, _, _, cfX4⟩
theorem cuX9_129_0 : CU RX9 129 0 yX2_grudgeBehind mX2_grudgeBehind 3 := ⟨tb_at (i := 561) (by decide +kernel) rfl, tb_at (i := 564) (by decide +kernel) rfl, tb_at (i := 565) (by decide +kernel) rfl, tb_at (i := 562) (by decide +kernel) rfl, in_AshGreetings_Neighbour, cdX2_grudgeBehind, ⟨by decide, by decide, by decide +kernel⟩, by decide, Or.inl rfl, _, _, cfX0⟩
theorem cdX9_meetsFoe : Cond.code yX9_meetsFoe cX9_meetsFoe 6 (some .boolean) ∈ tb := tb_at (i := 479) (by decide +kernel) rfl
theorem cbX9_133 : CB RX9 133 mX9_meetsFoe 1 := ⟨tb_at (i := 476) (by decide +kernel) rfl, cdX9_meetsFoe, in_AshGreetings_Town, ⟨by decide, by decide, by decide +kernel⟩, by decide⟩
theorem cvX9_133 : CV RX9 133 9 mX9_meetsFoe 1 := ⟨cbX9_133, tb_at (i := 477) (by decide +kernel) rfl, tb_at (i := 478) (by decide +kernel) rfl, _, _, cfX9⟩
theorem cdX2_forgivesAll : Cond.code yX2_forgivesAll cX2_forgivesAll 1 (some .boolean) ∈ tb := tb_at (i := 560) (by decide +kernel) rfl
theorem cuX9_137_2 : CU RX9 137 2 yX2_forgivesAll mX2_forgivesAll 0 := ⟨tb_at (i := 549) (by decide +kernel) rfl, tb_at (i := 552) (by decide +kernel) rfl, tb_at (i := 551) (by decide +kernel) rfl, tb_at (i := 550) (by decide +kernel) rfl, in_AshGreetings_Neighbour, cdX2_forgivesAll, ⟨by decide, by decide, by decide +kernel⟩, by decide, Or.inl rfl, _, _, cfX2⟩
theorem cuX9_137_1 : CU RX9 137 1 yX2_forgivesAll mX2_forgivesAll 0 := ⟨tb_at (i := 549) (by decide +kernel) rfl, tb_at (i := 552) (by decide +kernel) rfl, tb_at (i := 554) (by decide +kernel) rfl, tb_at (i := 550) (by decide +kernel) rfl, in_AshGreetings_Neighbour, cdX2_forgivesAll, ⟨by decide, by decide, by decide +kernel⟩, by decide, Or.inl rfl, _, _, cfX1⟩
theorem cuX9_137_8 : CU RX9 137 8 yX2_forgivesAll mX2_forgivesAll 0 := ⟨tb_at (i := 549) (by decide +kernel) rfl, tb_at (i := 552) (by decide +kernel) rfl, tb_at (i := 559) (by decide +kernel) rfl, tb_at (i := 550) (by decide +kernel) rfl, in_AshGreetings_Neighbour, cdX2_forgivesAll, ⟨by decide, by decide, by decide +kernel⟩, by decide, Or.inl rfl, _, _, cfX8⟩
theorem cuX9_137_6 : CU RX9 137 6 yX2_forgivesAll mX2_forgivesAll 0 := ⟨tb_at (i := 549) (by decide +kernel) rfl, tb_at (i := 552) (by decide +kernel) rfl, tb_at (i := 558) (by decide +kernel) rfl, tb_at (i := 550) (by decide +kernel) rfl, in_AshGreetings_Neighbour, cdX2_forgivesAll, ⟨by decide, by decide, by decide +kernel⟩, by decide, Or.inl rfl, _, _, cfX6⟩
theorem cdX4_forgivesAll : Cond.code yX4_forgivesAll cX4_forgivesAll 1 (some .boolean) ∈ tb := tb_at (i := 557) (by decide +kernel) rfl
theorem cuX9_137_4 : CU RX9 137 4 yX2_forgivesAll mX4_forgivesAll 0 := ⟨tb_at (i := 549) (by decide +kernel) rfl, tb_at (i := 552) (by decide +kernel) rfl, tb_at (i := 555) (by decide +kernel) rfl, tb_at (i := 556) (by decide +kernel) rfl, in_AshGreetings_Priest, cdX4_forgivesAll, ⟨by decide, by decide, by decide +kernel⟩, by decide, Or.inr ⟨tb_at (i := 550) (by decide +kernel) rfl, _, _, _, cdX2_forgivesAll⟩, _, _, cfX4⟩
theorem cuX9_137_0 : CU RX9 137 0 yX2_forgivesAll mX2_forgivesAll 0 := ⟨tb_at (i := 549) (by decide +kernel) rfl, tb_at (i := 552) (by decide +kernel) rfl, tb_at (i := 553) (by decide +kernel) rfl, tb_at (i := 550) (by decide +kernel) rfl, in_AshGreetings_Neighbour, cdX2_forgivesAll, ⟨by decide, by decide, by decide +kernel⟩, by decide, Or.inl rfl, _, _, cfX0⟩
theorem cdX9_isHid : Cond.code yX9_isHid cX9_isHid 2 (some .boolean) ∈ tb := tb_at (i := 459) (by decide +kernel) rfl
theorem cbX9_141 : CB RX9 141 mX9_isHid 1 := ⟨tb_at (i := 456) (by decide +kernel) rfl, cdX9_isHid, in_AshGreetings_Town, ⟨by decide, by decide, by decide +kernel⟩, by decide⟩
theorem cvX9_141 : CV RX9 141 9 mX9_isHid 1 := ⟨cbX9_141, tb_at (i := 457) (by decide +kernel) rfl, tb_at (i := 458) (by decide +kernel) rfl, _, _, cfX9⟩
theorem cuX9_144_2 : CU RX9 144 2 yX2_seenAs mX2_seenAs 1 := ⟨tb_at (i := 464) (by decide +kernel) rfl, tb_at (i := 467) (by decide +kernel) rfl, tb_at (i := 466) (by decide +kernel) rfl, tb_at (i := 465) (by decide +kernel) rfl, in_AshGreetings_Neighbour, cdX2_seenAs, ⟨by decide, by decide, by decide +kernel⟩, by decide, Or.inl rfl, _, _, cfX2⟩
theorem cuX9_144_1 : CU RX9 144 1 yX2_seenAs mX2_seenAs 1 := ⟨tb_at (i := 464) (by decide +kernel) rfl, tb_at (i := 467) (by decide +kernel) rfl, tb_at (i := 469) (by decide +kernel) rfl, tb_at (i := 465) (by decide +kernel) rfl, in_AshGreetings_Neighbour, cdX2_seenAs, ⟨by decide, by decide, by decide +kernel⟩, by decide, Or.inl rfl, _, _, cfX1⟩
theorem cuX9_144_8 : CU RX9 144 8 yX2_seenAs mX2_seenAs 1 := ⟨tb_at (i := 464) (by decide +kernel) rfl, tb_at (i := 467) (by decide +kernel) rfl, tb_at (i := 474) (by decide +kernel) rfl, tb_at (i := 465) (by decide +kernel) rfl, in_AshGreetings_Neighbour, cdX2_seenAs, ⟨by decide, by decide, by decide +kernel⟩, by decide, Or.inl rfl, _, _, cfX8⟩
theorem cuX9_144_6 : CU RX9 144 6 yX2_seenAs mX6_seenAs 1 := ⟨tb_at (i := 464) (by decide +kernel) rfl, tb_at (i := 467) (by decide +kernel) rfl, tb_at (i := 471) (by decide +kernel) rfl, tb_at (i := 472) (by decide +kernel) rfl, in_AshGreetings_ShortOne, cdX6_seenAs, ⟨by decide, by decide, by decide +kernel⟩, by decide, Or.inr ⟨tb_at (i := 465) (by decide +kernel) rfl, _, _, _, cdX2_seenAs⟩, _, _, cfX6⟩
theorem cuX9_144_4 : CU RX9 144 4 yX2_seenAs mX2_seenAs 1 := ⟨tb_at (i := 464) (by decide +kernel) rfl, tb_at (i := 467) (by decide +kernel) rfl, tb_at (i := 470) (by decide +kernel) rfl, tb_at (i := 465) (by decide +kernel) rfl, in_AshGreetings_Neighbour, cdX2_seenAs, ⟨by decide, by decide, by decide +kernel⟩, by decide, Or.inl rfl, _, _, cfX4⟩
theorem cuX9_144_0 : CU RX9 144 0 yX2_seenAs mX2_seenAs 1 := ⟨tb_at (i := 464) (by decide +kernel) rfl, tb_at (i := 467) (by decide +kernel) rfl, tb_at (i := 468) (by decide +kernel) rfl, tb_at (i := 465) (by decide +kernel) rfl, in_AshGreetings_Neighbour, cdX2_seenAs, ⟨by decide, by decide, by decide +kernel⟩, by decide, Or.inl rfl, _, _, cfX0⟩
theorem cnX10_230 : CN RX10 230 3 mX3_leastByAsh 1 := ⟨"AshGreetings", List.mem_of_getElem? (i := 0) rfl, cdX3_leastByAsh, in_AshGreetings_Outlook, ⟨by decide, by decide, by decide +kernel⟩, by decide, tb_at (i := 749) (by decide +kernel) rfl, tb_at (i := 21) (by decide +kernel) rfl, _, _, cfX3⟩
theorem mjX10_94 : Cond.methodLink RX10 94 ⟨"java/lang/System", "arraycopy", "(Ljava/lang/Object;ILjava/lang/Object;II)V"⟩ ∈ tb := tb_at (i := 377) (by decide +kernel) rfl
theorem mjX2_15 : Cond.methodLink RX2 15 ⟨"java/lang/Math", "max", "(II)I"⟩ ∈ tb := tb_at (i := 572) (by decide +kernel) rfl
theorem mjX2_25 : Cond.methodLink RX2 25 ⟨"java/lang/Math", "min", "(II)I"⟩ ∈ tb := tb_at (i := 585) (by decide +kernel) rfl
theorem mjX3_83 : Cond.methodLink RX3 83 ⟨"java/lang/Math", "max", "(II)I"⟩ ∈ tb := tb_at (i := 671) (by decide +kernel) rfl
theorem mjX3_136 : Cond.methodLink RX3 136 ⟨"java/lang/Math", "min", "(II)I"⟩ ∈ tb := tb_at (i := 756) (by decide +kernel) rfl
theorem mjX3_142 : Cond.methodLink RX3 142 ⟨"java/lang/System", "arraycopy", "(Ljava/lang/Object;ILjava/lang/Object;II)V"⟩ ∈ tb := tb_at (i := 769) (by decide +kernel) rfl
theorem mjX7_13 : Cond.methodLink RX7 13 ⟨"java/lang/Math", "max", "(II)I"⟩ ∈ tb := tb_at (i := 269) (by decide +kernel) rfl
theorem mjX7_23 : Cond.methodLink RX7 23 ⟨"java/lang/Math", "min", "(II)I"⟩ ∈ tb := tb_at (i := 335) (by decide +kernel) rfl
theorem mjX9_86 : Cond.methodLink RX9 86 ⟨"java/lang/Math", "min", "(II)I"⟩ ∈ tb := tb_at (i := 433) (by decide +kernel) rfl
theorem mjX9_92 : Cond.methodLink RX9 92 ⟨"java/lang/Math", "max", "(II)I"⟩ ∈ tb := tb_at (i := 434) (by decide +kernel) rfl
theorem mjX9_104 : Cond.methodLink RX9 104 ⟨"java/lang/System", "arraycopy", "(Ljava/lang/Object;ILjava/lang/Object;II)V"⟩ ∈ tb := tb_at (i := 443) (by decide +kernel) rfl
theorem in_java_lang_Math : Cond.initialized "java/lang/Math" ∈ tb := tb_at (i := 76) (by decide +kernel) rfl
theorem in_java_lang_System : Cond.initialized "java/lang/System" ∈ tb := tb_at (i := 79) (by decide +kernel) rfl
theorem st_max : Cond.static ⟨"java/lang/Math", "max", "(II)I"⟩ ∈ tb := tb_at (i := 270) (by decide +kernel) rfl
theorem cdJ9_max_7cf53 : Cond.code yJ9_max_7cf53 cJ9_max_7cf53 2 (some .int) ∈ tb := tb_at (i := 271) (by decide +kernel) rfl
theorem st_min : Cond.static ⟨"java/lang/Math", "min", "(II)I"⟩ ∈ tb := tb_at (i := 336) (by decide +kernel) rfl
theorem cdJ9_min_7cf53 : Cond.code yJ9_min_7cf53 cJ9_min_7cf53 2 (some .int) ∈ tb := tb_at (i := 337) (by decide +kernel) rfl
theorem st_ac : Cond.static arraycopyName ∈ tb := tb_at (i := 378) (by decide +kernel) rfl
theorem na_ac : Cond.native arraycopyName ∈ tb := tb_at (i := 379) (by decide +kernel) rfl
