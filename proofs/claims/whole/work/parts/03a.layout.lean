/-! the cells of the system and of the reference -/
def z_fuel : Nat := 1000000
def layX : List z_Sh := [.inr (10, [(2, 1), (2, 2), (2, 3), (2, 14), (2, 20), (2, 21), (2, 22), (2, 33), (2, 39), (2, 41), (2, 43), (2, 45), (2, 48), (2, 51), (2, 54), (0, 0), (0, 0), (0, 0), (0, 0), (0, 0)]), .inl ((.object RX8), 4, 2, [55, 57, 59, 61]), .inl (.byte, 900, 0, []), .inr (0, [(2, 4), (2, 5), (2, 6), (2, 7), (2, 8), (2, 9), (2, 10), (2, 11), (2, 12), (2, 13), (0, 0), (0, 0), (0, 0), (0, 0), (0, 0), (0, 0), (0, 0)]), .inl (.int, 6, 0, []), .inl (.int, 6, 0, []), .inl (.int, 8, 0, []), .inl (.int, 7, 0, []), .inl (.int, 7, 0, []), .inl (.int, 7, 0, []), .inl (.long, 7, 1, []), .inl (.int, 4, 0, []), .inl (.int, 4, 0, []), .inl (.long, 4, 1, []), .inr (5, [(2, 15), (2, 16), (2, 17), (2, 18), (2, 19), (4, 0), (0, 0), (0, 0)]), .inl (.int, 60, 0, []), .inl (.int, 60, 0, []), .inl (.int, 60, 0, []), .inl (.int, 60, 0, []), .inl (.int, 60, 0, []), .inl ((.object RX0), 3, 2, [63, 80, 97]), .inl ((.object RX5), 3, 2, [74, 91, 108]), .inr (0, [(2, 23), (2, 24), (2, 25), (2, 26), (2, 27), (2, 28), (2, 29), (2, 30), (2, 31), (2, 32), (0, 0), (0, 0), (0, 0), (0, 0), (0, 0), (0, 0), (0, 0)]), .inl (.int, 6, 0, []), .inl (.int, 6, 0, []), .inl (.int, 8, 0, []), .inl (.int, 7, 0, []), .inl (.int, 7, 0, []), .inl (.int, 7, 0, []), .inl (.long, 7, 1, []), .inl (.int, 4, 0, []), .inl (.int, 4, 0, []), .inl (.long, 4, 1, []), .inr (5, [(2, 34), (2, 35), (2, 36), (2, 37), (2, 38), (4, 0), (0, 0), (0, 0)]), .inl (.int, 60, 0, []), .inl (.int, 60, 0, []), .inl (.int, 60, 0, []), .inl (.int, 60, 0, []), .inl (.int, 60, 0, []), .inr (7, [(2, 2), (2, 40), (0, 0), (0, 0), (0, 0), (0, 0), (0, 0), (0, 0), (1, 0), (0, 0), (0, 0), (0, 0), (0, 0)]), .inl (.long, 23, 1, []), .inr (1, [(2, 39), (2, 22), (2, 42), (4, 0), (1, 0)]), .inl (.long, 8, 1, []), .inr (6, [(2, 39), (2, 33), (2, 3), (2, 44), (0, 0)]), .inl (.int, 3, 0, []), .inr (4, [(2, 46), (4, 0), (0, 0), (2, 14), (2, 47), (3, 0), (0, 0), (0, 0), (0, 0), (0, 0), (0, 0), (4, 0)]), .inl (.int, 5, 0, []), .inl (.int, 60, 0, []), .inr (9, [(2, 49), (2, 50), (2, 3)]), .inl (.int, 256, 0, []), .inl (.int, 256, 0, []), .inr (2, [(2, 3), (2, 52), (2, 53)]), .inl (.int, 896, 0, []), .inl (.int, 640, 0, []), .inr (3, [(1, 0), (1, 0)]), .inr (8, [(2, 56), (4, 0), (0, 0), (0, 0)]), .inl (.long, 60, 1, []), .inr (8, [(2, 58), (4, 0), (0, 0), (0, 0)]), .inl (.long, 60, 1, []), .inr (8, [(2, 60), (4, 0), (0, 0), (0, 0)]), .inl (.long, 60, 1, []), .inr (8, [(2, 62), (4, 0), (0, 0), (0, 0)]), .inl (.long, 60, 1, []), .inr (0, [(2, 64), (2, 65), (2, 66), (2, 67), (2, 68), (2, 69), (2, 70), (2, 71), (2, 72), (2, 73), (0, 0), (0, 0), (0, 0), (0, 0), (0, 0), (0, 0), (0, 0)]), .inl (.int, 6, 0, []), .inl (.int, 6, 0, []), .inl (.int, 8, 0, []), .inl (.int, 7, 0, []), .inl (.int, 7, 0, []), .inl (.int, 7, 0, []), .inl (.long, 7, 1, []), .inl (.int, 4, 0, []), .inl (.int, 4, 0, []), .inl (.long, 4, 1, []), .inr (5, [(2, 75), (2, 76), (2, 77), (2, 78), (2, 79), (4, 0), (0, 0), (0, 0)]), .inl (.int, 60, 0, []), .inl (.int, 60, 0, []), .inl (.int, 60, 0, []), .inl (.int, 60, 0, []), .inl (.int, 60, 0, []), .inr (0, [(2, 81), (2, 82), (2, 83), (2, 84), (2, 85), (2, 86), (2, 87), (2, 88), (2, 89), (2, 90), (0, 0), (0, 0), (0, 0), (0, 0), (0, 0), (0, 0), (0, 0)]), .inl (.int, 6, 0, []), .inl (.int, 6, 0, []), .inl (.int, 8, 0, []), .inl (.int, 7, 0, []), .inl (.int, 7, 0, []), .inl (.int, 7, 0, []), .inl (.long, 7, 1, []), .inl (.int, 4, 0, []), .inl (.int, 4, 0, []), .inl (.long, 4, 1, []), .inr (5, [(2, 92), (2, 93), (2, 94), (2, 95), (2, 96), (4, 0), (0, 0), (0, 0)]), .inl (.int, 60, 0, []), .inl (.int, 60, 0, []), .inl (.int, 60, 0, []), .inl (.int, 60, 0, []), .inl (.int, 60, 0, []), .inr (0, [(2, 98), (2, 99), (2, 100), (2, 101), (2, 102), (2, 103), (2, 104), (2, 105), (2, 106), (2, 107), (0, 0), (0, 0), (0, 0), (0, 0), (0, 0), (0, 0), (0, 0)]), .inl (.int, 6, 0, []), .inl (.int, 6, 0, []), .inl (.int, 8, 0, []), .inl (.int, 7, 0, []), .inl (.int, 7, 0, []), .inl (.int, 7, 0, []), .inl (.long, 7, 1, []), .inl (.int, 4, 0, []), .inl (.int, 4, 0, []), .inl (.long, 4, 1, []), .inr (5, [(2, 109), (2, 110), (2, 111), (2, 112), (2, 113), (4, 0), (0, 0), (0, 0)]), .inl (.int, 60, 0, []), .inl (.int, 60, 0, []), .inl (.int, 60, 0, []), .inl (.int, 60, 0, []), .inl (.int, 60, 0, [])]
theorem lx_0 : layX[0]? = some (.inr (10, [(2, 1), (2, 2), (2, 3), (2, 14), (2, 20), (2, 21), (2, 22), (2, 33), (2, 39), (2, 41), (2, 43), (2, 45), (2, 48), (2, 51), (2, 54), (0, 0), (0, 0), (0, 0), (0, 0), (0, 0)])) := rfl
theorem lx_1 : layX[1]? = some (.inl ((.object RX8), 4, 2, [55, 57, 59, 61])) := rfl
theorem lx_2 : layX[2]? = some (.inl (.byte, 900, 0, [])) := rfl
theorem lx_3 : layX[3]? = some (.inr (0, [(2, 4), (2, 5), (2, 6), (2, 7), (2, 8), (2, 9), (2, 10), (2, 11), (2, 12), (2, 13), (0, 0), (0, 0), (0, 0), (0, 0), (0, 0), (0, 0), (0, 0)])) := rfl
theorem lx_4 : layX[4]? = some (.inl (.int, 6, 0, [])) := rfl
theorem lx_5 : layX[5]? = some (.inl (.int, 6, 0, [])) := rfl
theorem lx_6 : layX[6]? = some (.inl (.int, 8, 0, [])) := rfl
theorem lx_7 : layX[7]? = some (.inl (.int, 7, 0, [])) := rfl
theorem lx_8 : layX[8]? = some (.inl (.int, 7, 0, [])) := rfl
theorem lx_9 : layX[9]? = some (.inl (.int, 7, 0, [])) := rfl
theorem lx_10 : layX[10]? = some (.inl (.long, 7, 1, [])) := rfl
theorem lx_11 : layX[11]? = some (.inl (.int, 4, 0, [])) := rfl
theorem lx_12 : layX[12]? = some (.inl (.int, 4, 0, [])) := rfl
theorem lx_13 : layX[13]? = some (.inl (.long, 4, 1, [])) := rfl
theorem lx_14 : layX[14]? = some (.inr (5, [(2, 15), (2, 16), (2, 17), (2, 18), (2, 19), (4, 0), (0, 0), (0, 0)])) := rfl
theorem lx_15 : layX[15]? = some (.inl (.int, 60, 0, [])) := rfl
theorem lx_16 : layX[16]? = some (.inl (.int, 60, 0, [])) := rfl
theorem lx_17 : layX[17]? = some (.inl (.int, 60, 0, [])) := rfl
theorem lx_18 : layX[18]? = some (.inl (.int, 60, 0, [])) := rfl
theorem lx_19 : layX[19]? = some (.inl (.int, 60, 0, [])) := rfl
theorem lx_20 : layX[20]? = some (.inl ((.object RX0), 3, 2, [63, 80, 97])) := rfl
theorem lx_21 : layX[21]? = some (.inl ((.object RX5), 3, 2, [74, 91, 108])) := rfl
theorem lx_22 : layX[22]? = some (.inr (0, [(2, 23), (2, 24), (2, 25), (2, 26), (2, 27), (2, 28), (2, 29), (2, 30), (2, 31), (2, 32), (0, 0), (0, 0), (0, 0), (0, 0), (0, 0), (0, 0), (0, 0)])) := rfl
theorem lx_23 : layX[23]? = some (.inl (.int, 6, 0, [])) := rfl
theorem lx_24 : layX[24]? = some (.inl (.int, 6, 0, [])) := rfl
theorem lx_25 : layX[25]? = some (.inl (.int, 8, 0, [])) := rfl
theorem lx_26 : layX[26]? = some (.inl (.int, 7, 0, [])) := rfl
theorem lx_27 : layX[27]? = some (.inl (.int, 7, 0, [])) := rfl
theorem lx_28 : layX[28]? = some (.inl (.int, 7, 0, [])) := rfl
theorem lx_29 : layX[29]? = some (.inl (.long, 7, 1, [])) := rfl
theorem lx_30 : layX[30]? = some (.inl (.int, 4, 0, [])) := rfl
theorem lx_31 : layX[31]? = some (.inl (.int, 4, 0, [])) := rfl
theorem lx_32 : layX[32]? = some (.inl (.long, 4, 1, [])) := rfl
theorem lx_33 : layX[33]? = some (.inr (5, [(2, 34), (2, 35), (2, 36), (2, 37), (2, 38), (4, 0), (0, 0), (0, 0)])) := rfl
theorem lx_34 : layX[34]? = some (.inl (.int, 60, 0, [])) := rfl
theorem lx_35 : layX[35]? = some (.inl (.int, 60, 0, [])) := rfl
theorem lx_36 : layX[36]? = some (.inl (.int, 60, 0, [])) := rfl
theorem lx_37 : layX[37]? = some (.inl (.int, 60, 0, [])) := rfl
theorem lx_38 : layX[38]? = some (.inl (.int, 60, 0, [])) := rfl
theorem lx_39 : layX[39]? = some (.inr (7, [(2, 2), (2, 40), (0, 0), (0, 0), (0, 0), (0, 0), (0, 0), (0, 0), (1, 0), (0, 0), (0, 0), (0, 0), (0, 0)])) := rfl
theorem lx_40 : layX[40]? = some (.inl (.long, 23, 1, [])) := rfl
theorem lx_41 : layX[41]? = some (.inr (1, [(2, 39), (2, 22), (2, 42), (4, 0), (1, 0)])) := rfl
theorem lx_42 : layX[42]? = some (.inl (.long, 8, 1, [])) := rfl
theorem lx_43 : layX[43]? = some (.inr (6, [(2, 39), (2, 33), (2, 3), (2, 44), (0, 0)])) := rfl
theorem lx_44 : layX[44]? = some (.inl (.int, 3, 0, [])) := rfl
theorem lx_45 : layX[45]? = some (.inr (4, [(2, 46), (4, 0), (0, 0), (2, 14), (2, 47), (3, 0), (0, 0), (0, 0), (0, 0), (0, 0), (0, 0), (4, 0)])) := rfl
theorem lx_46 : layX[46]? = some (.inl (.int, 5, 0, [])) := rfl
theorem lx_47 : layX[47]? = some (.inl (.int, 60, 0, [])) := rfl
theorem lx_48 : layX[48]? = some (.inr (9, [(2, 49), (2, 50), (2, 3)])) := rfl
theorem lx_49 : layX[49]? = some (.inl (.int, 256, 0, [])) := rfl
theorem lx_50 : layX[50]? = some (.inl (.int, 256, 0, [])) := rfl
theorem lx_51 : layX[51]? = some (.inr (2, [(2, 3), (2, 52), (2, 53)])) := rfl
theorem lx_52 : layX[52]? = some (.inl (.int, 896, 0, [])) := rfl
theorem lx_53 : layX[53]? = some (.inl (.int, 640, 0, [])) := rfl
theorem lx_54 : layX[54]? = some (.inr (3, [(1, 0), (1, 0)])) := rfl
theorem lx_55 : layX[55]? = some (.inr (8, [(2, 56), (4, 0), (0, 0), (0, 0)])) := rfl
theorem lx_56 : layX[56]? = some (.inl (.long, 60, 1, [])) := rfl
theorem lx_57 : layX[57]? = some (.inr (8, [(2, 58), (4, 0), (0, 0), (0, 0)])) := rfl
theorem lx_58 : layX[58]? = some (.inl (.long, 60, 1, [])) := rfl
theorem lx_59 : layX[59]? = some (.inr (8, [(2, 60), (4, 0), (0, 0), (0, 0)])) := rfl
theorem lx_60 : layX[60]? = some (.inl (.long, 60, 1, [])) := rfl
theorem lx_61 : layX[61]? = some (.inr (8, [(2, 62), (4, 0), (0, 0), (0, 0)])) := rfl
theorem lx_62 : layX[62]? = some (.inl (.long, 60, 1, [])) := rfl
theorem lx_63 : layX[63]? = some (.inr (0, [(2, 64), (2, 65), (2, 66), (2, 67), (2, 68), (2, 69), (2, 70), (2, 71), (2, 72), (2, 73), (0, 0), (0, 0), (0, 0), (0, 0), (0, 0), (0, 0), (0, 0)])) := rfl
theorem lx_64 : layX[64]? = some (.inl (.int, 6, 0, [])) := rfl
theorem lx_65 : layX[65]? = some (.inl (.int, 6, 0, [])) := rfl
theorem lx_66 : layX[66]? = some (.inl (.int, 8, 0, [])) := rfl
theorem lx_67 : layX[67]? = some (.inl (.int, 7, 0, [])) := rfl
theorem lx_68 : layX[68]? = some (.inl (.int, 7, 0, [])) := rfl
theorem lx_69 : layX[69]? = some (.inl (.int, 7, 0, [])) := rfl
theorem lx_70 : layX[70]? = some (.inl (.long, 7, 1, [])) := rfl
theorem lx_71 : layX[71]? = some (.inl (.int, 4, 0, [])) := rfl
theorem lx_72 : layX[72]? = some (.inl (.int, 4, 0, [])) := rfl
theorem lx_73 : layX[73]? = some (.inl (.long, 4, 1, [])) := rfl
theorem lx_74 : layX[74]? = some (.inr (5, [(2, 75), (2, 76), (2, 77), (2, 78), (2, 79), (4, 0), (0, 0), (0, 0)])) := rfl
theorem lx_75 : layX[75]? = some (.inl (.int, 60, 0, [])) := rfl
theorem lx_76 : layX[76]? = some (.inl (.int, 60, 0, [])) := rfl
theorem lx_77 : layX[77]? = some (.inl (.int, 60, 0, [])) := rfl
theorem lx_78 : layX[78]? = some (.inl (.int, 60, 0, [])) := rfl
theorem lx_79 : layX[79]? = some (.inl (.int, 60, 0, [])) := rfl
theorem lx_80 : layX[80]? = some (.inr (0, [(2, 81), (2, 82), (2, 83), (2, 84), (2, 85), (2, 86), (2, 87), (2, 88), (2, 89), (2, 90), (0, 0), (0, 0), (0, 0), (0, 0), (0, 0), (0, 0), (0, 0)])) := rfl
theorem lx_81 : layX[81]? = some (.inl (.int, 6, 0, [])) := rfl
theorem lx_82 : layX[82]? = some (.inl (.int, 6, 0, [])) := rfl
theorem lx_83 : layX[83]? = some (.inl (.int, 8, 0, [])) := rfl
theorem lx_84 : layX[84]? = some (.inl (.int, 7, 0, [])) := rfl
theorem lx_85 : layX[85]? = some (.inl (.int, 7, 0, [])) := rfl
theorem lx_86 : layX[86]? = some (.inl (.int, 7, 0, [])) := rfl
theorem lx_87 : layX[87]? = some (.inl (.long, 7, 1, [])) := rfl
theorem lx_88 : layX[88]? = some (.inl (.int, 4, 0, [])) := rfl
theorem lx_89 : layX[89]? = some (.inl (.int, 4, 0, [])) := rfl
theorem lx_90 : layX[90]? = some (.inl (.long, 4, 1, [])) := rfl
theorem lx_91 : layX[91]? = some (.inr (5, [(2, 92), (2, 93), (2, 94), (2, 95), (2, 96), (4, 0), (0, 0), (0, 0)])) := rfl
theorem lx_92 : layX[92]? = some (.inl (.int, 60, 0, [])) := rfl
theorem lx_93 : layX[93]? = some (.inl (.int, 60, 0, [])) := rfl
theorem lx_94 : layX[94]? = some (.inl (.int, 60, 0, [])) := rfl
theorem lx_95 : layX[95]? = some (.inl (.int, 60, 0, [])) := rfl
theorem lx_96 : layX[96]? = some (.inl (.int, 60, 0, [])) := rfl
theorem lx_97 : layX[97]? = some (.inr (0, [(2, 98), (2, 99), (2, 100), (2, 101), (2, 102), (2, 103), (2, 104), (2, 105), (2, 106), (2, 107), (0, 0), (0, 0), (0, 0), (0, 0), (0, 0), (0, 0), (0, 0)])) := rfl
theorem lx_98 : layX[98]? = some (.inl (.int, 6, 0, [])) := rfl
theorem lx_99 : layX[99]? = some (.inl (.int, 6, 0, [])) := rfl
theorem lx_100 : layX[100]? = some (.inl (.int, 8, 0, [])) := rfl
theorem lx_101 : layX[101]? = some (.inl (.int, 7, 0, [])) := rfl
theorem lx_102 : layX[102]? = some (.inl (.int, 7, 0, [])) := rfl
theorem lx_103 : layX[103]? = some (.inl (.int, 7, 0, [])) := rfl
theorem lx_104 : layX[104]? = some (.inl (.long, 7, 1, [])) := rfl
theorem lx_105 : layX[105]? = some (.inl (.int, 4, 0, [])) := rfl
theorem lx_106 : layX[106]? = some (.inl (.int, 4, 0, [])) := rfl
theorem lx_107 : layX[107]? = some (.inl (.long, 4, 1, [])) := rfl
theorem lx_108 : layX[108]? = some (.inr (5, [(2, 109), (2, 110), (2, 111), (2, 112), (2, 113), (4, 0), (0, 0), (0, 0)])) := rfl
theorem lx_109 : layX[109]? = some (.inl (.int, 60, 0, [])) := rfl
theorem lx_110 : layX[110]? = some (.inl (.int, 60, 0, [])) := rfl
theorem lx_111 : layX[111]? = some (.inl (.int, 60, 0, [])) := rfl
theorem lx_112 : layX[112]? = some (.inl (.int, 60, 0, [])) := rfl
theorem lx_113 : layX[113]? = some (.inl (.int, 60, 0, [])) := rfl
def layM : List z_Sh := [.inr (11, [(2, 1), (2, 2), (0, 0), (1, 0), (1, 0), (2, 3), (2, 4), (2, 5), (2, 6), (2, 7), (0, 0), (0, 0), (0, 0), (0, 0), (0, 0), (0, 0), (0, 0), (0, 0), (0, 0), (0, 0), (0, 0), (2, 8), (0, 0), (0, 0), (2, 9), (2, 10), (2, 11), (2, 12), (0, 0), (0, 0), (2, 13), (2, 14), (0, 0), (0, 0), (2, 15), (2, 16), (2, 17), (2, 18), (2, 19), (0, 0), (0, 0), (2, 20), (2, 21), (2, 22), (4, 0), (0, 0)]), .inl (.int, 2200, 0, []), .inl (.long, 114, 1, []), .inl (.int, 4, 0, []), .inl (.int, 4, 0, []), .inl (.long, 240, 1, []), .inl (.byte, 900, 0, []), .inl (.byte, 900, 0, []), .inl (.int, 3, 0, []), .inl (.int, 4, 0, []), .inl (.int, 4, 0, []), .inl (.int, 4, 0, []), .inl (.int, 3, 0, []), .inl (.int, 256, 0, []), .inl (.int, 256, 0, []), .inl (.int, 5, 0, []), .inl (.int, 5, 0, []), .inl (.int, 5, 0, []), .inl (.int, 5, 0, []), .inl (.int, 5, 0, []), .inl (.int, 80, 0, []), .inl (.int, 5, 0, []), .inl (.int, 5, 0, [])]
theorem lm_0 : layM[0]? = some (.inr (11, [(2, 1), (2, 2), (0, 0), (1, 0), (1, 0), (2, 3), (2, 4), (2, 5), (2, 6), (2, 7), (0, 0), (0, 0), (0, 0), (0, 0), (0, 0), (0, 0), (0, 0), (0, 0), (0, 0), (0, 0), (0, 0), (2, 8), (0, 0), (0, 0), (2, 9), (2, 10), (2, 11), (2, 12), (0, 0), (0, 0), (2, 13), (2, 14), (0, 0), (0, 0), (2, 15), (2, 16), (2, 17), (2, 18), (2, 19), (0, 0), (0, 0), (2, 20), (2, 21), (2, 22), (4, 0), (0, 0)])) := rfl
theorem lm_1 : layM[1]? = some (.inl (.int, 2200, 0, [])) := rfl
theorem lm_2 : layM[2]? = some (.inl (.long, 114, 1, [])) := rfl
theorem lm_3 : layM[3]? = some (.inl (.int, 4, 0, [])) := rfl
theorem lm_4 : layM[4]? = some (.inl (.int, 4, 0, [])) := rfl
theorem lm_5 : layM[5]? = some (.inl (.long, 240, 1, [])) := rfl
theorem lm_6 : layM[6]? = some (.inl (.byte, 900, 0, [])) := rfl
theorem lm_7 : layM[7]? = some (.inl (.byte, 900, 0, [])) := rfl
theorem lm_8 : layM[8]? = some (.inl (.int, 3, 0, [])) := rfl
theorem lm_9 : layM[9]? = some (.inl (.int, 4, 0, [])) := rfl
theorem lm_10 : layM[10]? = some (.inl (.int, 4, 0, [])) := rfl
theorem lm_11 : layM[11]? = some (.inl (.int, 4, 0, [])) := rfl
theorem lm_12 : layM[12]? = some (.inl (.int, 3, 0, [])) := rfl
theorem lm_13 : layM[13]? = some (.inl (.int, 256, 0, [])) := rfl
theorem lm_14 : layM[14]? = some (.inl (.int, 256, 0, [])) := rfl
theorem lm_15 : layM[15]? = some (.inl (.int, 5, 0, [])) := rfl
theorem lm_16 : layM[16]? = some (.inl (.int, 5, 0, [])) := rfl
theorem lm_17 : layM[17]? = some (.inl (.int, 5, 0, [])) := rfl
theorem lm_18 : layM[18]? = some (.inl (.int, 5, 0, [])) := rfl
theorem lm_19 : layM[19]? = some (.inl (.int, 5, 0, [])) := rfl
theorem lm_20 : layM[20]? = some (.inl (.int, 80, 0, [])) := rfl
theorem lm_21 : layM[21]? = some (.inl (.int, 5, 0, [])) := rfl
theorem lm_22 : layM[22]? = some (.inl (.int, 5, 0, [])) := rfl
def z_ct (c : Nat) : Prop := layX[c]? = some (.inr (0, [(2, c + 1), (2, c + 2), (2, c + 3), (2, c + 4), (2, c + 5), (2, c + 6), (2, c + 7), (2, c + 8), (2, c + 9), (2, c + 10), (0, 0), (0, 0), (0, 0), (0, 0), (0, 0), (0, 0), (0, 0)])) ∧ layX[c + 1]? = some (.inl (.int, 6, 0, [])) ∧ layX[c + 2]? = some (.inl (.int, 6, 0, [])) ∧ layX[c + 3]? = some (.inl (.int, 8, 0, [])) ∧ layX[c + 4]? = some (.inl (.int, 7, 0, [])) ∧ layX[c + 5]? = some (.inl (.int, 7, 0, [])) ∧ layX[c + 6]? = some (.inl (.int, 7, 0, [])) ∧ layX[c + 7]? = some (.inl (.long, 7, 1, [])) ∧ layX[c + 8]? = some (.inl (.int, 4, 0, [])) ∧ layX[c + 9]? = some (.inl (.int, 4, 0, [])) ∧ layX[c + 10]? = some (.inl (.long, 4, 1, [])) ∧ (Int32.ofNat c).toNatClampNeg = c
def z_tm (t : Nat) : Prop := layX[t]? = some (.inr (5, [(2, t + 1), (2, t + 2), (2, t + 3), (2, t + 4), (2, t + 5), (4, 0), (0, 0), (0, 0)])) ∧ layX[t + 1]? = some (.inl (.int, 60, 0, [])) ∧ layX[t + 2]? = some (.inl (.int, 60, 0, [])) ∧ layX[t + 3]? = some (.inl (.int, 60, 0, [])) ∧ layX[t + 4]? = some (.inl (.int, 60, 0, [])) ∧ layX[t + 5]? = some (.inl (.int, 60, 0, [])) ∧ True
def z_tr (y : Nat) : Prop := layX[y]? = some (.inr (8, [(2, y + 1), (4, 0), (0, 0), (0, 0)])) ∧ layX[y + 1]? = some (.inl (.long, 60, 1, [])) ∧ True
theorem zt_3 : z_ct 3 := ⟨rfl, rfl, rfl, rfl, rfl, rfl, rfl, rfl, rfl, rfl, rfl, by decide⟩
theorem zt_22 : z_ct 22 := ⟨rfl, rfl, rfl, rfl, rfl, rfl, rfl, rfl, rfl, rfl, rfl, by decide⟩
theorem zt_63 : z_ct 63 := ⟨rfl, rfl, rfl, rfl, rfl, rfl, rfl, rfl, rfl, rfl, rfl, by decide⟩
theorem zt_80 : z_ct 80 := ⟨rfl, rfl, rfl, rfl, rfl, rfl, rfl, rfl, rfl, rfl, rfl, by decide⟩
theorem zt_97 : z_ct 97 := ⟨rfl, rfl, rfl, rfl, rfl, rfl, rfl, rfl, rfl, rfl, rfl, by decide⟩
theorem zt_14 : z_tm 14 := ⟨rfl, rfl, rfl, rfl, rfl, rfl, trivial⟩
theorem zt_33 : z_tm 33 := ⟨rfl, rfl, rfl, rfl, rfl, rfl, trivial⟩
theorem zt_74 : z_tm 74 := ⟨rfl, rfl, rfl, rfl, rfl, rfl, trivial⟩
theorem zt_91 : z_tm 91 := ⟨rfl, rfl, rfl, rfl, rfl, rfl, trivial⟩
theorem zt_108 : z_tm 108 := ⟨rfl, rfl, rfl, rfl, rfl, rfl, trivial⟩
theorem zt_55 : z_tr 55 := ⟨rfl, rfl, trivial⟩
theorem zt_57 : z_tr 57 := ⟨rfl, rfl, trivial⟩
theorem zt_59 : z_tr 59 := ⟨rfl, rfl, trivial⟩
theorem zt_61 : z_tr 61 := ⟨rfl, rfl, trivial⟩
def z_isct (c : Nat) : Bool := c == 3 || c == 22
theorem z_ctof {c : Nat} (h : z_isct c = true) : z_ct c := by
  unfold z_isct at h
  rw [Bool.or_eq_true] at h
  rcases h with h | h
  · rw [beq_iff_eq.mp h]; exact zt_3
  · rw [beq_iff_eq.mp h]; exact zt_22
theorem zin_lt {i : Int32} {n : Nat} (h : zin i n = true) : i.toNatClampNeg < n := Nat.not_le.mp fun q => (zin_vp h) (Or.inr q)
theorem zt_gd {i : Int32} {n : Nat} {rs : List Nat} (h : zin i n = true) (hl : rs.length = n) : rs[i.toNatClampNeg]? = some (rs.getD i.toNatClampNeg 0) := by
  have h2 : i.toNatClampNeg < rs.length := by rw [hl]; exact zin_lt h
  rw [List.getD_eq_getElem?_getD, List.getElem?_eq_getElem h2]
  rfl
theorem zt_tr {i : Int32} (h : zin i 4 = true) : z_tr ([55, 57, 59, 61].getD i.toNatClampNeg 0) := by
  have h2 := zin_lt h
  generalize i.toNatClampNeg = j at h2
  match j, h2 with
  | 0, _ => exact zt_55
  | 1, _ => exact zt_57
  | 2, _ => exact zt_59
  | 3, _ => exact zt_61
theorem zt_mc {i : Int32} (h : zin i 3 = true) : z_ct ([63, 80, 97].getD i.toNatClampNeg 0) := by
  have h2 := zin_lt h
  generalize i.toNatClampNeg = j at h2
  match j, h2 with
  | 0, _ => exact zt_63
  | 1, _ => exact zt_80
  | 2, _ => exact zt_97
theorem zt_mt {i : Int32} (h : zin i 3 = true) : z_tm ([74, 91, 108].getD i.toNatClampNeg 0) := by
  have h2 := zin_lt h
  generalize i.toNatClampNeg = j at h2
  match j, h2 with
  | 0, _ => exact zt_74
  | 1, _ => exact zt_91
  | 2, _ => exact zt_108
