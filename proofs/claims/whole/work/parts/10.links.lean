/-! ===== rows of the tables, by program ===== -/
theorem f_X11_10 : jFl RX11 10 11 0 := ⟨List.mem_of_getElem? (i := 324) (by decide +kernel), by decide, by decide⟩
theorem f_X11_16 : jFl RX11 16 11 1 := ⟨List.mem_of_getElem? (i := 325) (by decide +kernel), by decide, by decide⟩
theorem f_X11_20 : jFl RX11 20 11 2 := ⟨List.mem_of_getElem? (i := 326) (by decide +kernel), by decide, by decide⟩
theorem f_X11_27 : jFl RX11 27 11 3 := ⟨List.mem_of_getElem? (i := 327) (by decide +kernel), by decide, by decide⟩
theorem f_X11_34 : jFl RX11 34 11 4 := ⟨List.mem_of_getElem? (i := 328) (by decide +kernel), by decide, by decide⟩
theorem f_X11_41 : jFl RX11 41 11 5 := ⟨List.mem_of_getElem? (i := 329) (by decide +kernel), by decide, by decide⟩
theorem f_X11_48 : jFl RX11 48 11 6 := ⟨List.mem_of_getElem? (i := 330) (by decide +kernel), by decide, by decide⟩
theorem f_X11_52 : jFl RX11 52 11 7 := ⟨List.mem_of_getElem? (i := 331) (by decide +kernel), by decide, by decide⟩
theorem f_X11_56 : jFl RX11 56 11 8 := ⟨List.mem_of_getElem? (i := 332) (by decide +kernel), by decide, by decide⟩
theorem f_X11_60 : jFl RX11 60 11 9 := ⟨List.mem_of_getElem? (i := 333) (by decide +kernel), by decide, by decide⟩
theorem f_X11_63 : jFl RX11 63 4 0 := ⟨List.mem_of_getElem? (i := 217) (by decide +kernel), by decide, by decide⟩
theorem f_X11_66 : jFl RX11 66 2 9 := ⟨List.mem_of_getElem? (i := 185) (by decide +kernel), by decide, by decide⟩
theorem f_X11_96 : jFl RX11 96 4 11 := ⟨List.mem_of_getElem? (i := 233) (by decide +kernel), by decide, by decide⟩
theorem f_X11_102 : jFl RX11 102 2 10 := ⟨List.mem_of_getElem? (i := 190) (by decide +kernel), by decide, by decide⟩
theorem f_X11_117 : jFl RX11 117 2 7 := ⟨List.mem_of_getElem? (i := 182) (by decide +kernel), by decide, by decide⟩
theorem f_X11_125 : jFl RX11 125 8 1 := ⟨List.mem_of_getElem? (i := 272) (by decide +kernel), by decide, by decide⟩
theorem f_X11_139 : jFl RX11 139 2 1 := ⟨List.mem_of_getElem? (i := 166) (by decide +kernel), by decide, by decide⟩
theorem f_X11_142 : jFl RX11 142 4 1 := ⟨List.mem_of_getElem? (i := 220) (by decide +kernel), by decide, by decide⟩
theorem f_X11_157 : jFl RX11 157 4 9 := ⟨List.mem_of_getElem? (i := 229) (by decide +kernel), by decide, by decide⟩
theorem f_X11_171 : jFl RX11 171 2 3 := ⟨List.mem_of_getElem? (i := 172) (by decide +kernel), by decide, by decide⟩
theorem f_X11_174 : jFl RX11 174 2 4 := ⟨List.mem_of_getElem? (i := 175) (by decide +kernel), by decide, by decide⟩
theorem f_X11_177 : jFl RX11 177 2 5 := ⟨List.mem_of_getElem? (i := 178) (by decide +kernel), by decide, by decide⟩
theorem f_X11_180 : jFl RX11 180 4 10 := ⟨List.mem_of_getElem? (i := 231) (by decide +kernel), by decide, by decide⟩
theorem f_X11_186 : jFl RX11 186 2 2 := ⟨List.mem_of_getElem? (i := 169) (by decide +kernel), by decide, by decide⟩
theorem f_X11_216 : jFl RX11 216 2 6 := ⟨List.mem_of_getElem? (i := 180) (by decide +kernel), by decide, by decide⟩
theorem f_X11_219 : jFl RX11 219 4 12 := ⟨List.mem_of_getElem? (i := 235) (by decide +kernel), by decide, by decide⟩
theorem f_X11_261 : jFl RX11 261 11 10 := ⟨List.mem_of_getElem? (i := 334) (by decide +kernel), by decide, by decide⟩
theorem f_X11_264 : jFl RX11 264 11 11 := ⟨List.mem_of_getElem? (i := 335) (by decide +kernel), by decide, by decide⟩
theorem f_X11_267 : jFl RX11 267 11 12 := ⟨List.mem_of_getElem? (i := 336) (by decide +kernel), by decide, by decide⟩
theorem f_X1_9 : jFl RX1 9 1 0 := ⟨List.mem_of_getElem? (i := 297) (by decide +kernel), by decide, by decide⟩
theorem f_X1_15 : jFl RX1 15 1 1 := ⟨List.mem_of_getElem? (i := 298) (by decide +kernel), by decide, by decide⟩
theorem f_X1_18 : jFl RX1 18 1 2 := ⟨List.mem_of_getElem? (i := 299) (by decide +kernel), by decide, by decide⟩
theorem f_X1_34 : jFl RX1 34 2 1 := ⟨List.mem_of_getElem? (i := 165) (by decide +kernel), by decide, by decide⟩
theorem f_X2_27 : jFl RX2 27 2 0 := ⟨List.mem_of_getElem? (i := 162) (by decide +kernel), by decide, by decide⟩
theorem f_X2_33 : jFl RX2 33 2 1 := ⟨List.mem_of_getElem? (i := 163) (by decide +kernel), by decide, by decide⟩
theorem f_X2_37 : jFl RX2 37 2 2 := ⟨List.mem_of_getElem? (i := 168) (by decide +kernel), by decide, by decide⟩
theorem f_X2_40 : jFl RX2 40 2 3 := ⟨List.mem_of_getElem? (i := 170) (by decide +kernel), by decide, by decide⟩
theorem f_X2_43 : jFl RX2 43 2 4 := ⟨List.mem_of_getElem? (i := 173) (by decide +kernel), by decide, by decide⟩
theorem f_X2_46 : jFl RX2 46 2 5 := ⟨List.mem_of_getElem? (i := 176) (by decide +kernel), by decide, by decide⟩
theorem f_X2_49 : jFl RX2 49 2 6 := ⟨List.mem_of_getElem? (i := 179) (by decide +kernel), by decide, by decide⟩
theorem f_X2_52 : jFl RX2 52 2 7 := ⟨List.mem_of_getElem? (i := 181) (by decide +kernel), by decide, by decide⟩
theorem f_X2_55 : jFl RX2 55 2 8 := ⟨List.mem_of_getElem? (i := 183) (by decide +kernel), by decide, by decide⟩
theorem f_X2_61 : jFl RX2 61 2 9 := ⟨List.mem_of_getElem? (i := 184) (by decide +kernel), by decide, by decide⟩
theorem f_X2_65 : jFl RX2 65 2 10 := ⟨List.mem_of_getElem? (i := 189) (by decide +kernel), by decide, by decide⟩
theorem f_X4_12 : jFl RX4 12 4 0 := ⟨List.mem_of_getElem? (i := 216) (by decide +kernel), by decide, by decide⟩
theorem f_X4_18 : jFl RX4 18 4 1 := ⟨List.mem_of_getElem? (i := 219) (by decide +kernel), by decide, by decide⟩
theorem f_X4_22 : jFl RX4 22 4 2 := ⟨List.mem_of_getElem? (i := 221) (by decide +kernel), by decide, by decide⟩
theorem f_X4_25 : jFl RX4 25 4 3 := ⟨List.mem_of_getElem? (i := 222) (by decide +kernel), by decide, by decide⟩
theorem f_X4_28 : jFl RX4 28 4 4 := ⟨List.mem_of_getElem? (i := 223) (by decide +kernel), by decide, by decide⟩
theorem f_X4_31 : jFl RX4 31 4 5 := ⟨List.mem_of_getElem? (i := 224) (by decide +kernel), by decide, by decide⟩
theorem f_X4_34 : jFl RX4 34 4 6 := ⟨List.mem_of_getElem? (i := 225) (by decide +kernel), by decide, by decide⟩
theorem f_X4_37 : jFl RX4 37 4 7 := ⟨List.mem_of_getElem? (i := 226) (by decide +kernel), by decide, by decide⟩
theorem f_X4_40 : jFl RX4 40 4 8 := ⟨List.mem_of_getElem? (i := 227) (by decide +kernel), by decide, by decide⟩
theorem f_X4_43 : jFl RX4 43 4 9 := ⟨List.mem_of_getElem? (i := 228) (by decide +kernel), by decide, by decide⟩
theorem f_X4_47 : jFl RX4 47 4 10 := ⟨List.mem_of_getElem? (i := 230) (by decide +kernel), by decide, by decide⟩
theorem f_X4_50 : jFl RX4 50 4 11 := ⟨List.mem_of_getElem? (i := 232) (by decide +kernel), by decide, by decide⟩
theorem f_X4_53 : jFl RX4 53 4 12 := ⟨List.mem_of_getElem? (i := 234) (by decide +kernel), by decide, by decide⟩
theorem f_X4_92 : jFl RX4 92 2 1 := ⟨List.mem_of_getElem? (i := 167) (by decide +kernel), by decide, by decide⟩
theorem f_X4_104 : jFl RX4 104 2 9 := ⟨List.mem_of_getElem? (i := 188) (by decide +kernel), by decide, by decide⟩
theorem f_X4_109 : jFl RX4 109 2 3 := ⟨List.mem_of_getElem? (i := 171) (by decide +kernel), by decide, by decide⟩
theorem f_X4_112 : jFl RX4 112 2 4 := ⟨List.mem_of_getElem? (i := 174) (by decide +kernel), by decide, by decide⟩
theorem f_X4_115 : jFl RX4 115 2 5 := ⟨List.mem_of_getElem? (i := 177) (by decide +kernel), by decide, by decide⟩
theorem f_X8_9 : jFl RX8 9 8 0 := ⟨List.mem_of_getElem? (i := 270) (by decide +kernel), by decide, by decide⟩
theorem f_X8_15 : jFl RX8 15 8 1 := ⟨List.mem_of_getElem? (i := 271) (by decide +kernel), by decide, by decide⟩
theorem f_X8_24 : jFl RX8 24 8 3 := ⟨List.mem_of_getElem? (i := 274) (by decide +kernel), by decide, by decide⟩
theorem f_X8_40 : jFl RX8 40 8 4 := ⟨List.mem_of_getElem? (i := 275) (by decide +kernel), by decide, by decide⟩
theorem f_X8_47 : jFl RX8 47 8 2 := ⟨List.mem_of_getElem? (i := 273) (by decide +kernel), by decide, by decide⟩
theorem f_X8_73 : jFl RX8 73 2 9 := ⟨List.mem_of_getElem? (i := 186) (by decide +kernel), by decide, by decide⟩
theorem f_X8_79 : jFl RX8 79 2 10 := ⟨List.mem_of_getElem? (i := 191) (by decide +kernel), by decide, by decide⟩
theorem f_X9_9 : jFl RX9 9 9 0 := ⟨List.mem_of_getElem? (i := 313) (by decide +kernel), by decide, by decide⟩
theorem f_X9_15 : jFl RX9 15 9 1 := ⟨List.mem_of_getElem? (i := 314) (by decide +kernel), by decide, by decide⟩
theorem f_X9_19 : jFl RX9 19 9 2 := ⟨List.mem_of_getElem? (i := 315) (by decide +kernel), by decide, by decide⟩
theorem f_X9_41 : jFl RX9 41 4 0 := ⟨List.mem_of_getElem? (i := 218) (by decide +kernel), by decide, by decide⟩
theorem f_X9_45 : jFl RX9 45 2 1 := ⟨List.mem_of_getElem? (i := 164) (by decide +kernel), by decide, by decide⟩
theorem f_X9_57 : jFl RX9 57 2 9 := ⟨List.mem_of_getElem? (i := 187) (by decide +kernel), by decide, by decide⟩
theorem f_X12_7 : jFl RX12 7 12 0 := ⟨List.mem_of_getElem? (i := 904) (by decide +kernel), by decide, by decide⟩
theorem f_X12_13 : jFl RX12 13 12 2 := ⟨List.mem_of_getElem? (i := 906) (by decide +kernel), by decide, by decide⟩
theorem f_X12_17 : jFl RX12 17 12 3 := ⟨List.mem_of_getElem? (i := 907) (by decide +kernel), by decide, by decide⟩
theorem f_X12_20 : jFl RX12 20 12 4 := ⟨List.mem_of_getElem? (i := 908) (by decide +kernel), by decide, by decide⟩
theorem f_X12_23 : jFl RX12 23 12 10 := ⟨List.mem_of_getElem? (i := 914) (by decide +kernel), by decide, by decide⟩
theorem f_X12_26 : jFl RX12 26 12 14 := ⟨List.mem_of_getElem? (i := 918) (by decide +kernel), by decide, by decide⟩
theorem f_X12_29 : jFl RX12 29 12 15 := ⟨List.mem_of_getElem? (i := 919) (by decide +kernel), by decide, by decide⟩
theorem f_X12_32 : jFl RX12 32 12 17 := ⟨List.mem_of_getElem? (i := 921) (by decide +kernel), by decide, by decide⟩
theorem f_X12_36 : jFl RX12 36 12 18 := ⟨List.mem_of_getElem? (i := 922) (by decide +kernel), by decide, by decide⟩
theorem f_X12_39 : jFl RX12 39 12 19 := ⟨List.mem_of_getElem? (i := 923) (by decide +kernel), by decide, by decide⟩
theorem f_X12_42 : jFl RX12 42 12 20 := ⟨List.mem_of_getElem? (i := 924) (by decide +kernel), by decide, by decide⟩
theorem f_X12_45 : jFl RX12 45 12 21 := ⟨List.mem_of_getElem? (i := 925) (by decide +kernel), by decide, by decide⟩
theorem f_X12_49 : jFl RX12 49 12 22 := ⟨List.mem_of_getElem? (i := 926) (by decide +kernel), by decide, by decide⟩
theorem f_X12_52 : jFl RX12 52 12 23 := ⟨List.mem_of_getElem? (i := 927) (by decide +kernel), by decide, by decide⟩
theorem f_X12_55 : jFl RX12 55 12 24 := ⟨List.mem_of_getElem? (i := 928) (by decide +kernel), by decide, by decide⟩
theorem f_X12_58 : jFl RX12 58 12 25 := ⟨List.mem_of_getElem? (i := 929) (by decide +kernel), by decide, by decide⟩
theorem f_X12_61 : jFl RX12 61 12 26 := ⟨List.mem_of_getElem? (i := 930) (by decide +kernel), by decide, by decide⟩
theorem f_X12_64 : jFl RX12 64 12 27 := ⟨List.mem_of_getElem? (i := 931) (by decide +kernel), by decide, by decide⟩
theorem f_X12_67 : jFl RX12 67 12 28 := ⟨List.mem_of_getElem? (i := 932) (by decide +kernel), by decide, by decide⟩
theorem f_X12_81 : jFl RX12 81 12 16 := ⟨List.mem_of_getElem? (i := 920) (by decide +kernel), by decide, by decide⟩
theorem f_X12_130 : jFl RX12 130 12 5 := ⟨List.mem_of_getElem? (i := 909) (by decide +kernel), by decide, by decide⟩
theorem f_X12_133 : jFl RX12 133 12 6 := ⟨List.mem_of_getElem? (i := 910) (by decide +kernel), by decide, by decide⟩
theorem f_X12_139 : jFl RX12 139 12 9 := ⟨List.mem_of_getElem? (i := 913) (by decide +kernel), by decide, by decide⟩
theorem f_X12_142 : jFl RX12 142 12 8 := ⟨List.mem_of_getElem? (i := 912) (by decide +kernel), by decide, by decide⟩
theorem f_X12_145 : jFl RX12 145 12 7 := ⟨List.mem_of_getElem? (i := 911) (by decide +kernel), by decide, by decide⟩
theorem f_X12_163 : jFl RX12 163 12 11 := ⟨List.mem_of_getElem? (i := 915) (by decide +kernel), by decide, by decide⟩
theorem f_X12_182 : jFl RX12 182 12 12 := ⟨List.mem_of_getElem? (i := 916) (by decide +kernel), by decide, by decide⟩
theorem f_X12_185 : jFl RX12 185 12 13 := ⟨List.mem_of_getElem? (i := 917) (by decide +kernel), by decide, by decide⟩
theorem f_X12_263 : jFl RX12 263 12 1 := ⟨List.mem_of_getElem? (i := 905) (by decide +kernel), by decide, by decide⟩
theorem m_X11_init : jMd yX11_init cX11_init 1 none 0 := ⟨List.mem_of_getElem? (i := 89) (by decide +kernel), List.mem_of_getElem? (i := 65) (by decide +kernel), by decide +kernel, by decide +kernel, by decide⟩
theorem m_X11_bit : jMd yX11_bit cX11_bit 2 (some .int) 2 := ⟨List.mem_of_getElem? (i := 630) (by decide +kernel), List.mem_of_getElem? (i := 65) (by decide +kernel), by decide +kernel, by decide +kernel, by decide⟩
theorem m_X11_canNot : jMd yX11_canNot cX11_canNot 4 (some .int) 0 := ⟨List.mem_of_getElem? (i := 731) (by decide +kernel), List.mem_of_getElem? (i := 65) (by decide +kernel), by decide +kernel, by decide +kernel, by decide⟩
theorem m_X11_clear : jMd yX11_clear cX11_clear 2 (some .int) 0 := ⟨List.mem_of_getElem? (i := 441) (by decide +kernel), List.mem_of_getElem? (i := 65) (by decide +kernel), by decide +kernel, by decide +kernel, by decide⟩
theorem m_X11_clocks : jMd yX11_clocks cX11_clocks 10 (some .int) 3 := ⟨List.mem_of_getElem? (i := 807) (by decide +kernel), List.mem_of_getElem? (i := 65) (by decide +kernel), by decide +kernel, by decide +kernel, by decide⟩
theorem m_X11_commonDivisor : jMd yX11_commonDivisor cX11_commonDivisor 11 (some .long) 2 := ⟨List.mem_of_getElem? (i := 825) (by decide +kernel), List.mem_of_getElem? (i := 65) (by decide +kernel), by decide +kernel, by decide +kernel, by decide⟩
theorem m_X11_count : jMd yX11_count cX11_count 2 (some .int) 1 := ⟨List.mem_of_getElem? (i := 867) (by decide +kernel), List.mem_of_getElem? (i := 65) (by decide +kernel), by decide +kernel, by decide +kernel, by decide⟩
theorem m_X11_digest : jMd yX11_digest cX11_digest 4 (some .long) 0 := ⟨List.mem_of_getElem? (i := 871) (by decide +kernel), List.mem_of_getElem? (i := 65) (by decide +kernel), by decide +kernel, by decide +kernel, by decide⟩
theorem m_X11_far : jMd yX11_far cX11_far 4 (some .int) 2 := ⟨List.mem_of_getElem? (i := 638) (by decide +kernel), List.mem_of_getElem? (i := 65) (by decide +kernel), by decide +kernel, by decide +kernel, by decide⟩
theorem m_X11_forget : jMd yX11_forget cX11_forget 2 (some .int) 0 := ⟨List.mem_of_getElem? (i := 747) (by decide +kernel), List.mem_of_getElem? (i := 65) (by decide +kernel), by decide +kernel, by decide +kernel, by decide⟩
theorem m_X11_from : jMd yX11_from cX11_from 2 (some .int) 1 := ⟨List.mem_of_getElem? (i := 859) (by decide +kernel), List.mem_of_getElem? (i := 65) (by decide +kernel), by decide +kernel, by decide +kernel, by decide⟩
theorem m_X11_heard : jMd yX11_heard cX11_heard 4 (some .int) 3 := ⟨List.mem_of_getElem? (i := 739) (by decide +kernel), List.mem_of_getElem? (i := 65) (by decide +kernel), by decide +kernel, by decide +kernel, by decide⟩
theorem m_X11_house : jMd yX11_house cX11_house 2 (some .int) 0 := ⟨List.mem_of_getElem? (i := 367) (by decide +kernel), List.mem_of_getElem? (i := 65) (by decide +kernel), by decide +kernel, by decide +kernel, by decide⟩
theorem m_X11_image : jMd yX11_image cX11_image 2 (some .int) 1 := ⟨List.mem_of_getElem? (i := 850) (by decide +kernel), List.mem_of_getElem? (i := 65) (by decide +kernel), by decide +kernel, by decide +kernel, by decide⟩
theorem m_X11_isPupil : jMd yX11_isPupil cX11_isPupil 1 (some .boolean) 1 := ⟨List.mem_of_getElem? (i := 421) (by decide +kernel), List.mem_of_getElem? (i := 65) (by decide +kernel), by decide +kernel, by decide +kernel, by decide⟩
theorem m_X11_isRoom : jMd yX11_isRoom cX11_isRoom 1 (some .boolean) 1 := ⟨List.mem_of_getElem? (i := 379) (by decide +kernel), List.mem_of_getElem? (i := 65) (by decide +kernel), by decide +kernel, by decide +kernel, by decide⟩
theorem m_X11_isSleeper : jMd yX11_isSleeper cX11_isSleeper 2 (some .boolean) 1 := ⟨List.mem_of_getElem? (i := 627) (by decide +kernel), List.mem_of_getElem? (i := 65) (by decide +kernel), by decide +kernel, by decide +kernel, by decide⟩
theorem m_X11_isThing : jMd yX11_isThing cX11_isThing 2 (some .boolean) 1 := ⟨List.mem_of_getElem? (i := 418) (by decide +kernel), List.mem_of_getElem? (i := 65) (by decide +kernel), by decide +kernel, by decide +kernel, by decide⟩
theorem m_X11_keepFraction : jMd yX11_keepFraction cX11_keepFraction 7 none 2 := ⟨List.mem_of_getElem? (i := 822) (by decide +kernel), List.mem_of_getElem? (i := 65) (by decide +kernel), by decide +kernel, by decide +kernel, by decide⟩
theorem m_X11_listen : jMd yX11_listen cX11_listen 2 (some .int) 1 := ⟨List.mem_of_getElem? (i := 790) (by decide +kernel), List.mem_of_getElem? (i := 65) (by decide +kernel), by decide +kernel, by decide +kernel, by decide⟩
theorem m_X11_loud : jMd yX11_loud cX11_loud 3 (some .int) 2 := ⟨List.mem_of_getElem? (i := 647) (by decide +kernel), List.mem_of_getElem? (i := 65) (by decide +kernel), by decide +kernel, by decide +kernel, by decide⟩
theorem m_X11_may : jMd yX11_may cX11_may 2 (some .int) 1 := ⟨List.mem_of_getElem? (i := 751) (by decide +kernel), List.mem_of_getElem? (i := 65) (by decide +kernel), by decide +kernel, by decide +kernel, by decide⟩
theorem m_X11_nights : jMd yX11_nights cX11_nights 3 (some .int) 2 := ⟨List.mem_of_getElem? (i := 829) (by decide +kernel), List.mem_of_getElem? (i := 65) (by decide +kernel), by decide +kernel, by decide +kernel, by decide⟩
theorem m_X11_of : jMd yX11_of cX11_of 3 (some .int) 2 := ⟨List.mem_of_getElem? (i := 623) (by decide +kernel), List.mem_of_getElem? (i := 65) (by decide +kernel), by decide +kernel, by decide +kernel, by decide⟩
theorem m_X11_owed : jMd yX11_owed cX11_owed 4 (some .int) 1 := ⟨List.mem_of_getElem? (i := 719) (by decide +kernel), List.mem_of_getElem? (i := 65) (by decide +kernel), by decide +kernel, by decide +kernel, by decide⟩
theorem m_X11_owner : jMd yX11_owner cX11_owner 4 (some .int) 2 := ⟨List.mem_of_getElem? (i := 414) (by decide +kernel), List.mem_of_getElem? (i := 65) (by decide +kernel), by decide +kernel, by decide +kernel, by decide⟩
theorem m_X11_pair : jMd yX11_pair cX11_pair 2 (some .int) 2 := ⟨List.mem_of_getElem? (i := 158) (by decide +kernel), List.mem_of_getElem? (i := 65) (by decide +kernel), by decide +kernel, by decide +kernel, by decide⟩
theorem m_X11_part : jMd yX11_part cX11_part 2 (some .long) 1 := ⟨List.mem_of_getElem? (i := 846) (by decide +kernel), List.mem_of_getElem? (i := 65) (by decide +kernel), by decide +kernel, by decide +kernel, by decide⟩
theorem m_X11_read : jMd yX11_read cX11_read 2 (some .int) 0 := ⟨List.mem_of_getElem? (i := 445) (by decide +kernel), List.mem_of_getElem? (i := 65) (by decide +kernel), by decide +kernel, by decide +kernel, by decide⟩
theorem m_X11_refuseBad : jMd yX11_refuseBad cX11_refuseBad 2 (some .int) 1 := ⟨List.mem_of_getElem? (i := 386) (by decide +kernel), List.mem_of_getElem? (i := 65) (by decide +kernel), by decide +kernel, by decide +kernel, by decide⟩
theorem m_X11_refuseFull : jMd yX11_refuseFull cX11_refuseFull 1 (some .int) 0 := ⟨List.mem_of_getElem? (i := 398) (by decide +kernel), List.mem_of_getElem? (i := 65) (by decide +kernel), by decide +kernel, by decide +kernel, by decide⟩
theorem m_X11_refuseNo : jMd yX11_refuseNo cX11_refuseNo 1 (some .int) 0 := ⟨List.mem_of_getElem? (i := 559) (by decide +kernel), List.mem_of_getElem? (i := 65) (by decide +kernel), by decide +kernel, by decide +kernel, by decide⟩
theorem m_X11_schedule : jMd yX11_schedule cX11_schedule 3 (some .int) 2 := ⟨List.mem_of_getElem? (i := 702) (by decide +kernel), List.mem_of_getElem? (i := 65) (by decide +kernel), by decide +kernel, by decide +kernel, by decide⟩
theorem m_X11_sleeper : jMd yX11_sleeper cX11_sleeper 4 (some .int) 3 := ⟨List.mem_of_getElem? (i := 394) (by decide +kernel), List.mem_of_getElem? (i := 65) (by decide +kernel), by decide +kernel, by decide +kernel, by decide⟩
theorem m_X11_softest : jMd yX11_softest cX11_softest 3 (some .int) 2 := ⟨List.mem_of_getElem? (i := 690) (by decide +kernel), List.mem_of_getElem? (i := 65) (by decide +kernel), by decide +kernel, by decide +kernel, by decide⟩
theorem m_X11_stair : jMd yX11_stair cX11_stair 4 (some .int) 3 := ⟨List.mem_of_getElem? (i := 376) (by decide +kernel), List.mem_of_getElem? (i := 65) (by decide +kernel), by decide +kernel, by decide +kernel, by decide⟩
theorem m_X11_status : jMd yX11_status cX11_status 2 (some .int) 1 := ⟨List.mem_of_getElem? (i := 863) (by decide +kernel), List.mem_of_getElem? (i := 65) (by decide +kernel), by decide +kernel, by decide +kernel, by decide⟩
theorem m_X11_step : jMd yX11_step cX11_step 4 (some .int) 2 := ⟨List.mem_of_getElem? (i := 554) (by decide +kernel), List.mem_of_getElem? (i := 65) (by decide +kernel), by decide +kernel, by decide +kernel, by decide⟩
theorem m_X11_thing : jMd yX11_thing cX11_thing 2 (some .int) 1 := ⟨List.mem_of_getElem? (i := 406) (by decide +kernel), List.mem_of_getElem? (i := 65) (by decide +kernel), by decide +kernel, by decide +kernel, by decide⟩
theorem m_X11_took : jMd yX11_took cX11_took 2 (some .int) 1 := ⟨List.mem_of_getElem? (i := 727) (by decide +kernel), List.mem_of_getElem? (i := 65) (by decide +kernel), by decide +kernel, by decide +kernel, by decide⟩
theorem m_X11_type : jMd yX11_type cX11_type 2 (some .int) 1 := ⟨List.mem_of_getElem? (i := 433) (by decide +kernel), List.mem_of_getElem? (i := 65) (by decide +kernel), by decide +kernel, by decide +kernel, by decide⟩
theorem m_X11_undo : jMd yX11_undo cX11_undo 1 (some .int) 0 := ⟨List.mem_of_getElem? (i := 615) (by decide +kernel), List.mem_of_getElem? (i := 65) (by decide +kernel), by decide +kernel, by decide +kernel, by decide⟩
theorem m_X11_waits : jMd yX11_waits cX11_waits 2 (some .int) 1 := ⟨List.mem_of_getElem? (i := 609) (by decide +kernel), List.mem_of_getElem? (i := 65) (by decide +kernel), by decide +kernel, by decide +kernel, by decide⟩
theorem m_X11_wakes : jMd yX11_wakes cX11_wakes 4 (some .int) 3 := ⟨List.mem_of_getElem? (i := 642) (by decide +kernel), List.mem_of_getElem? (i := 65) (by decide +kernel), by decide +kernel, by decide +kernel, by decide⟩
theorem m_X11_way : jMd yX11_way cX11_way 6 (some .int) 4 := ⟨List.mem_of_getElem? (i := 655) (by decide +kernel), List.mem_of_getElem? (i := 65) (by decide +kernel), by decide +kernel, by decide +kernel, by decide⟩
theorem m_X11_ways : jMd yX11_ways cX11_ways 1 (some .long) 0 := ⟨List.mem_of_getElem? (i := 782) (by decide +kernel), List.mem_of_getElem? (i := 65) (by decide +kernel), by decide +kernel, by decide +kernel, by decide⟩
theorem m_X11_weighClocks : jMd yX11_weighClocks cX11_weighClocks 5 none 2 := ⟨List.mem_of_getElem? (i := 811) (by decide +kernel), List.mem_of_getElem? (i := 65) (by decide +kernel), by decide +kernel, by decide +kernel, by decide⟩
theorem m_X11_where : jMd yX11_where cX11_where 2 (some .int) 1 := ⟨List.mem_of_getElem? (i := 634) (by decide +kernel), List.mem_of_getElem? (i := 65) (by decide +kernel), by decide +kernel, by decide +kernel, by decide⟩
theorem m_X11_within : jMd yX11_within cX11_within 2 (some .boolean) 2 := ⟨List.mem_of_getElem? (i := 382) (by decide +kernel), List.mem_of_getElem? (i := 65) (by decide +kernel), by decide +kernel, by decide +kernel, by decide⟩
theorem m_X0_init : jMd yX0_init cX0_init 1 none 0 := ⟨List.mem_of_getElem? (i := 131) (by decide +kernel), List.mem_of_getElem? (i := 71) (by decide +kernel), by decide +kernel, by decide +kernel, by decide⟩
theorem m_X0_wakingNoise : jMd yX0_wakingNoise cX0_wakingNoise 4 (some .int) 3 := ⟨List.mem_of_getElem? (i := 586) (by decide +kernel), List.mem_of_getElem? (i := 71) (by decide +kernel), by decide +kernel, by decide +kernel, by decide⟩
theorem m_X1_init : jMd yX1_init cX1_init 1 none 0 := ⟨List.mem_of_getElem? (i := 295) (by decide +kernel), List.mem_of_getElem? (i := 76) (by decide +kernel), by decide +kernel, by decide +kernel, by decide⟩
theorem m_X1_allowCreaks : jMd yX1_allowCreaks cX1_allowCreaks 4 none 2 := ⟨List.mem_of_getElem? (i := 698) (by decide +kernel), List.mem_of_getElem? (i := 76) (by decide +kernel), by decide +kernel, by decide +kernel, by decide⟩
theorem m_X1_allowInto : jMd yX1_allowInto cX1_allowInto 6 none 3 := ⟨List.mem_of_getElem? (i := 673) (by decide +kernel), List.mem_of_getElem? (i := 76) (by decide +kernel), by decide +kernel, by decide +kernel, by decide⟩
theorem m_X1_fewestMinutes : jMd yX1_fewestMinutes cX1_fewestMinutes 7 (some .int) 4 := ⟨List.mem_of_getElem? (i := 659) (by decide +kernel), List.mem_of_getElem? (i := 76) (by decide +kernel), by decide +kernel, by decide +kernel, by decide⟩
theorem m_X1_fewestMinutesOfTwo : jMd yX1_fewestMinutesOfTwo cX1_fewestMinutesOfTwo 5 (some .int) 3 := ⟨List.mem_of_getElem? (i := 706) (by decide +kernel), List.mem_of_getElem? (i := 76) (by decide +kernel), by decide +kernel, by decide +kernel, by decide⟩
theorem m_X1_firstRoom : jMd yX1_firstRoom cX1_firstRoom 8 (some .int) 5 := ⟨List.mem_of_getElem? (i := 682) (by decide +kernel), List.mem_of_getElem? (i := 76) (by decide +kernel), by decide +kernel, by decide +kernel, by decide⟩
theorem m_X1_goTogether : jMd yX1_goTogether cX1_goTogether 4 none 0 := ⟨List.mem_of_getElem? (i := 710) (by decide +kernel), List.mem_of_getElem? (i := 76) (by decide +kernel), by decide +kernel, by decide +kernel, by decide⟩
theorem m_X1_leastWorstCreak : jMd yX1_leastWorstCreak cX1_leastWorstCreak 7 (some .int) 3 := ⟨List.mem_of_getElem? (i := 694) (by decide +kernel), List.mem_of_getElem? (i := 76) (by decide +kernel), by decide +kernel, by decide +kernel, by decide⟩
theorem m_X1_lookAt : jMd yX1_lookAt cX1_lookAt 4 none 2 := ⟨List.mem_of_getElem? (i := 664) (by decide +kernel), List.mem_of_getElem? (i := 76) (by decide +kernel), by decide +kernel, by decide +kernel, by decide⟩
theorem m_X1_reachedByDawn : jMd yX1_reachedByDawn cX1_reachedByDawn 4 (some .int) 1 := ⟨List.mem_of_getElem? (i := 735) (by decide +kernel), List.mem_of_getElem? (i := 76) (by decide +kernel), by decide +kernel, by decide +kernel, by decide⟩
theorem m_X1_roomsAfter : jMd yX1_roomsAfter cX1_roomsAfter 4 (some .int) 1 := ⟨List.mem_of_getElem? (i := 678) (by decide +kernel), List.mem_of_getElem? (i := 76) (by decide +kernel), by decide +kernel, by decide +kernel, by decide⟩
theorem m_X1_roomsAhead : jMd yX1_roomsAhead cX1_roomsAhead 4 (some .int) 1 := ⟨List.mem_of_getElem? (i := 686) (by decide +kernel), List.mem_of_getElem? (i := 76) (by decide +kernel), by decide +kernel, by decide +kernel, by decide⟩
theorem m_X1_secondGoes : jMd yX1_secondGoes cX1_secondGoes 6 (some .int) 2 := ⟨List.mem_of_getElem? (i := 714) (by decide +kernel), List.mem_of_getElem? (i := 76) (by decide +kernel), by decide +kernel, by decide +kernel, by decide⟩
theorem m_X1_stayOnly : jMd yX1_stayOnly cX1_stayOnly 2 none 0 := ⟨List.mem_of_getElem? (i := 668) (by decide +kernel), List.mem_of_getElem? (i := 76) (by decide +kernel), by decide +kernel, by decide +kernel, by decide⟩
theorem m_X2_init : jMd yX2_init cX2_init 1 none 0 := ⟨List.mem_of_getElem? (i := 103) (by decide +kernel), List.mem_of_getElem? (i := 67) (by decide +kernel), by decide +kernel, by decide +kernel, by decide⟩
theorem m_X2_addOwner : jMd yX2_addOwner cX2_addOwner 3 (some .int) 2 := ⟨List.mem_of_getElem? (i := 429) (by decide +kernel), List.mem_of_getElem? (i := 67) (by decide +kernel), by decide +kernel, by decide +kernel, by decide⟩
theorem m_X2_addSleeper : jMd yX2_addSleeper cX2_addSleeper 4 (some .int) 3 := ⟨List.mem_of_getElem? (i := 402) (by decide +kernel), List.mem_of_getElem? (i := 67) (by decide +kernel), by decide +kernel, by decide +kernel, by decide⟩
theorem m_X2_addStair : jMd yX2_addStair cX2_addStair 5 (some .int) 3 := ⟨List.mem_of_getElem? (i := 390) (by decide +kernel), List.mem_of_getElem? (i := 67) (by decide +kernel), by decide +kernel, by decide +kernel, by decide⟩
theorem m_X2_addThing : jMd yX2_addThing cX2_addThing 2 (some .int) 1 := ⟨List.mem_of_getElem? (i := 410) (by decide +kernel), List.mem_of_getElem? (i := 67) (by decide +kernel), by decide +kernel, by decide +kernel, by decide⟩
theorem m_X2_copyFrom : jMd yX2_copyFrom cX2_copyFrom 2 none 1 := ⟨List.mem_of_getElem? (i := 547) (by decide +kernel), List.mem_of_getElem? (i := 67) (by decide +kernel), by decide +kernel, by decide +kernel, by decide⟩
theorem m_X2_empty : jMd yX2_empty cX2_empty 2 none 0 := ⟨List.mem_of_getElem? (i := 151) (by decide +kernel), List.mem_of_getElem? (i := 67) (by decide +kernel), by decide +kernel, by decide +kernel, by decide⟩
theorem m_X2_foldStairs : jMd yX2_foldStairs cX2_foldStairs 7 (some .long) 1 := ⟨List.mem_of_getElem? (i := 878) (by decide +kernel), List.mem_of_getElem? (i := 67) (by decide +kernel), by decide +kernel, by decide +kernel, by decide⟩
theorem m_X2_foldThings : jMd yX2_foldThings cX2_foldThings 7 (some .long) 1 := ⟨List.mem_of_getElem? (i := 889) (by decide +kernel), List.mem_of_getElem? (i := 67) (by decide +kernel), by decide +kernel, by decide +kernel, by decide⟩
theorem m_X2_lastOwner : jMd yX2_lastOwner cX2_lastOwner 3 (some .int) 1 := ⟨List.mem_of_getElem? (i := 425) (by decide +kernel), List.mem_of_getElem? (i := 67) (by decide +kernel), by decide +kernel, by decide +kernel, by decide⟩
theorem m_X2_leastNoise : jMd yX2_leastNoise cX2_leastNoise 6 (some .int) 3 := ⟨List.mem_of_getElem? (i := 579) (by decide +kernel), List.mem_of_getElem? (i := 67) (by decide +kernel), by decide +kernel, by decide +kernel, by decide⟩
theorem m_X2_loudest : jMd yX2_loudest cX2_loudest 5 (some .int) 2 := ⟨List.mem_of_getElem? (i := 651) (by decide +kernel), List.mem_of_getElem? (i := 67) (by decide +kernel), by decide +kernel, by decide +kernel, by decide⟩
theorem m_X2_measure : jMd yX2_measure cX2_measure 5 none 0 := ⟨List.mem_of_getElem? (i := 155) (by decide +kernel), List.mem_of_getElem? (i := 67) (by decide +kernel), by decide +kernel, by decide +kernel, by decide⟩
theorem m_X2_wakers : jMd yX2_wakers cX2_wakers 6 (some .int) 3 := ⟨List.mem_of_getElem? (i := 575) (by decide +kernel), List.mem_of_getElem? (i := 67) (by decide +kernel), by decide +kernel, by decide +kernel, by decide⟩
theorem m_X2_wasTakenFrom : jMd yX2_wasTakenFrom cX2_wasTakenFrom 4 (some .boolean) 2 := ⟨List.mem_of_getElem? (i := 723) (by decide +kernel), List.mem_of_getElem? (i := 67) (by decide +kernel), by decide +kernel, by decide +kernel, by decide⟩
theorem m_X3_init : jMd yX3_init cX3_init 1 none 0 := ⟨List.mem_of_getElem? (i := 117) (by decide +kernel), List.mem_of_getElem? (i := 69) (by decide +kernel), by decide +kernel, by decide +kernel, by decide⟩
theorem m_X3_wakingNoise : jMd yX3_wakingNoise cX3_wakingNoise 4 (some .int) 3 := ⟨List.mem_of_getElem? (i := 589) (by decide +kernel), List.mem_of_getElem? (i := 69) (by decide +kernel), by decide +kernel, by decide +kernel, by decide⟩
theorem m_X4_init : jMd yX4_init cX4_init 1 none 0 := ⟨List.mem_of_getElem? (i := 97) (by decide +kernel), List.mem_of_getElem? (i := 66) (by decide +kernel), by decide +kernel, by decide +kernel, by decide⟩
theorem m_X4_addHeard : jMd yX4_addHeard cX4_addHeard 4 (some .int) 3 := ⟨List.mem_of_getElem? (i := 743) (by decide +kernel), List.mem_of_getElem? (i := 66) (by decide +kernel), by decide +kernel, by decide +kernel, by decide⟩
theorem m_X4_awakeAfter : jMd yX4_awakeAfter cX4_awakeAfter 11 (some .int) 2 := ⟨List.mem_of_getElem? (i := 834) (by decide +kernel), List.mem_of_getElem? (i := 66) (by decide +kernel), by decide +kernel, by decide +kernel, by decide⟩
theorem m_X4_begin : jMd yX4_begin cX4_begin 2 none 0 := ⟨List.mem_of_getElem? (i := 372) (by decide +kernel), List.mem_of_getElem? (i := 66) (by decide +kernel), by decide +kernel, by decide +kernel, by decide⟩
theorem m_X4_copyFrom : jMd yX4_copyFrom cX4_copyFrom 2 none 1 := ⟨List.mem_of_getElem? (i := 854) (by decide +kernel), List.mem_of_getElem? (i := 66) (by decide +kernel), by decide +kernel, by decide +kernel, by decide⟩
theorem m_X4_dropOldest : jMd yX4_dropOldest cX4_dropOldest 2 none 0 := ⟨List.mem_of_getElem? (i := 571) (by decide +kernel), List.mem_of_getElem? (i := 66) (by decide +kernel), by decide +kernel, by decide +kernel, by decide⟩
theorem m_X4_foldHeard : jMd yX4_foldHeard cX4_foldHeard 6 (some .long) 1 := ⟨List.mem_of_getElem? (i := 893) (by decide +kernel), List.mem_of_getElem? (i := 66) (by decide +kernel), by decide +kernel, by decide +kernel, by decide⟩
theorem m_X4_foldSleepersAndPupils : jMd yX4_foldSleepersAndPupils cX4_foldSleepersAndPupils 6 (some .long) 1 := ⟨List.mem_of_getElem? (i := 883) (by decide +kernel), List.mem_of_getElem? (i := 66) (by decide +kernel), by decide +kernel, by decide +kernel, by decide⟩
theorem m_X4_go : jMd yX4_go cX4_go 5 (some .int) 3 := ⟨List.mem_of_getElem? (i := 563) (by decide +kernel), List.mem_of_getElem? (i := 66) (by decide +kernel), by decide +kernel, by decide +kernel, by decide⟩
theorem m_X4_goBack : jMd yX4_goBack cX4_goBack 3 (some .int) 0 := ⟨List.mem_of_getElem? (i := 619) (by decide +kernel), List.mem_of_getElem? (i := 66) (by decide +kernel), by decide +kernel, by decide +kernel, by decide⟩
theorem m_X4_remember : jMd yX4_remember cX4_remember 3 none 0 := ⟨List.mem_of_getElem? (i := 567) (by decide +kernel), List.mem_of_getElem? (i := 66) (by decide +kernel), by decide +kernel, by decide +kernel, by decide⟩
theorem m_X4_toldOf : jMd yX4_toldOf cX4_toldOf 5 (some .int) 2 := ⟨List.mem_of_getElem? (i := 764) (by decide +kernel), List.mem_of_getElem? (i := 66) (by decide +kernel), by decide +kernel, by decide +kernel, by decide⟩
theorem m_X5_init : jMd yX5_init cX5_init 1 none 0 := ⟨List.mem_of_getElem? (i := 124) (by decide +kernel), List.mem_of_getElem? (i := 70) (by decide +kernel), by decide +kernel, by decide +kernel, by decide⟩
theorem m_X5_wakingNoise : jMd yX5_wakingNoise cX5_wakingNoise 5 (some .int) 3 := ⟨List.mem_of_getElem? (i := 594) (by decide +kernel), List.mem_of_getElem? (i := 70) (by decide +kernel), by decide +kernel, by decide +kernel, by decide⟩
theorem m_X6_init : jMd yX6_init cX6_init 1 none 0 := ⟨List.mem_of_getElem? (i := 138) (by decide +kernel), List.mem_of_getElem? (i := 72) (by decide +kernel), by decide +kernel, by decide +kernel, by decide⟩
theorem m_X6_wakingNoise : jMd yX6_wakingNoise cX6_wakingNoise 5 (some .int) 3 := ⟨List.mem_of_getElem? (i := 598) (by decide +kernel), List.mem_of_getElem? (i := 72) (by decide +kernel), by decide +kernel, by decide +kernel, by decide⟩
theorem m_X7_init : jMd yX7_init cX7_init 1 none 0 := ⟨List.mem_of_getElem? (i := 110) (by decide +kernel), List.mem_of_getElem? (i := 68) (by decide +kernel), by decide +kernel, by decide +kernel, by decide⟩
theorem m_X7_wakingNoise : jMd yX7_wakingNoise cX7_wakingNoise 4 (some .int) 3 := ⟨List.mem_of_getElem? (i := 604) (by decide +kernel), List.mem_of_getElem? (i := 68) (by decide +kernel), by decide +kernel, by decide +kernel, by decide⟩
theorem m_X8_init : jMd yX8_init cX8_init 1 none 0 := ⟨List.mem_of_getElem? (i := 268) (by decide +kernel), List.mem_of_getElem? (i := 75) (by decide +kernel), by decide +kernel, by decide +kernel, by decide⟩
theorem m_X8_advance : jMd yX8_advance cX8_advance 1 none 0 := ⟨List.mem_of_getElem? (i := 454) (by decide +kernel), List.mem_of_getElem? (i := 75) (by decide +kernel), by decide +kernel, by decide +kernel, by decide⟩
theorem m_X8_append : jMd yX8_append cX8_append 2 (some .int) 1 := ⟨List.mem_of_getElem? (i := 437) (by decide +kernel), List.mem_of_getElem? (i := 75) (by decide +kernel), by decide +kernel, by decide +kernel, by decide⟩
theorem m_X8_endOfRun : jMd yX8_endOfRun cX8_endOfRun 4 (some .int) 2 := ⟨List.mem_of_getElem? (i := 458) (by decide +kernel), List.mem_of_getElem? (i := 75) (by decide +kernel), by decide +kernel, by decide +kernel, by decide⟩
theorem m_X8_isWord : jMd yX8_isWord cX8_isWord 3 (some .boolean) 1 := ⟨List.mem_of_getElem? (i := 463) (by decide +kernel), List.mem_of_getElem? (i := 75) (by decide +kernel), by decide +kernel, by decide +kernel, by decide⟩
theorem m_X8_numberNext : jMd yX8_numberNext cX8_numberNext 4 (some .int) 1 := ⟨List.mem_of_getElem? (i := 528) (by decide +kernel), List.mem_of_getElem? (i := 75) (by decide +kernel), by decide +kernel, by decide +kernel, by decide⟩
theorem m_X8_readInto : jMd yX8_readInto cX8_readInto 5 (some .int) 1 := ⟨List.mem_of_getElem? (i := 449) (by decide +kernel), List.mem_of_getElem? (i := 75) (by decide +kernel), by decide +kernel, by decide +kernel, by decide⟩
theorem m_X8_readItem : jMd yX8_readItem cX8_readItem 2 (some .boolean) 1 := ⟨List.mem_of_getElem? (i := 519) (by decide +kernel), List.mem_of_getElem? (i := 75) (by decide +kernel), by decide +kernel, by decide +kernel, by decide⟩
theorem m_X8_readSleeper : jMd yX8_readSleeper cX8_readSleeper 5 (some .boolean) 1 := ⟨List.mem_of_getElem? (i := 534) (by decide +kernel), List.mem_of_getElem? (i := 75) (by decide +kernel), by decide +kernel, by decide +kernel, by decide⟩
theorem m_X8_readStair : jMd yX8_readStair cX8_readStair 5 (some .boolean) 1 := ⟨List.mem_of_getElem? (i := 524) (by decide +kernel), List.mem_of_getElem? (i := 75) (by decide +kernel), by decide +kernel, by decide +kernel, by decide⟩
theorem m_X8_readThing : jMd yX8_readThing cX8_readThing 6 (some .boolean) 1 := ⟨List.mem_of_getElem? (i := 540) (by decide +kernel), List.mem_of_getElem? (i := 75) (by decide +kernel), by decide +kernel, by decide +kernel, by decide⟩
theorem m_X8_stopNext : jMd yX8_stopNext cX8_stopNext 1 (some .boolean) 0 := ⟨List.mem_of_getElem? (i := 515) (by decide +kernel), List.mem_of_getElem? (i := 75) (by decide +kernel), by decide +kernel, by decide +kernel, by decide⟩
theorem m_X9_init : jMd yX9_init cX9_init 1 none 0 := ⟨List.mem_of_getElem? (i := 311) (by decide +kernel), List.mem_of_getElem? (i := 77) (by decide +kernel), by decide +kernel, by decide +kernel, by decide⟩
theorem m_X9_bestListener : jMd yX9_bestListener cX9_bestListener 11 (some .int) 2 := ⟨List.mem_of_getElem? (i := 794) (by decide +kernel), List.mem_of_getElem? (i := 77) (by decide +kernel), by decide +kernel, by decide +kernel, by decide⟩
theorem m_X9_findLeads : jMd yX9_findLeads cX9_findLeads 9 none 2 := ⟨List.mem_of_getElem? (i := 760) (by decide +kernel), List.mem_of_getElem? (i := 77) (by decide +kernel), by decide +kernel, by decide +kernel, by decide⟩
theorem m_X9_roomsIn : jMd yX9_roomsIn cX9_roomsIn 4 (some .int) 1 := ⟨List.mem_of_getElem? (i := 778) (by decide +kernel), List.mem_of_getElem? (i := 77) (by decide +kernel), by decide +kernel, by decide +kernel, by decide⟩
theorem m_X9_rowsHeardBy : jMd yX9_rowsHeardBy cX9_rowsHeardBy 10 (some .long) 3 := ⟨List.mem_of_getElem? (i := 799) (by decide +kernel), List.mem_of_getElem? (i := 77) (by decide +kernel), by decide +kernel, by decide +kernel, by decide⟩
theorem m_X9_tally : jMd yX9_tally cX9_tally 4 none 1 := ⟨List.mem_of_getElem? (i := 755) (by decide +kernel), List.mem_of_getElem? (i := 77) (by decide +kernel), by decide +kernel, by decide +kernel, by decide⟩
theorem m_X9_tallyBefore : jMd yX9_tallyBefore cX9_tallyBefore 4 none 0 := ⟨List.mem_of_getElem? (i := 769) (by decide +kernel), List.mem_of_getElem? (i := 77) (by decide +kernel), by decide +kernel, by decide +kernel, by decide⟩
theorem m_X9_tallyBehind : jMd yX9_tallyBehind cX9_tallyBehind 4 none 0 := ⟨List.mem_of_getElem? (i := 774) (by decide +kernel), List.mem_of_getElem? (i := 77) (by decide +kernel), by decide +kernel, by decide +kernel, by decide⟩
theorem m_X9_total : jMd yX9_total cX9_total 1 (some .long) 0 := ⟨List.mem_of_getElem? (i := 786) (by decide +kernel), List.mem_of_getElem? (i := 77) (by decide +kernel), by decide +kernel, by decide +kernel, by decide⟩
theorem m_X10_init : jMd yX10_init cX10_init 1 none 0 := ⟨List.mem_of_getElem? (i := 145) (by decide +kernel), List.mem_of_getElem? (i := 73) (by decide +kernel), by decide +kernel, by decide +kernel, by decide⟩
theorem m_X10_wakingNoise : jMd yX10_wakingNoise cX10_wakingNoise 5 (some .int) 3 := ⟨List.mem_of_getElem? (i := 602) (by decide +kernel), List.mem_of_getElem? (i := 73) (by decide +kernel), by decide +kernel, by decide +kernel, by decide⟩
theorem m_X12_init : jMd yX12_init cX12_init 1 none 0 := ⟨List.mem_of_getElem? (i := 898) (by decide +kernel), List.mem_of_getElem? (i := 78) (by decide +kernel), by decide +kernel, by decide +kernel, by decide⟩
theorem m_X12_addOwner : jMd yX12_addOwner cX12_addOwner 3 none 2 := ⟨List.mem_of_getElem? (i := 1056) (by decide +kernel), List.mem_of_getElem? (i := 78) (by decide +kernel), by decide +kernel, by decide +kernel, by decide⟩
theorem m_X12_addSleeper : jMd yX12_addSleeper cX12_addSleeper 5 none 3 := ⟨List.mem_of_getElem? (i := 1031) (by decide +kernel), List.mem_of_getElem? (i := 78) (by decide +kernel), by decide +kernel, by decide +kernel, by decide⟩
theorem m_X12_addThing : jMd yX12_addThing cX12_addThing 2 none 1 := ⟨List.mem_of_getElem? (i := 1039) (by decide +kernel), List.mem_of_getElem? (i := 78) (by decide +kernel), by decide +kernel, by decide +kernel, by decide⟩
theorem m_X12_anew : jMd yX12_anew cX12_anew 2 none 0 := ⟨List.mem_of_getElem? (i := 903) (by decide +kernel), List.mem_of_getElem? (i := 78) (by decide +kernel), by decide +kernel, by decide +kernel, by decide⟩
theorem m_X12_bad : jMd yX12_bad cX12_bad 1 (some .int) 0 := ⟨List.mem_of_getElem? (i := 1011) (by decide +kernel), List.mem_of_getElem? (i := 78) (by decide +kernel), by decide +kernel, by decide +kernel, by decide⟩
theorem m_X12_bothGo : jMd yX12_bothGo cX12_bothGo 7 none 2 := ⟨List.mem_of_getElem? (i := 1211) (by decide +kernel), List.mem_of_getElem? (i := 78) (by decide +kernel), by decide +kernel, by decide +kernel, by decide⟩
theorem m_X12_byteAt : jMd yX12_byteAt cX12_byteAt 2 (some .int) 1 := ⟨List.mem_of_getElem? (i := 1081) (by decide +kernel), List.mem_of_getElem? (i := 78) (by decide +kernel), by decide +kernel, by decide +kernel, by decide⟩
theorem m_X12_canBe : jMd yX12_canBe cX12_canBe 8 (some .boolean) 3 := ⟨List.mem_of_getElem? (i := 1244) (by decide +kernel), List.mem_of_getElem? (i := 78) (by decide +kernel), by decide +kernel, by decide +kernel, by decide⟩
theorem m_X12_canNot : jMd yX12_canNot cX12_canNot 3 (some .int) 0 := ⟨List.mem_of_getElem? (i := 1223) (by decide +kernel), List.mem_of_getElem? (i := 78) (by decide +kernel), by decide +kernel, by decide +kernel, by decide⟩
theorem m_X12_clear : jMd yX12_clear cX12_clear 2 (some .int) 0 := ⟨List.mem_of_getElem? (i := 1065) (by decide +kernel), List.mem_of_getElem? (i := 78) (by decide +kernel), by decide +kernel, by decide +kernel, by decide⟩
theorem m_X12_clocks : jMd yX12_clocks cX12_clocks 13 (some .int) 3 := ⟨List.mem_of_getElem? (i := 1264) (by decide +kernel), List.mem_of_getElem? (i := 78) (by decide +kernel), by decide +kernel, by decide +kernel, by decide⟩
theorem m_X12_count : jMd yX12_count cX12_count 2 (some .int) 1 := ⟨List.mem_of_getElem? (i := 1302) (by decide +kernel), List.mem_of_getElem? (i := 78) (by decide +kernel), by decide +kernel, by decide +kernel, by decide⟩
theorem m_X12_countOf : jMd yX12_countOf cX12_countOf 2 (some .int) 1 := ⟨List.mem_of_getElem? (i := 1307) (by decide +kernel), List.mem_of_getElem? (i := 78) (by decide +kernel), by decide +kernel, by decide +kernel, by decide⟩
theorem m_X12_creakOf : jMd yX12_creakOf cX12_creakOf 3 (some .int) 2 := ⟨List.mem_of_getElem? (i := 1015) (by decide +kernel), List.mem_of_getElem? (i := 78) (by decide +kernel), by decide +kernel, by decide +kernel, by decide⟩
theorem m_X12_digest : jMd yX12_digest cX12_digest 5 (some .long) 0 := ⟨List.mem_of_getElem? (i := 1311) (by decide +kernel), List.mem_of_getElem? (i := 78) (by decide +kernel), by decide +kernel, by decide +kernel, by decide⟩
theorem m_X12_ends : jMd yX12_ends cX12_ends 1 (some .boolean) 0 := ⟨List.mem_of_getElem? (i := 1102) (by decide +kernel), List.mem_of_getElem? (i := 78) (by decide +kernel), by decide +kernel, by decide +kernel, by decide⟩
theorem m_X12_far : jMd yX12_far cX12_far 3 (some .int) 2 := ⟨List.mem_of_getElem? (i := 1114) (by decide +kernel), List.mem_of_getElem? (i := 78) (by decide +kernel), by decide +kernel, by decide +kernel, by decide⟩
theorem m_X12_findFar : jMd yX12_findFar cX12_findFar 5 none 1 := ⟨List.mem_of_getElem? (i := 1118) (by decide +kernel), List.mem_of_getElem? (i := 78) (by decide +kernel), by decide +kernel, by decide +kernel, by decide⟩
theorem m_X12_findHeard : jMd yX12_findHeard cX12_findHeard 3 none 0 := ⟨List.mem_of_getElem? (i := 1240) (by decide +kernel), List.mem_of_getElem? (i := 78) (by decide +kernel), by decide +kernel, by decide +kernel, by decide⟩
theorem m_X12_findQuiet : jMd yX12_findQuiet cX12_findQuiet 3 none 1 := ⟨List.mem_of_getElem? (i := 1195) (by decide +kernel), List.mem_of_getElem? (i := 78) (by decide +kernel), by decide +kernel, by decide +kernel, by decide⟩
theorem m_X12_findWays : jMd yX12_findWays cX12_findWays 8 none 2 := ⟨List.mem_of_getElem? (i := 1191) (by decide +kernel), List.mem_of_getElem? (i := 78) (by decide +kernel), by decide +kernel, by decide +kernel, by decide⟩
theorem m_X12_forget : jMd yX12_forget cX12_forget 2 (some .int) 0 := ⟨List.mem_of_getElem? (i := 1232) (by decide +kernel), List.mem_of_getElem? (i := 78) (by decide +kernel), by decide +kernel, by decide +kernel, by decide⟩
theorem m_X12_from : jMd yX12_from cX12_from 3 (some .int) 1 := ⟨List.mem_of_getElem? (i := 1294) (by decide +kernel), List.mem_of_getElem? (i := 78) (by decide +kernel), by decide +kernel, by decide +kernel, by decide⟩
theorem m_X12_full : jMd yX12_full cX12_full 1 (some .int) 0 := ⟨List.mem_of_getElem? (i := 1027) (by decide +kernel), List.mem_of_getElem? (i := 78) (by decide +kernel), by decide +kernel, by decide +kernel, by decide⟩
theorem m_X12_goes : jMd yX12_goes cX12_goes 4 (some .int) 2 := ⟨List.mem_of_getElem? (i := 1155) (by decide +kernel), List.mem_of_getElem? (i := 78) (by decide +kernel), by decide +kernel, by decide +kernel, by decide⟩
theorem m_X12_has : jMd yX12_has cX12_has 2 (some .boolean) 2 := ⟨List.mem_of_getElem? (i := 1260) (by decide +kernel), List.mem_of_getElem? (i := 78) (by decide +kernel), by decide +kernel, by decide +kernel, by decide⟩
theorem m_X12_heard : jMd yX12_heard cX12_heard 5 (some .int) 3 := ⟨List.mem_of_getElem? (i := 1227) (by decide +kernel), List.mem_of_getElem? (i := 78) (by decide +kernel), by decide +kernel, by decide +kernel, by decide⟩
theorem m_X12_heardBy : jMd yX12_heardBy cX12_heardBy 4 (some .int) 3 := ⟨List.mem_of_getElem? (i := 1248) (by decide +kernel), List.mem_of_getElem? (i := 78) (by decide +kernel), by decide +kernel, by decide +kernel, by decide⟩
theorem m_X12_house : jMd yX12_house cX12_house 2 (some .int) 0 := ⟨List.mem_of_getElem? (i := 995) (by decide +kernel), List.mem_of_getElem? (i := 78) (by decide +kernel), by decide +kernel, by decide +kernel, by decide⟩
theorem m_X12_image : jMd yX12_image cX12_image 3 (some .int) 1 := ⟨List.mem_of_getElem? (i := 1290) (by decide +kernel), List.mem_of_getElem? (i := 78) (by decide +kernel), by decide +kernel, by decide +kernel, by decide⟩
theorem m_X12_in : jMd yX12_in cX12_in 6 (some .boolean) 3 := ⟨List.mem_of_getElem? (i := 1006) (by decide +kernel), List.mem_of_getElem? (i := 78) (by decide +kernel), by decide +kernel, by decide +kernel, by decide⟩
theorem m_X12_isMinute : jMd yX12_isMinute cX12_isMinute 1 (some .boolean) 1 := ⟨List.mem_of_getElem? (i := 1126) (by decide +kernel), List.mem_of_getElem? (i := 78) (by decide +kernel), by decide +kernel, by decide +kernel, by decide⟩
theorem m_X12_isQuiet : jMd yX12_isQuiet cX12_isQuiet 4 (some .boolean) 3 := ⟨List.mem_of_getElem? (i := 1199) (by decide +kernel), List.mem_of_getElem? (i := 78) (by decide +kernel), by decide +kernel, by decide +kernel, by decide⟩
theorem m_X12_isRoom : jMd yX12_isRoom cX12_isRoom 1 (some .boolean) 1 := ⟨List.mem_of_getElem? (i := 1002) (by decide +kernel), List.mem_of_getElem? (i := 78) (by decide +kernel), by decide +kernel, by decide +kernel, by decide⟩
theorem m_X12_isSleeper : jMd yX12_isSleeper cX12_isSleeper 2 (some .boolean) 1 := ⟨List.mem_of_getElem? (i := 1175) (by decide +kernel), List.mem_of_getElem? (i := 78) (by decide +kernel), by decide +kernel, by decide +kernel, by decide⟩
theorem m_X12_isThing : jMd yX12_isThing cX12_isThing 2 (some .boolean) 1 := ⟨List.mem_of_getElem? (i := 1047) (by decide +kernel), List.mem_of_getElem? (i := 78) (by decide +kernel), by decide +kernel, by decide +kernel, by decide⟩
theorem m_X12_isWhat : jMd yX12_isWhat cX12_isWhat 1 (some .boolean) 1 := ⟨List.mem_of_getElem? (i := 1187) (by decide +kernel), List.mem_of_getElem? (i := 78) (by decide +kernel), by decide +kernel, by decide +kernel, by decide⟩
theorem m_X12_isWord : jMd yX12_isWord cX12_isWord 6 (some .boolean) 1 := ⟨List.mem_of_getElem? (i := 1098) (by decide +kernel), List.mem_of_getElem? (i := 78) (by decide +kernel), by decide +kernel, by decide +kernel, by decide⟩
theorem m_X12_lastOwner : jMd yX12_lastOwner cX12_lastOwner 2 (some .int) 1 := ⟨List.mem_of_getElem? (i := 1052) (by decide +kernel), List.mem_of_getElem? (i := 78) (by decide +kernel), by decide +kernel, by decide +kernel, by decide⟩
theorem m_X12_listen : jMd yX12_listen cX12_listen 12 (some .int) 1 := ⟨List.mem_of_getElem? (i := 1256) (by decide +kernel), List.mem_of_getElem? (i := 78) (by decide +kernel), by decide +kernel, by decide +kernel, by decide⟩
theorem m_X12_loud : jMd yX12_loud cX12_loud 5 (some .int) 2 := ⟨List.mem_of_getElem? (i := 1139) (by decide +kernel), List.mem_of_getElem? (i := 78) (by decide +kernel), by decide +kernel, by decide +kernel, by decide⟩
theorem m_X12_may : jMd yX12_may cX12_may 4 (some .int) 1 := ⟨List.mem_of_getElem? (i := 1236) (by decide +kernel), List.mem_of_getElem? (i := 78) (by decide +kernel), by decide +kernel, by decide +kernel, by decide⟩
theorem m_X12_nextToken : jMd yX12_nextToken cX12_nextToken 1 none 0 := ⟨List.mem_of_getElem? (i := 1077) (by decide +kernel), List.mem_of_getElem? (i := 78) (by decide +kernel), by decide +kernel, by decide +kernel, by decide⟩
theorem m_X12_nights : jMd yX12_nights cX12_nights 8 (some .int) 2 := ⟨List.mem_of_getElem? (i := 1276) (by decide +kernel), List.mem_of_getElem? (i := 78) (by decide +kernel), by decide +kernel, by decide +kernel, by decide⟩
theorem m_X12_no : jMd yX12_no cX12_no 1 (some .int) 0 := ⟨List.mem_of_getElem? (i := 1147) (by decide +kernel), List.mem_of_getElem? (i := 78) (by decide +kernel), by decide +kernel, by decide +kernel, by decide⟩
theorem m_X12_note : jMd yX12_note cX12_note 2 none 0 := ⟨List.mem_of_getElem? (i := 1151) (by decide +kernel), List.mem_of_getElem? (i := 78) (by decide +kernel), by decide +kernel, by decide +kernel, by decide⟩
theorem m_X12_of : jMd yX12_of cX12_of 3 (some .int) 2 := ⟨List.mem_of_getElem? (i := 1171) (by decide +kernel), List.mem_of_getElem? (i := 78) (by decide +kernel), by decide +kernel, by decide +kernel, by decide⟩
theorem m_X12_ones : jMd yX12_ones cX12_ones 3 (some .int) 1 := ⟨List.mem_of_getElem? (i := 1268) (by decide +kernel), List.mem_of_getElem? (i := 78) (by decide +kernel), by decide +kernel, by decide +kernel, by decide⟩
theorem m_X12_owed : jMd yX12_owed cX12_owed 5 (some .int) 1 := ⟨List.mem_of_getElem? (i := 1215) (by decide +kernel), List.mem_of_getElem? (i := 78) (by decide +kernel), by decide +kernel, by decide +kernel, by decide⟩
theorem m_X12_owner : jMd yX12_owner cX12_owner 3 (some .int) 2 := ⟨List.mem_of_getElem? (i := 1043) (by decide +kernel), List.mem_of_getElem? (i := 78) (by decide +kernel), by decide +kernel, by decide +kernel, by decide⟩
theorem m_X12_pairOf : jMd yX12_pairOf cX12_pairOf 4 (some .int) 2 := ⟨List.mem_of_getElem? (i := 1018) (by decide +kernel), List.mem_of_getElem? (i := 78) (by decide +kernel), by decide +kernel, by decide +kernel, by decide⟩
theorem m_X12_part : jMd yX12_part cX12_part 2 (some .long) 1 := ⟨List.mem_of_getElem? (i := 1286) (by decide +kernel), List.mem_of_getElem? (i := 78) (by decide +kernel), by decide +kernel, by decide +kernel, by decide⟩
theorem m_X12_passes : jMd yX12_passes cX12_passes 2 none 1 := ⟨List.mem_of_getElem? (i := 1159) (by decide +kernel), List.mem_of_getElem? (i := 78) (by decide +kernel), by decide +kernel, by decide +kernel, by decide⟩
theorem m_X12_read : jMd yX12_read cX12_read 1 (some .int) 0 := ⟨List.mem_of_getElem? (i := 1069) (by decide +kernel), List.mem_of_getElem? (i := 78) (by decide +kernel), by decide +kernel, by decide +kernel, by decide⟩
theorem m_X12_readItem : jMd yX12_readItem cX12_readItem 6 (some .boolean) 2 := ⟨List.mem_of_getElem? (i := 1089) (by decide +kernel), List.mem_of_getElem? (i := 78) (by decide +kernel), by decide +kernel, by decide +kernel, by decide⟩
theorem m_X12_readOwners : jMd yX12_readOwners cX12_readOwners 1 (some .boolean) 0 := ⟨List.mem_of_getElem? (i := 1110) (by decide +kernel), List.mem_of_getElem? (i := 78) (by decide +kernel), by decide +kernel, by decide +kernel, by decide⟩
theorem m_X12_readText : jMd yX12_readText cX12_readText 3 (some .int) 1 := ⟨List.mem_of_getElem? (i := 1073) (by decide +kernel), List.mem_of_getElem? (i := 78) (by decide +kernel), by decide +kernel, by decide +kernel, by decide⟩
theorem m_X12_reads : jMd yX12_reads cX12_reads 3 (some .boolean) 2 := ⟨List.mem_of_getElem? (i := 1106) (by decide +kernel), List.mem_of_getElem? (i := 78) (by decide +kernel), by decide +kernel, by decide +kernel, by decide⟩
theorem m_X12_schedule : jMd yX12_schedule cX12_schedule 5 (some .int) 2 := ⟨List.mem_of_getElem? (i := 1207) (by decide +kernel), List.mem_of_getElem? (i := 78) (by decide +kernel), by decide +kernel, by decide +kernel, by decide⟩
theorem m_X12_setFraction : jMd yX12_setFraction cX12_setFraction 11 none 2 := ⟨List.mem_of_getElem? (i := 1272) (by decide +kernel), List.mem_of_getElem? (i := 78) (by decide +kernel), by decide +kernel, by decide +kernel, by decide⟩
theorem m_X12_sleeper : jMd yX12_sleeper cX12_sleeper 4 (some .int) 3 := ⟨List.mem_of_getElem? (i := 1022) (by decide +kernel), List.mem_of_getElem? (i := 78) (by decide +kernel), by decide +kernel, by decide +kernel, by decide⟩
theorem m_X12_softest : jMd yX12_softest cX12_softest 8 (some .int) 2 := ⟨List.mem_of_getElem? (i := 1203) (by decide +kernel), List.mem_of_getElem? (i := 78) (by decide +kernel), by decide +kernel, by decide +kernel, by decide⟩
theorem m_X12_spelt : jMd yX12_spelt cX12_spelt 9 (some .long) 7 := ⟨List.mem_of_getElem? (i := 1092) (by decide +kernel), List.mem_of_getElem? (i := 78) (by decide +kernel), by decide +kernel, by decide +kernel, by decide⟩
theorem m_X12_stair : jMd yX12_stair cX12_stair 5 (some .int) 3 := ⟨List.mem_of_getElem? (i := 999) (by decide +kernel), List.mem_of_getElem? (i := 78) (by decide +kernel), by decide +kernel, by decide +kernel, by decide⟩
theorem m_X12_status : jMd yX12_status cX12_status 2 (some .int) 1 := ⟨List.mem_of_getElem? (i := 1298) (by decide +kernel), List.mem_of_getElem? (i := 78) (by decide +kernel), by decide +kernel, by decide +kernel, by decide⟩
theorem m_X12_step : jMd yX12_step cX12_step 4 (some .int) 2 := ⟨List.mem_of_getElem? (i := 1143) (by decide +kernel), List.mem_of_getElem? (i := 78) (by decide +kernel), by decide +kernel, by decide +kernel, by decide⟩
theorem m_X12_thing : jMd yX12_thing cX12_thing 2 (some .int) 1 := ⟨List.mem_of_getElem? (i := 1035) (by decide +kernel), List.mem_of_getElem? (i := 78) (by decide +kernel), by decide +kernel, by decide +kernel, by decide⟩
theorem m_X12_took : jMd yX12_took cX12_took 2 (some .int) 1 := ⟨List.mem_of_getElem? (i := 1219) (by decide +kernel), List.mem_of_getElem? (i := 78) (by decide +kernel), by decide +kernel, by decide +kernel, by decide⟩
theorem m_X12_type : jMd yX12_type cX12_type 2 (some .int) 1 := ⟨List.mem_of_getElem? (i := 1060) (by decide +kernel), List.mem_of_getElem? (i := 78) (by decide +kernel), by decide +kernel, by decide +kernel, by decide⟩
theorem m_X12_undo : jMd yX12_undo cX12_undo 2 (some .int) 0 := ⟨List.mem_of_getElem? (i := 1167) (by decide +kernel), List.mem_of_getElem? (i := 78) (by decide +kernel), by decide +kernel, by decide +kernel, by decide⟩
theorem m_X12_waits : jMd yX12_waits cX12_waits 2 (some .int) 1 := ⟨List.mem_of_getElem? (i := 1163) (by decide +kernel), List.mem_of_getElem? (i := 78) (by decide +kernel), by decide +kernel, by decide +kernel, by decide⟩
theorem m_X12_wakes : jMd yX12_wakes cX12_wakes 4 (some .int) 3 := ⟨List.mem_of_getElem? (i := 1122) (by decide +kernel), List.mem_of_getElem? (i := 78) (by decide +kernel), by decide +kernel, by decide +kernel, by decide⟩
theorem m_X12_wakesBy : jMd yX12_wakesBy cX12_wakesBy 7 (some .int) 3 := ⟨List.mem_of_getElem? (i := 1131) (by decide +kernel), List.mem_of_getElem? (i := 78) (by decide +kernel), by decide +kernel, by decide +kernel, by decide⟩
theorem m_X12_wakesFrom : jMd yX12_wakesFrom cX12_wakesFrom 7 (some .int) 3 := ⟨List.mem_of_getElem? (i := 1135) (by decide +kernel), List.mem_of_getElem? (i := 78) (by decide +kernel), by decide +kernel, by decide +kernel, by decide⟩
theorem m_X12_way : jMd yX12_way cX12_way 7 (some .int) 4 := ⟨List.mem_of_getElem? (i := 1184) (by decide +kernel), List.mem_of_getElem? (i := 78) (by decide +kernel), by decide +kernel, by decide +kernel, by decide⟩
theorem m_X12_ways : jMd yX12_ways cX12_ways 1 (some .long) 0 := ⟨List.mem_of_getElem? (i := 1252) (by decide +kernel), List.mem_of_getElem? (i := 78) (by decide +kernel), by decide +kernel, by decide +kernel, by decide⟩
theorem m_X12_where : jMd yX12_where cX12_where 2 (some .int) 1 := ⟨List.mem_of_getElem? (i := 1180) (by decide +kernel), List.mem_of_getElem? (i := 78) (by decide +kernel), by decide +kernel, by decide +kernel, by decide⟩
theorem m_J6_bitCount_0f7a4 : jMd yJ6_bitCount_0f7a4 cJ6_bitCount_0f7a4 1 (some .int) 1 := ⟨List.mem_of_getElem? (i := 814) (by decide +kernel), List.mem_of_getElem? (i := 84) (by decide +kernel), by decide +kernel, by decide +kernel, by decide⟩
theorem m_J9_max_f86c9 : jMd yJ9_max_f86c9 cJ9_max_f86c9 4 (some .long) 2 := ⟨List.mem_of_getElem? (i := 803) (by decide +kernel), List.mem_of_getElem? (i := 74) (by decide +kernel), by decide +kernel, by decide +kernel, by decide⟩
theorem m_J9_min_7cf53 : jMd yJ9_min_7cf53 cJ9_min_7cf53 2 (some .int) 2 := ⟨List.mem_of_getElem? (i := 161) (by decide +kernel), List.mem_of_getElem? (i := 74) (by decide +kernel), by decide +kernel, by decide +kernel, by decide⟩
theorem m_J0_charAt_5068e : jMd yJ0_charAt_5068e cJ0_charAt_5068e 2 (some .char) 1 := ⟨List.mem_of_getElem? (i := 477) (by decide +kernel), List.mem_of_getElem? (i := 79) (by decide +kernel), by decide +kernel, by decide +kernel, by decide⟩
theorem m_J0_checkIndex_df160 : jMd yJ0_checkIndex_df160 cJ0_checkIndex_df160 2 none 2 := ⟨List.mem_of_getElem? (i := 487) (by decide +kernel), List.mem_of_getElem? (i := 79) (by decide +kernel), by decide +kernel, by decide +kernel, by decide⟩
theorem m_J0_coder_7d493 : jMd yJ0_coder_7d493 cJ0_coder_7d493 1 (some .byte) 0 := ⟨List.mem_of_getElem? (i := 471) (by decide +kernel), List.mem_of_getElem? (i := 79) (by decide +kernel), by decide +kernel, by decide +kernel, by decide⟩
theorem m_J0_isLatin1_aae02 : jMd yJ0_isLatin1_aae02 cJ0_isLatin1_aae02 1 (some .boolean) 0 := ⟨List.mem_of_getElem? (i := 481) (by decide +kernel), List.mem_of_getElem? (i := 79) (by decide +kernel), by decide +kernel, by decide +kernel, by decide⟩
theorem m_J0_length_8abf5 : jMd yJ0_length_8abf5 cJ0_length_8abf5 1 (some .int) 0 := ⟨List.mem_of_getElem? (i := 467) (by decide +kernel), List.mem_of_getElem? (i := 79) (by decide +kernel), by decide +kernel, by decide +kernel, by decide⟩
theorem m_J1_charAt_3b067 : jMd yJ1_charAt_3b067 cJ1_charAt_3b067 2 (some .char) 2 := ⟨List.mem_of_getElem? (i := 484) (by decide +kernel), List.mem_of_getElem? (i := 80) (by decide +kernel), by decide +kernel, by decide +kernel, by decide⟩
theorem m_J2_charAt_3b067 : jMd yJ2_charAt_3b067 cJ2_charAt_3b067 2 (some .char) 2 := ⟨List.mem_of_getElem? (i := 495) (by decide +kernel), List.mem_of_getElem? (i := 82) (by decide +kernel), by decide +kernel, by decide +kernel, by decide⟩
theorem m_J2_checkIndex_2214a : jMd yJ2_checkIndex_2214a cJ2_checkIndex_2214a 2 none 2 := ⟨List.mem_of_getElem? (i := 498) (by decide +kernel), List.mem_of_getElem? (i := 82) (by decide +kernel), by decide +kernel, by decide +kernel, by decide⟩
theorem m_J2_getChar_3b067 : jMd yJ2_getChar_3b067 cJ2_getChar_3b067 2 (some .char) 2 := ⟨List.mem_of_getElem? (i := 505) (by decide +kernel), List.mem_of_getElem? (i := 82) (by decide +kernel), by decide +kernel, by decide +kernel, by decide⟩
theorem m_J2_length_9d52b : jMd yJ2_length_9d52b cJ2_length_9d52b 1 (some .int) 1 := ⟨List.mem_of_getElem? (i := 501) (by decide +kernel), List.mem_of_getElem? (i := 82) (by decide +kernel), by decide +kernel, by decide +kernel, by decide⟩
theorem m_J3_checkIndex_8e157 : jMd yJ3_checkIndex_8e157 cJ3_checkIndex_8e157 3 (some .int) 3 := ⟨List.mem_of_getElem? (i := 492) (by decide +kernel), List.mem_of_getElem? (i := 81) (by decide +kernel), by decide +kernel, by decide +kernel, by decide⟩
theorem k_X0_1 : jLIN RX0 1 yX3_init "PutBack" := ⟨List.mem_of_getElem? (i := 132) (by decide +kernel), List.mem_of_getElem? (i := 116) (by decide +kernel), rfl⟩
theorem k_X0_7 : jLU RX0 7 yX3_wakingNoise := ⟨List.mem_of_getElem? (i := 587) (by decide +kernel), List.mem_of_getElem? (i := 1314) (by decide +kernel), List.mem_of_getElem? (i := 133) (by decide +kernel), List.mem_of_getElem? (i := 588) (by decide +kernel), by decide +kernel⟩
theorem k_X1_3 : .methodLink RX1 3 Lib.objectInit ∈ lw_good := List.mem_of_getElem? (i := 296) (by decide +kernel)
theorem k_X1_21 : jLV RX1 21 yX1_stayOnly := ⟨List.mem_of_getElem? (i := 665) (by decide +kernel), List.mem_of_getElem? (i := 667) (by decide +kernel), List.mem_of_getElem? (i := 17) (by decide +kernel)⟩
theorem k_X1_24 : jLV RX1 24 yX2_loudest := ⟨List.mem_of_getElem? (i := 669) (by decide +kernel), List.mem_of_getElem? (i := 649) (by decide +kernel), List.mem_of_getElem? (i := 650) (by decide +kernel)⟩
theorem k_X1_30 : jLV RX1 30 yX1_allowInto := ⟨List.mem_of_getElem? (i := 670) (by decide +kernel), List.mem_of_getElem? (i := 672) (by decide +kernel), List.mem_of_getElem? (i := 18) (by decide +kernel)⟩
theorem k_X1_37 : jLSN RX1 37 yX11_pair "PutBack" := ⟨List.mem_of_getElem? (i := 674) (by decide +kernel), List.mem_of_getElem? (i := 157) (by decide +kernel)⟩
theorem k_X1_40 : jLSN RX1 40 yX11_bit "PutBack" := ⟨List.mem_of_getElem? (i := 660) (by decide +kernel), List.mem_of_getElem? (i := 629) (by decide +kernel)⟩
theorem k_X1_43 : jLV RX1 43 yX1_lookAt := ⟨List.mem_of_getElem? (i := 661) (by decide +kernel), List.mem_of_getElem? (i := 663) (by decide +kernel), List.mem_of_getElem? (i := 16) (by decide +kernel)⟩
theorem k_X1_47 : jLV RX1 47 yX1_roomsAfter := ⟨List.mem_of_getElem? (i := 675) (by decide +kernel), List.mem_of_getElem? (i := 677) (by decide +kernel), List.mem_of_getElem? (i := 19) (by decide +kernel)⟩
theorem k_X1_51 : jLV RX1 51 yX1_roomsAhead := ⟨List.mem_of_getElem? (i := 683) (by decide +kernel), List.mem_of_getElem? (i := 685) (by decide +kernel), List.mem_of_getElem? (i := 20) (by decide +kernel)⟩
theorem k_X1_54 : jLV RX1 54 yX1_allowCreaks := ⟨List.mem_of_getElem? (i := 695) (by decide +kernel), List.mem_of_getElem? (i := 697) (by decide +kernel), List.mem_of_getElem? (i := 21) (by decide +kernel)⟩
theorem k_X1_57 : jLV RX1 57 yX1_goTogether := ⟨List.mem_of_getElem? (i := 707) (by decide +kernel), List.mem_of_getElem? (i := 709) (by decide +kernel), List.mem_of_getElem? (i := 22) (by decide +kernel)⟩
theorem k_X1_60 : jLV RX1 60 yX1_secondGoes := ⟨List.mem_of_getElem? (i := 711) (by decide +kernel), List.mem_of_getElem? (i := 713) (by decide +kernel), List.mem_of_getElem? (i := 23) (by decide +kernel)⟩
theorem k_X2_3 : .methodLink RX2 3 Lib.objectInit ∈ lw_good := List.mem_of_getElem? (i := 104) (by decide +kernel)
theorem k_X2_11 : jLIN RX2 11 yX7_init "PutBack" := ⟨List.mem_of_getElem? (i := 108) (by decide +kernel), List.mem_of_getElem? (i := 109) (by decide +kernel), rfl⟩
theorem k_X2_14 : jLIN RX2 14 yX3_init "PutBack" := ⟨List.mem_of_getElem? (i := 115) (by decide +kernel), List.mem_of_getElem? (i := 116) (by decide +kernel), rfl⟩
theorem k_X2_17 : jLIN RX2 17 yX5_init "PutBack" := ⟨List.mem_of_getElem? (i := 122) (by decide +kernel), List.mem_of_getElem? (i := 123) (by decide +kernel), rfl⟩
theorem k_X2_20 : jLIN RX2 20 yX0_init "PutBack" := ⟨List.mem_of_getElem? (i := 129) (by decide +kernel), List.mem_of_getElem? (i := 130) (by decide +kernel), rfl⟩
theorem k_X2_23 : jLIN RX2 23 yX6_init "PutBack" := ⟨List.mem_of_getElem? (i := 136) (by decide +kernel), List.mem_of_getElem? (i := 137) (by decide +kernel), rfl⟩
theorem k_X2_26 : jLIN RX2 26 yX10_init "PutBack" := ⟨List.mem_of_getElem? (i := 143) (by decide +kernel), List.mem_of_getElem? (i := 144) (by decide +kernel), rfl⟩
theorem k_X2_58 : jLV RX2 58 yX2_empty := ⟨List.mem_of_getElem? (i := 148) (by decide +kernel), List.mem_of_getElem? (i := 149) (by decide +kernel), List.mem_of_getElem? (i := 150) (by decide +kernel)⟩
theorem k_X2_68 : jLV RX2 68 yX2_measure := ⟨List.mem_of_getElem? (i := 152) (by decide +kernel), List.mem_of_getElem? (i := 154) (by decide +kernel), List.mem_of_getElem? (i := 0) (by decide +kernel)⟩
theorem k_X2_77 : jLSN RX2 77 yX11_pair "PutBack" := ⟨List.mem_of_getElem? (i := 156) (by decide +kernel), List.mem_of_getElem? (i := 157) (by decide +kernel)⟩
theorem k_X2_81 : jLS RX2 81 yJ9_min_7cf53 := ⟨List.mem_of_getElem? (i := 159) (by decide +kernel), List.mem_of_getElem? (i := 160) (by decide +kernel)⟩
theorem k_X2_86_X0 : jLO RX2 86 (jnm 0) yX7_wakingNoise yX0_wakingNoise := ⟨List.mem_of_getElem? (i := 580) (by decide +kernel), List.mem_of_getElem? (i := 583) (by decide +kernel), List.mem_of_getElem? (i := 584) (by decide +kernel), List.mem_of_getElem? (i := 585) (by decide +kernel), List.mem_of_getElem? (i := 581) (by decide +kernel), ⟨cX7_wakingNoise, 4, (some .int), List.mem_of_getElem? (i := 604) (by decide +kernel)⟩, by decide +kernel, rfl⟩
theorem k_X2_86_X3 : jLO RX2 86 (jnm 3) yX7_wakingNoise yX3_wakingNoise := ⟨List.mem_of_getElem? (i := 580) (by decide +kernel), List.mem_of_getElem? (i := 583) (by decide +kernel), List.mem_of_getElem? (i := 591) (by decide +kernel), List.mem_of_getElem? (i := 588) (by decide +kernel), List.mem_of_getElem? (i := 581) (by decide +kernel), ⟨cX7_wakingNoise, 4, (some .int), List.mem_of_getElem? (i := 604) (by decide +kernel)⟩, by decide +kernel, rfl⟩
theorem k_X2_86_X5 : jLO RX2 86 (jnm 5) yX7_wakingNoise yX5_wakingNoise := ⟨List.mem_of_getElem? (i := 580) (by decide +kernel), List.mem_of_getElem? (i := 583) (by decide +kernel), List.mem_of_getElem? (i := 592) (by decide +kernel), List.mem_of_getElem? (i := 593) (by decide +kernel), List.mem_of_getElem? (i := 581) (by decide +kernel), ⟨cX7_wakingNoise, 4, (some .int), List.mem_of_getElem? (i := 604) (by decide +kernel)⟩, by decide +kernel, rfl⟩
theorem k_X2_86_X6 : jLO RX2 86 (jnm 6) yX7_wakingNoise yX6_wakingNoise := ⟨List.mem_of_getElem? (i := 580) (by decide +kernel), List.mem_of_getElem? (i := 583) (by decide +kernel), List.mem_of_getElem? (i := 596) (by decide +kernel), List.mem_of_getElem? (i := 597) (by decide +kernel), List.mem_of_getElem? (i := 581) (by decide +kernel), ⟨cX7_wakingNoise, 4, (some .int), List.mem_of_getElem? (i := 604) (by decide +kernel)⟩, by decide +kernel, rfl⟩
theorem k_X2_86_X10 : jLO RX2 86 (jnm 10) yX7_wakingNoise yX10_wakingNoise := ⟨List.mem_of_getElem? (i := 580) (by decide +kernel), List.mem_of_getElem? (i := 583) (by decide +kernel), List.mem_of_getElem? (i := 600) (by decide +kernel), List.mem_of_getElem? (i := 601) (by decide +kernel), List.mem_of_getElem? (i := 581) (by decide +kernel), ⟨cX7_wakingNoise, 4, (some .int), List.mem_of_getElem? (i := 604) (by decide +kernel)⟩, by decide +kernel, rfl⟩
theorem k_X2_86 : jLV RX2 86 yX7_wakingNoise := ⟨List.mem_of_getElem? (i := 580) (by decide +kernel), List.mem_of_getElem? (i := 581) (by decide +kernel), List.mem_of_getElem? (i := 582) (by decide +kernel)⟩
theorem k_X2_90 : jLV RX2 90 yX2_leastNoise := ⟨List.mem_of_getElem? (i := 576) (by decide +kernel), List.mem_of_getElem? (i := 577) (by decide +kernel), List.mem_of_getElem? (i := 578) (by decide +kernel)⟩
theorem k_X3_1 : jLIN RX3 1 yX7_init "PutBack" := ⟨List.mem_of_getElem? (i := 118) (by decide +kernel), List.mem_of_getElem? (i := 109) (by decide +kernel), rfl⟩
theorem k_X3_7 : jLU RX3 7 yX7_wakingNoise := ⟨List.mem_of_getElem? (i := 590) (by decide +kernel), List.mem_of_getElem? (i := 583) (by decide +kernel), List.mem_of_getElem? (i := 119) (by decide +kernel), List.mem_of_getElem? (i := 581) (by decide +kernel), by decide +kernel⟩
theorem k_X4_3 : .methodLink RX4 3 Lib.objectInit ∈ lw_good := List.mem_of_getElem? (i := 98) (by decide +kernel)
theorem k_X4_11 : jLI RX4 11 yX2_init := ⟨List.mem_of_getElem? (i := 101) (by decide +kernel), List.mem_of_getElem? (i := 102) (by decide +kernel), rfl⟩
theorem k_X4_56 : jLV RX4 56 yX2_copyFrom := ⟨List.mem_of_getElem? (i := 855) (by decide +kernel), List.mem_of_getElem? (i := 545) (by decide +kernel), List.mem_of_getElem? (i := 546) (by decide +kernel)⟩
theorem k_X4_66 : jLV RX4 66 yX4_remember := ⟨List.mem_of_getElem? (i := 564) (by decide +kernel), List.mem_of_getElem? (i := 565) (by decide +kernel), List.mem_of_getElem? (i := 566) (by decide +kernel)⟩
theorem k_X4_69 : jLV RX4 69 yX2_wakers := ⟨List.mem_of_getElem? (i := 572) (by decide +kernel), List.mem_of_getElem? (i := 573) (by decide +kernel), List.mem_of_getElem? (i := 574) (by decide +kernel)⟩
theorem k_X4_73 : jLS RX4 73 yJ9_min_7cf53 := ⟨List.mem_of_getElem? (i := 605) (by decide +kernel), List.mem_of_getElem? (i := 160) (by decide +kernel)⟩
theorem k_X4_79 : jLV RX4 79 yX4_dropOldest := ⟨List.mem_of_getElem? (i := 568) (by decide +kernel), List.mem_of_getElem? (i := 570) (by decide +kernel), List.mem_of_getElem? (i := 14) (by decide +kernel)⟩
theorem k_X4_95 : jLSN RX4 95 yX11_pair "PutBack" := ⟨List.mem_of_getElem? (i := 841) (by decide +kernel), List.mem_of_getElem? (i := 157) (by decide +kernel)⟩
theorem k_X4_98 : jLS RX4 98 yJ6_bitCount_0f7a4 := ⟨List.mem_of_getElem? (i := 842) (by decide +kernel), List.mem_of_getElem? (i := 813) (by decide +kernel)⟩
theorem k_X4_118 : jLSN RX4 118 yX11_bit "PutBack" := ⟨List.mem_of_getElem? (i := 885) (by decide +kernel), List.mem_of_getElem? (i := 629) (by decide +kernel)⟩
theorem k_X5_1 : jLIN RX5 1 yX7_init "PutBack" := ⟨List.mem_of_getElem? (i := 125) (by decide +kernel), List.mem_of_getElem? (i := 109) (by decide +kernel), rfl⟩
theorem k_X5_7 : jLU RX5 7 yX7_wakingNoise := ⟨List.mem_of_getElem? (i := 595) (by decide +kernel), List.mem_of_getElem? (i := 583) (by decide +kernel), List.mem_of_getElem? (i := 126) (by decide +kernel), List.mem_of_getElem? (i := 581) (by decide +kernel), by decide +kernel⟩
theorem k_X6_1 : jLIN RX6 1 yX3_init "PutBack" := ⟨List.mem_of_getElem? (i := 139) (by decide +kernel), List.mem_of_getElem? (i := 116) (by decide +kernel), rfl⟩
theorem k_X6_7 : jLU RX6 7 yX3_wakingNoise := ⟨List.mem_of_getElem? (i := 599) (by decide +kernel), List.mem_of_getElem? (i := 1314) (by decide +kernel), List.mem_of_getElem? (i := 140) (by decide +kernel), List.mem_of_getElem? (i := 588) (by decide +kernel), by decide +kernel⟩
theorem k_X7_1 : .methodLink RX7 1 Lib.objectInit ∈ lw_good := List.mem_of_getElem? (i := 111) (by decide +kernel)
theorem k_X8_3 : .methodLink RX8 3 Lib.objectInit ∈ lw_good := List.mem_of_getElem? (i := 269) (by decide +kernel)
theorem k_X8_19 : jLV RX8 19 yX2_empty := ⟨List.mem_of_getElem? (i := 450) (by decide +kernel), List.mem_of_getElem? (i := 149) (by decide +kernel), List.mem_of_getElem? (i := 150) (by decide +kernel)⟩
theorem k_X8_27 : jLV RX8 27 yX8_advance := ⟨List.mem_of_getElem? (i := 451) (by decide +kernel), List.mem_of_getElem? (i := 453) (by decide +kernel), List.mem_of_getElem? (i := 4) (by decide +kernel)⟩
theorem k_X8_32 : jLV RX8 32 yX8_isWord := ⟨List.mem_of_getElem? (i := 460) (by decide +kernel), List.mem_of_getElem? (i := 462) (by decide +kernel), List.mem_of_getElem? (i := 6) (by decide +kernel)⟩
theorem k_X8_36 : jLV RX8 36 yX8_stopNext := ⟨List.mem_of_getElem? (i := 512) (by decide +kernel), List.mem_of_getElem? (i := 514) (by decide +kernel), List.mem_of_getElem? (i := 7) (by decide +kernel)⟩
theorem k_X8_43 : jLV RX8 43 yX8_readItem := ⟨List.mem_of_getElem? (i := 516) (by decide +kernel), List.mem_of_getElem? (i := 518) (by decide +kernel), List.mem_of_getElem? (i := 8) (by decide +kernel)⟩
theorem k_X8_52 : jLV RX8 52 yX8_readStair := ⟨List.mem_of_getElem? (i := 521) (by decide +kernel), List.mem_of_getElem? (i := 523) (by decide +kernel), List.mem_of_getElem? (i := 9) (by decide +kernel)⟩
theorem k_X8_57 : jLV RX8 57 yX8_readSleeper := ⟨List.mem_of_getElem? (i := 531) (by decide +kernel), List.mem_of_getElem? (i := 533) (by decide +kernel), List.mem_of_getElem? (i := 11) (by decide +kernel)⟩
theorem k_X8_62 : jLV RX8 62 yX8_readThing := ⟨List.mem_of_getElem? (i := 537) (by decide +kernel), List.mem_of_getElem? (i := 539) (by decide +kernel), List.mem_of_getElem? (i := 12) (by decide +kernel)⟩
theorem k_X8_65 : jLV RX8 65 yX8_numberNext := ⟨List.mem_of_getElem? (i := 525) (by decide +kernel), List.mem_of_getElem? (i := 527) (by decide +kernel), List.mem_of_getElem? (i := 10) (by decide +kernel)⟩
theorem k_X8_69 : jLV RX8 69 yX2_addStair := ⟨List.mem_of_getElem? (i := 529) (by decide +kernel), List.mem_of_getElem? (i := 388) (by decide +kernel), List.mem_of_getElem? (i := 389) (by decide +kernel)⟩
theorem k_X8_76 : jLV RX8 76 yX2_addSleeper := ⟨List.mem_of_getElem? (i := 535) (by decide +kernel), List.mem_of_getElem? (i := 400) (by decide +kernel), List.mem_of_getElem? (i := 401) (by decide +kernel)⟩
theorem k_X8_82 : jLV RX8 82 yX2_addThing := ⟨List.mem_of_getElem? (i := 541) (by decide +kernel), List.mem_of_getElem? (i := 408) (by decide +kernel), List.mem_of_getElem? (i := 409) (by decide +kernel)⟩
theorem k_X8_85 : jLV RX8 85 yX2_lastOwner := ⟨List.mem_of_getElem? (i := 542) (by decide +kernel), List.mem_of_getElem? (i := 423) (by decide +kernel), List.mem_of_getElem? (i := 424) (by decide +kernel)⟩
theorem k_X8_88 : jLV RX8 88 yX2_addOwner := ⟨List.mem_of_getElem? (i := 543) (by decide +kernel), List.mem_of_getElem? (i := 427) (by decide +kernel), List.mem_of_getElem? (i := 428) (by decide +kernel)⟩
theorem k_X8_92 : jLV RX8 92 yJ0_length_8abf5 := ⟨List.mem_of_getElem? (i := 464) (by decide +kernel), List.mem_of_getElem? (i := 465) (by decide +kernel), List.mem_of_getElem? (i := 466) (by decide +kernel)⟩
theorem k_X8_97 : jLV RX8 97 yJ0_charAt_5068e := ⟨List.mem_of_getElem? (i := 474) (by decide +kernel), List.mem_of_getElem? (i := 475) (by decide +kernel), List.mem_of_getElem? (i := 476) (by decide +kernel)⟩
theorem k_X8_101 : jLV RX8 101 yX8_endOfRun := ⟨List.mem_of_getElem? (i := 455) (by decide +kernel), List.mem_of_getElem? (i := 457) (by decide +kernel), List.mem_of_getElem? (i := 5) (by decide +kernel)⟩
theorem k_X9_3 : .methodLink RX9 3 Lib.objectInit ∈ lw_good := List.mem_of_getElem? (i := 312) (by decide +kernel)
theorem k_X9_22 : jLSN RX9 22 yX11_pair "PutBack" := ⟨List.mem_of_getElem? (i := 756) (by decide +kernel), List.mem_of_getElem? (i := 157) (by decide +kernel)⟩
theorem k_X9_26 : jLV RX9 26 yX9_findLeads := ⟨List.mem_of_getElem? (i := 757) (by decide +kernel), List.mem_of_getElem? (i := 759) (by decide +kernel), List.mem_of_getElem? (i := 24) (by decide +kernel)⟩
theorem k_X9_30 : jLV RX9 30 yX9_tallyBefore := ⟨List.mem_of_getElem? (i := 766) (by decide +kernel), List.mem_of_getElem? (i := 768) (by decide +kernel), List.mem_of_getElem? (i := 25) (by decide +kernel)⟩
theorem k_X9_33 : jLV RX9 33 yX9_tallyBehind := ⟨List.mem_of_getElem? (i := 771) (by decide +kernel), List.mem_of_getElem? (i := 773) (by decide +kernel), List.mem_of_getElem? (i := 26) (by decide +kernel)⟩
theorem k_X9_36 : jLV RX9 36 yX4_toldOf := ⟨List.mem_of_getElem? (i := 761) (by decide +kernel), List.mem_of_getElem? (i := 762) (by decide +kernel), List.mem_of_getElem? (i := 763) (by decide +kernel)⟩
theorem k_X9_50 : jLV RX9 50 yX2_wakers := ⟨List.mem_of_getElem? (i := 765) (by decide +kernel), List.mem_of_getElem? (i := 573) (by decide +kernel), List.mem_of_getElem? (i := 574) (by decide +kernel)⟩
theorem k_X9_54 : jLSN RX9 54 yX11_bit "PutBack" := ⟨List.mem_of_getElem? (i := 770) (by decide +kernel), List.mem_of_getElem? (i := 629) (by decide +kernel)⟩
theorem k_X9_61 : jLV RX9 61 yX9_total := ⟨List.mem_of_getElem? (i := 795) (by decide +kernel), List.mem_of_getElem? (i := 784) (by decide +kernel), List.mem_of_getElem? (i := 785) (by decide +kernel)⟩
theorem k_X9_65 : jLV RX9 65 yX9_rowsHeardBy := ⟨List.mem_of_getElem? (i := 796) (by decide +kernel), List.mem_of_getElem? (i := 798) (by decide +kernel), List.mem_of_getElem? (i := 27) (by decide +kernel)⟩
theorem k_X9_69 : jLS RX9 69 yJ9_max_f86c9 := ⟨List.mem_of_getElem? (i := 801) (by decide +kernel), List.mem_of_getElem? (i := 802) (by decide +kernel)⟩
theorem k_X9_75 : jLV RX9 75 yX2_leastNoise := ⟨List.mem_of_getElem? (i := 800) (by decide +kernel), List.mem_of_getElem? (i := 577) (by decide +kernel), List.mem_of_getElem? (i := 578) (by decide +kernel)⟩
theorem k_X10_1 : jLIN RX10 1 yX5_init "PutBack" := ⟨List.mem_of_getElem? (i := 146) (by decide +kernel), List.mem_of_getElem? (i := 123) (by decide +kernel), rfl⟩
theorem k_X10_7 : jLU RX10 7 yX5_wakingNoise := ⟨List.mem_of_getElem? (i := 603) (by decide +kernel), List.mem_of_getElem? (i := 1315) (by decide +kernel), List.mem_of_getElem? (i := 147) (by decide +kernel), List.mem_of_getElem? (i := 593) (by decide +kernel), by decide +kernel⟩
theorem k_J0_335 : jLV RJ0 335 yJ0_coder_7d493 := ⟨List.mem_of_getElem? (i := 468) (by decide +kernel), List.mem_of_getElem? (i := 469) (by decide +kernel), List.mem_of_getElem? (i := 470) (by decide +kernel)⟩
theorem k_J0_492 : jLV RJ0 492 yJ0_isLatin1_aae02 := ⟨List.mem_of_getElem? (i := 478) (by decide +kernel), List.mem_of_getElem? (i := 479) (by decide +kernel), List.mem_of_getElem? (i := 480) (by decide +kernel)⟩
theorem k_J0_495 : jLS RJ0 495 yJ1_charAt_3b067 := ⟨List.mem_of_getElem? (i := 482) (by decide +kernel), List.mem_of_getElem? (i := 483) (by decide +kernel)⟩
theorem k_J0_498 : jLS RJ0 498 yJ2_charAt_3b067 := ⟨List.mem_of_getElem? (i := 493) (by decide +kernel), List.mem_of_getElem? (i := 494) (by decide +kernel)⟩
theorem k_J0_1059 : jLS RJ0 1059 yJ3_checkIndex_8e157 := ⟨List.mem_of_getElem? (i := 490) (by decide +kernel), List.mem_of_getElem? (i := 491) (by decide +kernel)⟩
theorem k_J1_9 : jLS RJ1 9 yJ0_checkIndex_df160 := ⟨List.mem_of_getElem? (i := 485) (by decide +kernel), List.mem_of_getElem? (i := 486) (by decide +kernel)⟩
theorem k_J2_48 : jLS RJ2 48 yJ2_length_9d52b := ⟨List.mem_of_getElem? (i := 499) (by decide +kernel), List.mem_of_getElem? (i := 500) (by decide +kernel)⟩
theorem k_J2_67 : jLS RJ2 67 yJ2_checkIndex_2214a := ⟨List.mem_of_getElem? (i := 496) (by decide +kernel), List.mem_of_getElem? (i := 497) (by decide +kernel)⟩
theorem k_J2_71 : jLS RJ2 71 yJ2_getChar_3b067 := ⟨List.mem_of_getElem? (i := 503) (by decide +kernel), List.mem_of_getElem? (i := 504) (by decide +kernel)⟩
theorem k_J2_414 : jLS RJ2 414 yJ0_checkIndex_df160 := ⟨List.mem_of_getElem? (i := 502) (by decide +kernel), List.mem_of_getElem? (i := 486) (by decide +kernel)⟩
theorem k_X12_1 : .methodLink RX12 1 Lib.objectInit ∈ lw_good := List.mem_of_getElem? (i := 899) (by decide +kernel)
theorem k_X12_70 : jLV RX12 70 yX12_anew := ⟨List.mem_of_getElem? (i := 900) (by decide +kernel), List.mem_of_getElem? (i := 902) (by decide +kernel), List.mem_of_getElem? (i := 30) (by decide +kernel)⟩
theorem k_X12_75 : jLS RX12 75 yX12_in := ⟨List.mem_of_getElem? (i := 1004) (by decide +kernel), List.mem_of_getElem? (i := 1005) (by decide +kernel)⟩
theorem k_X12_85 : jLS RX12 85 yX12_pairOf := ⟨List.mem_of_getElem? (i := 1016) (by decide +kernel), List.mem_of_getElem? (i := 1017) (by decide +kernel)⟩
theorem k_X12_89 : jLS RX12 89 yX12_isRoom := ⟨List.mem_of_getElem? (i := 1000) (by decide +kernel), List.mem_of_getElem? (i := 1001) (by decide +kernel)⟩
theorem k_X12_95 : jLV RX12 95 yX12_bad := ⟨List.mem_of_getElem? (i := 1008) (by decide +kernel), List.mem_of_getElem? (i := 1010) (by decide +kernel), List.mem_of_getElem? (i := 31) (by decide +kernel)⟩
theorem k_X12_99 : jLV RX12 99 yX12_creakOf := ⟨List.mem_of_getElem? (i := 1012) (by decide +kernel), List.mem_of_getElem? (i := 1014) (by decide +kernel), List.mem_of_getElem? (i := 32) (by decide +kernel)⟩
theorem k_X12_104 : jLV RX12 104 yX12_full := ⟨List.mem_of_getElem? (i := 1024) (by decide +kernel), List.mem_of_getElem? (i := 1026) (by decide +kernel), List.mem_of_getElem? (i := 33) (by decide +kernel)⟩
theorem k_X12_107 : jLV RX12 107 yX12_addSleeper := ⟨List.mem_of_getElem? (i := 1028) (by decide +kernel), List.mem_of_getElem? (i := 1030) (by decide +kernel), List.mem_of_getElem? (i := 34) (by decide +kernel)⟩
theorem k_X12_111 : jLV RX12 111 yX12_addThing := ⟨List.mem_of_getElem? (i := 1036) (by decide +kernel), List.mem_of_getElem? (i := 1038) (by decide +kernel), List.mem_of_getElem? (i := 35) (by decide +kernel)⟩
theorem k_X12_115 : jLV RX12 115 yX12_isThing := ⟨List.mem_of_getElem? (i := 1044) (by decide +kernel), List.mem_of_getElem? (i := 1046) (by decide +kernel), List.mem_of_getElem? (i := 36) (by decide +kernel)⟩
theorem k_X12_120 : jLV RX12 120 yX12_lastOwner := ⟨List.mem_of_getElem? (i := 1049) (by decide +kernel), List.mem_of_getElem? (i := 1051) (by decide +kernel), List.mem_of_getElem? (i := 37) (by decide +kernel)⟩
theorem k_X12_124 : jLV RX12 124 yX12_addOwner := ⟨List.mem_of_getElem? (i := 1053) (by decide +kernel), List.mem_of_getElem? (i := 1055) (by decide +kernel), List.mem_of_getElem? (i := 38) (by decide +kernel)⟩
theorem k_X12_136 : jLV RX12 136 yX12_byteAt := ⟨List.mem_of_getElem? (i := 1078) (by decide +kernel), List.mem_of_getElem? (i := 1080) (by decide +kernel), List.mem_of_getElem? (i := 41) (by decide +kernel)⟩
theorem k_X12_160 : jLV RX12 160 yX12_nextToken := ⟨List.mem_of_getElem? (i := 1074) (by decide +kernel), List.mem_of_getElem? (i := 1076) (by decide +kernel), List.mem_of_getElem? (i := 40) (by decide +kernel)⟩
theorem k_X12_166 : jLS RX12 166 yX12_spelt := ⟨List.mem_of_getElem? (i := 1090) (by decide +kernel), List.mem_of_getElem? (i := 1091) (by decide +kernel)⟩
theorem k_X12_170 : jLV RX12 170 yX12_isWord := ⟨List.mem_of_getElem? (i := 1095) (by decide +kernel), List.mem_of_getElem? (i := 1097) (by decide +kernel), List.mem_of_getElem? (i := 43) (by decide +kernel)⟩
theorem k_X12_174 : jLV RX12 174 yX12_ends := ⟨List.mem_of_getElem? (i := 1099) (by decide +kernel), List.mem_of_getElem? (i := 1101) (by decide +kernel), List.mem_of_getElem? (i := 44) (by decide +kernel)⟩
theorem k_X12_178 : jLV RX12 178 yX12_reads := ⟨List.mem_of_getElem? (i := 1103) (by decide +kernel), List.mem_of_getElem? (i := 1105) (by decide +kernel), List.mem_of_getElem? (i := 45) (by decide +kernel)⟩
theorem k_X12_188 : jLV RX12 188 yX12_readOwners := ⟨List.mem_of_getElem? (i := 1107) (by decide +kernel), List.mem_of_getElem? (i := 1109) (by decide +kernel), List.mem_of_getElem? (i := 46) (by decide +kernel)⟩
theorem k_X12_191 : jLV RX12 191 yX12_readItem := ⟨List.mem_of_getElem? (i := 1086) (by decide +kernel), List.mem_of_getElem? (i := 1088) (by decide +kernel), List.mem_of_getElem? (i := 42) (by decide +kernel)⟩
theorem k_X12_195 : jLV RX12 195 yX12_readText := ⟨List.mem_of_getElem? (i := 1070) (by decide +kernel), List.mem_of_getElem? (i := 1072) (by decide +kernel), List.mem_of_getElem? (i := 39) (by decide +kernel)⟩
theorem k_X12_199 : jLV RX12 199 yX12_findFar := ⟨List.mem_of_getElem? (i := 1115) (by decide +kernel), List.mem_of_getElem? (i := 1117) (by decide +kernel), List.mem_of_getElem? (i := 47) (by decide +kernel)⟩
theorem k_X12_202 : jLV RX12 202 yX12_wakesFrom := ⟨List.mem_of_getElem? (i := 1132) (by decide +kernel), List.mem_of_getElem? (i := 1134) (by decide +kernel), List.mem_of_getElem? (i := 49) (by decide +kernel)⟩
theorem k_X12_208 : jLS RX12 208 yX12_isMinute := ⟨List.mem_of_getElem? (i := 1124) (by decide +kernel), List.mem_of_getElem? (i := 1125) (by decide +kernel)⟩
theorem k_X12_211 : jLV RX12 211 yX12_wakesBy := ⟨List.mem_of_getElem? (i := 1128) (by decide +kernel), List.mem_of_getElem? (i := 1130) (by decide +kernel), List.mem_of_getElem? (i := 48) (by decide +kernel)⟩
theorem k_X12_214 : jLV RX12 214 yX12_no := ⟨List.mem_of_getElem? (i := 1144) (by decide +kernel), List.mem_of_getElem? (i := 1146) (by decide +kernel), List.mem_of_getElem? (i := 50) (by decide +kernel)⟩
theorem k_X12_217 : jLV RX12 217 yX12_note := ⟨List.mem_of_getElem? (i := 1148) (by decide +kernel), List.mem_of_getElem? (i := 1150) (by decide +kernel), List.mem_of_getElem? (i := 51) (by decide +kernel)⟩
theorem k_X12_220 : jLV RX12 220 yX12_goes := ⟨List.mem_of_getElem? (i := 1152) (by decide +kernel), List.mem_of_getElem? (i := 1154) (by decide +kernel), List.mem_of_getElem? (i := 52) (by decide +kernel)⟩
theorem k_X12_223 : jLV RX12 223 yX12_passes := ⟨List.mem_of_getElem? (i := 1156) (by decide +kernel), List.mem_of_getElem? (i := 1158) (by decide +kernel), List.mem_of_getElem? (i := 53) (by decide +kernel)⟩
theorem k_X12_226 : jLV RX12 226 yX12_isSleeper := ⟨List.mem_of_getElem? (i := 1172) (by decide +kernel), List.mem_of_getElem? (i := 1174) (by decide +kernel), List.mem_of_getElem? (i := 54) (by decide +kernel)⟩
theorem k_X12_231 : jLV RX12 231 yX12_isQuiet := ⟨List.mem_of_getElem? (i := 1196) (by decide +kernel), List.mem_of_getElem? (i := 1198) (by decide +kernel), List.mem_of_getElem? (i := 57) (by decide +kernel)⟩
theorem k_X12_235 : jLV RX12 235 yX12_findQuiet := ⟨List.mem_of_getElem? (i := 1192) (by decide +kernel), List.mem_of_getElem? (i := 1194) (by decide +kernel), List.mem_of_getElem? (i := 56) (by decide +kernel)⟩
theorem k_X12_238 : jLS RX12 238 yX12_isWhat := ⟨List.mem_of_getElem? (i := 1185) (by decide +kernel), List.mem_of_getElem? (i := 1186) (by decide +kernel)⟩
theorem k_X12_241 : jLV RX12 241 yX12_findWays := ⟨List.mem_of_getElem? (i := 1188) (by decide +kernel), List.mem_of_getElem? (i := 1190) (by decide +kernel), List.mem_of_getElem? (i := 55) (by decide +kernel)⟩
theorem k_X12_244 : jLV RX12 244 yX12_bothGo := ⟨List.mem_of_getElem? (i := 1208) (by decide +kernel), List.mem_of_getElem? (i := 1210) (by decide +kernel), List.mem_of_getElem? (i := 58) (by decide +kernel)⟩
theorem k_X12_249 : jLV RX12 249 yX12_heardBy := ⟨List.mem_of_getElem? (i := 1245) (by decide +kernel), List.mem_of_getElem? (i := 1247) (by decide +kernel), List.mem_of_getElem? (i := 61) (by decide +kernel)⟩
theorem k_X12_252 : jLV RX12 252 yX12_canBe := ⟨List.mem_of_getElem? (i := 1241) (by decide +kernel), List.mem_of_getElem? (i := 1243) (by decide +kernel), List.mem_of_getElem? (i := 60) (by decide +kernel)⟩
theorem k_X12_255 : jLV RX12 255 yX12_findHeard := ⟨List.mem_of_getElem? (i := 1237) (by decide +kernel), List.mem_of_getElem? (i := 1239) (by decide +kernel), List.mem_of_getElem? (i := 59) (by decide +kernel)⟩
theorem k_X12_260 : jLS RX12 260 yX12_has := ⟨List.mem_of_getElem? (i := 1258) (by decide +kernel), List.mem_of_getElem? (i := 1259) (by decide +kernel)⟩
theorem k_X12_268 : jLS RX12 268 yX12_ones := ⟨List.mem_of_getElem? (i := 1266) (by decide +kernel), List.mem_of_getElem? (i := 1267) (by decide +kernel)⟩
theorem k_X12_271 : jLV RX12 271 yX12_setFraction := ⟨List.mem_of_getElem? (i := 1269) (by decide +kernel), List.mem_of_getElem? (i := 1271) (by decide +kernel), List.mem_of_getElem? (i := 62) (by decide +kernel)⟩
theorem k_X12_289 : jLV RX12 289 yX12_countOf := ⟨List.mem_of_getElem? (i := 1304) (by decide +kernel), List.mem_of_getElem? (i := 1306) (by decide +kernel), List.mem_of_getElem? (i := 63) (by decide +kernel)⟩
theorem k_X11_1 : .methodLink RX11 1 Lib.objectInit ∈ lw_good := List.mem_of_getElem? (i := 90) (by decide +kernel)
theorem k_X11_9 : jLIN RX11 9 yX4_init "PutBack" := ⟨List.mem_of_getElem? (i := 95) (by decide +kernel), List.mem_of_getElem? (i := 96) (by decide +kernel), rfl⟩
theorem k_X11_26 : jLIN RX11 26 yX8_init "PutBack" := ⟨List.mem_of_getElem? (i := 266) (by decide +kernel), List.mem_of_getElem? (i := 267) (by decide +kernel), rfl⟩
theorem k_X11_33 : jLI RX11 33 yX2_init := ⟨List.mem_of_getElem? (i := 290) (by decide +kernel), List.mem_of_getElem? (i := 102) (by decide +kernel), rfl⟩
theorem k_X11_40 : jLIN RX11 40 yX1_init "PutBack" := ⟨List.mem_of_getElem? (i := 293) (by decide +kernel), List.mem_of_getElem? (i := 294) (by decide +kernel), rfl⟩
theorem k_X11_47 : jLIN RX11 47 yX9_init "PutBack" := ⟨List.mem_of_getElem? (i := 309) (by decide +kernel), List.mem_of_getElem? (i := 310) (by decide +kernel), rfl⟩
theorem k_X11_70 : jLV RX11 70 yX2_empty := ⟨List.mem_of_getElem? (i := 368) (by decide +kernel), List.mem_of_getElem? (i := 149) (by decide +kernel), List.mem_of_getElem? (i := 150) (by decide +kernel)⟩
theorem k_X11_73 : jLV RX11 73 yX4_begin := ⟨List.mem_of_getElem? (i := 369) (by decide +kernel), List.mem_of_getElem? (i := 370) (by decide +kernel), List.mem_of_getElem? (i := 371) (by decide +kernel)⟩
theorem k_X11_76 : jLS RX11 76 yX11_isRoom := ⟨List.mem_of_getElem? (i := 377) (by decide +kernel), List.mem_of_getElem? (i := 378) (by decide +kernel)⟩
theorem k_X11_80 : jLS RX11 80 yX11_within := ⟨List.mem_of_getElem? (i := 380) (by decide +kernel), List.mem_of_getElem? (i := 381) (by decide +kernel)⟩
theorem k_X11_84 : jLV RX11 84 yX11_refuseBad := ⟨List.mem_of_getElem? (i := 383) (by decide +kernel), List.mem_of_getElem? (i := 385) (by decide +kernel), List.mem_of_getElem? (i := 1) (by decide +kernel)⟩
theorem k_X11_88 : jLV RX11 88 yX2_addStair := ⟨List.mem_of_getElem? (i := 387) (by decide +kernel), List.mem_of_getElem? (i := 388) (by decide +kernel), List.mem_of_getElem? (i := 389) (by decide +kernel)⟩
theorem k_X11_92 : jLV RX11 92 yX11_refuseFull := ⟨List.mem_of_getElem? (i := 395) (by decide +kernel), List.mem_of_getElem? (i := 397) (by decide +kernel), List.mem_of_getElem? (i := 2) (by decide +kernel)⟩
theorem k_X11_99 : jLV RX11 99 yX2_addSleeper := ⟨List.mem_of_getElem? (i := 399) (by decide +kernel), List.mem_of_getElem? (i := 400) (by decide +kernel), List.mem_of_getElem? (i := 401) (by decide +kernel)⟩
theorem k_X11_105 : jLV RX11 105 yX2_addThing := ⟨List.mem_of_getElem? (i := 407) (by decide +kernel), List.mem_of_getElem? (i := 408) (by decide +kernel), List.mem_of_getElem? (i := 409) (by decide +kernel)⟩
theorem k_X11_108 : jLV RX11 108 yX11_isThing := ⟨List.mem_of_getElem? (i := 415) (by decide +kernel), List.mem_of_getElem? (i := 417) (by decide +kernel), List.mem_of_getElem? (i := 3) (by decide +kernel)⟩
theorem k_X11_111 : jLS RX11 111 yX11_isPupil := ⟨List.mem_of_getElem? (i := 419) (by decide +kernel), List.mem_of_getElem? (i := 420) (by decide +kernel)⟩
theorem k_X11_114 : jLV RX11 114 yX2_lastOwner := ⟨List.mem_of_getElem? (i := 422) (by decide +kernel), List.mem_of_getElem? (i := 423) (by decide +kernel), List.mem_of_getElem? (i := 424) (by decide +kernel)⟩
theorem k_X11_121 : jLV RX11 121 yX2_addOwner := ⟨List.mem_of_getElem? (i := 426) (by decide +kernel), List.mem_of_getElem? (i := 427) (by decide +kernel), List.mem_of_getElem? (i := 428) (by decide +kernel)⟩
theorem k_X11_128 : jLV RX11 128 yX8_append := ⟨List.mem_of_getElem? (i := 434) (by decide +kernel), List.mem_of_getElem? (i := 435) (by decide +kernel), List.mem_of_getElem? (i := 436) (by decide +kernel)⟩
theorem k_X11_131 : jLV RX11 131 yX8_readInto := ⟨List.mem_of_getElem? (i := 446) (by decide +kernel), List.mem_of_getElem? (i := 447) (by decide +kernel), List.mem_of_getElem? (i := 448) (by decide +kernel)⟩
theorem k_X11_135 : jLV RX11 135 yX2_copyFrom := ⟨List.mem_of_getElem? (i := 544) (by decide +kernel), List.mem_of_getElem? (i := 545) (by decide +kernel), List.mem_of_getElem? (i := 546) (by decide +kernel)⟩
theorem k_X11_145 : jLS RX11 145 yX11_pair := ⟨List.mem_of_getElem? (i := 555) (by decide +kernel), List.mem_of_getElem? (i := 157) (by decide +kernel)⟩
theorem k_X11_148 : jLV RX11 148 yX11_refuseNo := ⟨List.mem_of_getElem? (i := 556) (by decide +kernel), List.mem_of_getElem? (i := 558) (by decide +kernel), List.mem_of_getElem? (i := 13) (by decide +kernel)⟩
theorem k_X11_151 : jLV RX11 151 yX4_go := ⟨List.mem_of_getElem? (i := 560) (by decide +kernel), List.mem_of_getElem? (i := 561) (by decide +kernel), List.mem_of_getElem? (i := 562) (by decide +kernel)⟩
theorem k_X11_154 : jLV RX11 154 yX4_remember := ⟨List.mem_of_getElem? (i := 610) (by decide +kernel), List.mem_of_getElem? (i := 565) (by decide +kernel), List.mem_of_getElem? (i := 566) (by decide +kernel)⟩
theorem k_X11_160 : jLS RX11 160 yJ9_min_7cf53 := ⟨List.mem_of_getElem? (i := 611) (by decide +kernel), List.mem_of_getElem? (i := 160) (by decide +kernel)⟩
theorem k_X11_165 : jLV RX11 165 yX4_goBack := ⟨List.mem_of_getElem? (i := 616) (by decide +kernel), List.mem_of_getElem? (i := 617) (by decide +kernel), List.mem_of_getElem? (i := 618) (by decide +kernel)⟩
theorem k_X11_168 : jLV RX11 168 yX11_isSleeper := ⟨List.mem_of_getElem? (i := 624) (by decide +kernel), List.mem_of_getElem? (i := 626) (by decide +kernel), List.mem_of_getElem? (i := 15) (by decide +kernel)⟩
theorem k_X11_183 : jLS RX11 183 yX11_bit := ⟨List.mem_of_getElem? (i := 628) (by decide +kernel), List.mem_of_getElem? (i := 629) (by decide +kernel)⟩
theorem k_X11_189 : jLV RX11 189 yX2_wakers := ⟨List.mem_of_getElem? (i := 643) (by decide +kernel), List.mem_of_getElem? (i := 573) (by decide +kernel), List.mem_of_getElem? (i := 574) (by decide +kernel)⟩
theorem k_X11_192 : jLV RX11 192 yX2_loudest := ⟨List.mem_of_getElem? (i := 648) (by decide +kernel), List.mem_of_getElem? (i := 649) (by decide +kernel), List.mem_of_getElem? (i := 650) (by decide +kernel)⟩
theorem k_X11_195 : jLV RX11 195 yX1_fewestMinutes := ⟨List.mem_of_getElem? (i := 656) (by decide +kernel), List.mem_of_getElem? (i := 657) (by decide +kernel), List.mem_of_getElem? (i := 658) (by decide +kernel)⟩
theorem k_X11_199 : jLV RX11 199 yX1_firstRoom := ⟨List.mem_of_getElem? (i := 679) (by decide +kernel), List.mem_of_getElem? (i := 680) (by decide +kernel), List.mem_of_getElem? (i := 681) (by decide +kernel)⟩
theorem k_X11_203 : jLV RX11 203 yX1_leastWorstCreak := ⟨List.mem_of_getElem? (i := 691) (by decide +kernel), List.mem_of_getElem? (i := 692) (by decide +kernel), List.mem_of_getElem? (i := 693) (by decide +kernel)⟩
theorem k_X11_207 : jLV RX11 207 yX1_fewestMinutesOfTwo := ⟨List.mem_of_getElem? (i := 703) (by decide +kernel), List.mem_of_getElem? (i := 704) (by decide +kernel), List.mem_of_getElem? (i := 705) (by decide +kernel)⟩
theorem k_X11_210 : jLV RX11 210 yX2_wasTakenFrom := ⟨List.mem_of_getElem? (i := 720) (by decide +kernel), List.mem_of_getElem? (i := 721) (by decide +kernel), List.mem_of_getElem? (i := 722) (by decide +kernel)⟩
theorem k_X11_213 : jLV RX11 213 yX1_reachedByDawn := ⟨List.mem_of_getElem? (i := 732) (by decide +kernel), List.mem_of_getElem? (i := 733) (by decide +kernel), List.mem_of_getElem? (i := 734) (by decide +kernel)⟩
theorem k_X11_222 : jLV RX11 222 yX4_addHeard := ⟨List.mem_of_getElem? (i := 740) (by decide +kernel), List.mem_of_getElem? (i := 741) (by decide +kernel), List.mem_of_getElem? (i := 742) (by decide +kernel)⟩
theorem k_X11_225 : jLV RX11 225 yX9_tally := ⟨List.mem_of_getElem? (i := 752) (by decide +kernel), List.mem_of_getElem? (i := 753) (by decide +kernel), List.mem_of_getElem? (i := 754) (by decide +kernel)⟩
theorem k_X11_229 : jLV RX11 229 yX9_roomsIn := ⟨List.mem_of_getElem? (i := 775) (by decide +kernel), List.mem_of_getElem? (i := 776) (by decide +kernel), List.mem_of_getElem? (i := 777) (by decide +kernel)⟩
theorem k_X11_232 : jLV RX11 232 yX9_total := ⟨List.mem_of_getElem? (i := 783) (by decide +kernel), List.mem_of_getElem? (i := 784) (by decide +kernel), List.mem_of_getElem? (i := 785) (by decide +kernel)⟩
theorem k_X11_236 : jLV RX11 236 yX9_bestListener := ⟨List.mem_of_getElem? (i := 791) (by decide +kernel), List.mem_of_getElem? (i := 792) (by decide +kernel), List.mem_of_getElem? (i := 793) (by decide +kernel)⟩
theorem k_X11_240 : jLV RX11 240 yX11_weighClocks := ⟨List.mem_of_getElem? (i := 808) (by decide +kernel), List.mem_of_getElem? (i := 810) (by decide +kernel), List.mem_of_getElem? (i := 28) (by decide +kernel)⟩
theorem k_X11_244 : jLS RX11 244 yJ6_bitCount_0f7a4 := ⟨List.mem_of_getElem? (i := 812) (by decide +kernel), List.mem_of_getElem? (i := 813) (by decide +kernel)⟩
theorem k_X11_251 : jLV RX11 251 yX11_keepFraction := ⟨List.mem_of_getElem? (i := 819) (by decide +kernel), List.mem_of_getElem? (i := 821) (by decide +kernel), List.mem_of_getElem? (i := 29) (by decide +kernel)⟩
theorem k_X11_256 : jLV RX11 256 yX4_awakeAfter := ⟨List.mem_of_getElem? (i := 831) (by decide +kernel), List.mem_of_getElem? (i := 832) (by decide +kernel), List.mem_of_getElem? (i := 833) (by decide +kernel)⟩
theorem k_X11_259 : jLV RX11 259 yX4_copyFrom := ⟨List.mem_of_getElem? (i := 851) (by decide +kernel), List.mem_of_getElem? (i := 852) (by decide +kernel), List.mem_of_getElem? (i := 853) (by decide +kernel)⟩
theorem k_X11_274 : jLV RX11 274 yX11_count := ⟨List.mem_of_getElem? (i := 874) (by decide +kernel), List.mem_of_getElem? (i := 865) (by decide +kernel), List.mem_of_getElem? (i := 866) (by decide +kernel)⟩
theorem k_X11_277 : jLV RX11 277 yX2_foldStairs := ⟨List.mem_of_getElem? (i := 875) (by decide +kernel), List.mem_of_getElem? (i := 876) (by decide +kernel), List.mem_of_getElem? (i := 877) (by decide +kernel)⟩
theorem k_X11_281 : jLV RX11 281 yX4_foldSleepersAndPupils := ⟨List.mem_of_getElem? (i := 880) (by decide +kernel), List.mem_of_getElem? (i := 881) (by decide +kernel), List.mem_of_getElem? (i := 882) (by decide +kernel)⟩
theorem k_X11_284 : jLV RX11 284 yX2_foldThings := ⟨List.mem_of_getElem? (i := 886) (by decide +kernel), List.mem_of_getElem? (i := 887) (by decide +kernel), List.mem_of_getElem? (i := 888) (by decide +kernel)⟩
theorem k_X11_287 : jLV RX11 287 yX4_foldHeard := ⟨List.mem_of_getElem? (i := 890) (by decide +kernel), List.mem_of_getElem? (i := 891) (by decide +kernel), List.mem_of_getElem? (i := 892) (by decide +kernel)⟩
theorem k_X11_290 : jLS RX11 290 yX11_commonDivisor := ⟨List.mem_of_getElem? (i := 823) (by decide +kernel), List.mem_of_getElem? (i := 824) (by decide +kernel)⟩
theorem k_L_9 : jLI RL 9 yX11_init := ⟨List.mem_of_getElem? (i := 87) (by decide +kernel), List.mem_of_getElem? (i := 88) (by decide +kernel), rfl⟩
theorem k_L_12 : jLI RL 12 yX12_init := ⟨List.mem_of_getElem? (i := 896) (by decide +kernel), List.mem_of_getElem? (i := 897) (by decide +kernel), rfl⟩
theorem k_L_13 : jLV RL 13 yX11_house := ⟨List.mem_of_getElem? (i := 364) (by decide +kernel), List.mem_of_getElem? (i := 365) (by decide +kernel), List.mem_of_getElem? (i := 366) (by decide +kernel)⟩
theorem k_L_17 : jLV RL 17 yX12_house := ⟨List.mem_of_getElem? (i := 992) (by decide +kernel), List.mem_of_getElem? (i := 993) (by decide +kernel), List.mem_of_getElem? (i := 994) (by decide +kernel)⟩
theorem k_L_18 : jLV RL 18 yX11_stair := ⟨List.mem_of_getElem? (i := 373) (by decide +kernel), List.mem_of_getElem? (i := 374) (by decide +kernel), List.mem_of_getElem? (i := 375) (by decide +kernel)⟩
theorem k_L_22 : jLV RL 22 yX12_stair := ⟨List.mem_of_getElem? (i := 996) (by decide +kernel), List.mem_of_getElem? (i := 997) (by decide +kernel), List.mem_of_getElem? (i := 998) (by decide +kernel)⟩
theorem k_L_23 : jLV RL 23 yX11_sleeper := ⟨List.mem_of_getElem? (i := 391) (by decide +kernel), List.mem_of_getElem? (i := 392) (by decide +kernel), List.mem_of_getElem? (i := 393) (by decide +kernel)⟩
theorem k_L_26 : jLV RL 26 yX12_sleeper := ⟨List.mem_of_getElem? (i := 1019) (by decide +kernel), List.mem_of_getElem? (i := 1020) (by decide +kernel), List.mem_of_getElem? (i := 1021) (by decide +kernel)⟩
theorem k_L_27 : jLV RL 27 yX11_thing := ⟨List.mem_of_getElem? (i := 403) (by decide +kernel), List.mem_of_getElem? (i := 404) (by decide +kernel), List.mem_of_getElem? (i := 405) (by decide +kernel)⟩
theorem k_L_31 : jLV RL 31 yX12_thing := ⟨List.mem_of_getElem? (i := 1032) (by decide +kernel), List.mem_of_getElem? (i := 1033) (by decide +kernel), List.mem_of_getElem? (i := 1034) (by decide +kernel)⟩
theorem k_L_32 : jLV RL 32 yX11_owner := ⟨List.mem_of_getElem? (i := 411) (by decide +kernel), List.mem_of_getElem? (i := 412) (by decide +kernel), List.mem_of_getElem? (i := 413) (by decide +kernel)⟩
theorem k_L_36 : jLV RL 36 yX12_owner := ⟨List.mem_of_getElem? (i := 1040) (by decide +kernel), List.mem_of_getElem? (i := 1041) (by decide +kernel), List.mem_of_getElem? (i := 1042) (by decide +kernel)⟩
theorem k_L_37 : jLV RL 37 yX11_type := ⟨List.mem_of_getElem? (i := 430) (by decide +kernel), List.mem_of_getElem? (i := 431) (by decide +kernel), List.mem_of_getElem? (i := 432) (by decide +kernel)⟩
theorem k_L_40 : jLV RL 40 yX12_type := ⟨List.mem_of_getElem? (i := 1057) (by decide +kernel), List.mem_of_getElem? (i := 1058) (by decide +kernel), List.mem_of_getElem? (i := 1059) (by decide +kernel)⟩
theorem k_L_41 : jLV RL 41 yX11_clear := ⟨List.mem_of_getElem? (i := 438) (by decide +kernel), List.mem_of_getElem? (i := 439) (by decide +kernel), List.mem_of_getElem? (i := 440) (by decide +kernel)⟩
theorem k_L_44 : jLV RL 44 yX12_clear := ⟨List.mem_of_getElem? (i := 1062) (by decide +kernel), List.mem_of_getElem? (i := 1063) (by decide +kernel), List.mem_of_getElem? (i := 1064) (by decide +kernel)⟩
theorem k_L_45 : jLV RL 45 yX11_read := ⟨List.mem_of_getElem? (i := 442) (by decide +kernel), List.mem_of_getElem? (i := 443) (by decide +kernel), List.mem_of_getElem? (i := 444) (by decide +kernel)⟩
theorem k_L_48 : jLV RL 48 yX12_read := ⟨List.mem_of_getElem? (i := 1066) (by decide +kernel), List.mem_of_getElem? (i := 1067) (by decide +kernel), List.mem_of_getElem? (i := 1068) (by decide +kernel)⟩
theorem k_L_49 : jLV RL 49 yX11_step := ⟨List.mem_of_getElem? (i := 551) (by decide +kernel), List.mem_of_getElem? (i := 552) (by decide +kernel), List.mem_of_getElem? (i := 553) (by decide +kernel)⟩
theorem k_L_52 : jLV RL 52 yX12_step := ⟨List.mem_of_getElem? (i := 1140) (by decide +kernel), List.mem_of_getElem? (i := 1141) (by decide +kernel), List.mem_of_getElem? (i := 1142) (by decide +kernel)⟩
theorem k_L_53 : jLV RL 53 yX11_waits := ⟨List.mem_of_getElem? (i := 606) (by decide +kernel), List.mem_of_getElem? (i := 607) (by decide +kernel), List.mem_of_getElem? (i := 608) (by decide +kernel)⟩
theorem k_L_56 : jLV RL 56 yX12_waits := ⟨List.mem_of_getElem? (i := 1160) (by decide +kernel), List.mem_of_getElem? (i := 1161) (by decide +kernel), List.mem_of_getElem? (i := 1162) (by decide +kernel)⟩
theorem k_L_57 : jLV RL 57 yX11_undo := ⟨List.mem_of_getElem? (i := 612) (by decide +kernel), List.mem_of_getElem? (i := 613) (by decide +kernel), List.mem_of_getElem? (i := 614) (by decide +kernel)⟩
theorem k_L_60 : jLV RL 60 yX12_undo := ⟨List.mem_of_getElem? (i := 1164) (by decide +kernel), List.mem_of_getElem? (i := 1165) (by decide +kernel), List.mem_of_getElem? (i := 1166) (by decide +kernel)⟩
theorem k_L_61 : jLV RL 61 yX11_of := ⟨List.mem_of_getElem? (i := 620) (by decide +kernel), List.mem_of_getElem? (i := 621) (by decide +kernel), List.mem_of_getElem? (i := 622) (by decide +kernel)⟩
theorem k_L_64 : jLV RL 64 yX12_of := ⟨List.mem_of_getElem? (i := 1168) (by decide +kernel), List.mem_of_getElem? (i := 1169) (by decide +kernel), List.mem_of_getElem? (i := 1170) (by decide +kernel)⟩
theorem k_L_65 : jLV RL 65 yX11_where := ⟨List.mem_of_getElem? (i := 631) (by decide +kernel), List.mem_of_getElem? (i := 632) (by decide +kernel), List.mem_of_getElem? (i := 633) (by decide +kernel)⟩
theorem k_L_68 : jLV RL 68 yX12_where := ⟨List.mem_of_getElem? (i := 1177) (by decide +kernel), List.mem_of_getElem? (i := 1178) (by decide +kernel), List.mem_of_getElem? (i := 1179) (by decide +kernel)⟩
theorem k_L_69 : jLV RL 69 yX11_far := ⟨List.mem_of_getElem? (i := 635) (by decide +kernel), List.mem_of_getElem? (i := 636) (by decide +kernel), List.mem_of_getElem? (i := 637) (by decide +kernel)⟩
theorem k_L_72 : jLV RL 72 yX12_far := ⟨List.mem_of_getElem? (i := 1111) (by decide +kernel), List.mem_of_getElem? (i := 1112) (by decide +kernel), List.mem_of_getElem? (i := 1113) (by decide +kernel)⟩
theorem k_L_73 : jLV RL 73 yX11_wakes := ⟨List.mem_of_getElem? (i := 639) (by decide +kernel), List.mem_of_getElem? (i := 640) (by decide +kernel), List.mem_of_getElem? (i := 641) (by decide +kernel)⟩
theorem k_L_76 : jLV RL 76 yX12_wakes := ⟨List.mem_of_getElem? (i := 1119) (by decide +kernel), List.mem_of_getElem? (i := 1120) (by decide +kernel), List.mem_of_getElem? (i := 1121) (by decide +kernel)⟩
theorem k_L_77 : jLV RL 77 yX11_loud := ⟨List.mem_of_getElem? (i := 644) (by decide +kernel), List.mem_of_getElem? (i := 645) (by decide +kernel), List.mem_of_getElem? (i := 646) (by decide +kernel)⟩
theorem k_L_80 : jLV RL 80 yX12_loud := ⟨List.mem_of_getElem? (i := 1136) (by decide +kernel), List.mem_of_getElem? (i := 1137) (by decide +kernel), List.mem_of_getElem? (i := 1138) (by decide +kernel)⟩
theorem k_L_81 : jLV RL 81 yX11_way := ⟨List.mem_of_getElem? (i := 652) (by decide +kernel), List.mem_of_getElem? (i := 653) (by decide +kernel), List.mem_of_getElem? (i := 654) (by decide +kernel)⟩
theorem k_L_85 : jLV RL 85 yX12_way := ⟨List.mem_of_getElem? (i := 1181) (by decide +kernel), List.mem_of_getElem? (i := 1182) (by decide +kernel), List.mem_of_getElem? (i := 1183) (by decide +kernel)⟩
theorem k_L_86 : jLV RL 86 yX11_softest := ⟨List.mem_of_getElem? (i := 687) (by decide +kernel), List.mem_of_getElem? (i := 688) (by decide +kernel), List.mem_of_getElem? (i := 689) (by decide +kernel)⟩
theorem k_L_89 : jLV RL 89 yX12_softest := ⟨List.mem_of_getElem? (i := 1200) (by decide +kernel), List.mem_of_getElem? (i := 1201) (by decide +kernel), List.mem_of_getElem? (i := 1202) (by decide +kernel)⟩
theorem k_L_90 : jLV RL 90 yX11_schedule := ⟨List.mem_of_getElem? (i := 699) (by decide +kernel), List.mem_of_getElem? (i := 700) (by decide +kernel), List.mem_of_getElem? (i := 701) (by decide +kernel)⟩
theorem k_L_93 : jLV RL 93 yX12_schedule := ⟨List.mem_of_getElem? (i := 1204) (by decide +kernel), List.mem_of_getElem? (i := 1205) (by decide +kernel), List.mem_of_getElem? (i := 1206) (by decide +kernel)⟩
theorem k_L_94 : jLV RL 94 yX11_owed := ⟨List.mem_of_getElem? (i := 716) (by decide +kernel), List.mem_of_getElem? (i := 717) (by decide +kernel), List.mem_of_getElem? (i := 718) (by decide +kernel)⟩
theorem k_L_97 : jLV RL 97 yX12_owed := ⟨List.mem_of_getElem? (i := 1212) (by decide +kernel), List.mem_of_getElem? (i := 1213) (by decide +kernel), List.mem_of_getElem? (i := 1214) (by decide +kernel)⟩
theorem k_L_98 : jLV RL 98 yX11_took := ⟨List.mem_of_getElem? (i := 724) (by decide +kernel), List.mem_of_getElem? (i := 725) (by decide +kernel), List.mem_of_getElem? (i := 726) (by decide +kernel)⟩
theorem k_L_101 : jLV RL 101 yX12_took := ⟨List.mem_of_getElem? (i := 1216) (by decide +kernel), List.mem_of_getElem? (i := 1217) (by decide +kernel), List.mem_of_getElem? (i := 1218) (by decide +kernel)⟩
theorem k_L_102 : jLV RL 102 yX11_canNot := ⟨List.mem_of_getElem? (i := 728) (by decide +kernel), List.mem_of_getElem? (i := 729) (by decide +kernel), List.mem_of_getElem? (i := 730) (by decide +kernel)⟩
theorem k_L_105 : jLV RL 105 yX12_canNot := ⟨List.mem_of_getElem? (i := 1220) (by decide +kernel), List.mem_of_getElem? (i := 1221) (by decide +kernel), List.mem_of_getElem? (i := 1222) (by decide +kernel)⟩
theorem k_L_106 : jLV RL 106 yX11_heard := ⟨List.mem_of_getElem? (i := 736) (by decide +kernel), List.mem_of_getElem? (i := 737) (by decide +kernel), List.mem_of_getElem? (i := 738) (by decide +kernel)⟩
theorem k_L_109 : jLV RL 109 yX12_heard := ⟨List.mem_of_getElem? (i := 1224) (by decide +kernel), List.mem_of_getElem? (i := 1225) (by decide +kernel), List.mem_of_getElem? (i := 1226) (by decide +kernel)⟩
theorem k_L_110 : jLV RL 110 yX11_forget := ⟨List.mem_of_getElem? (i := 744) (by decide +kernel), List.mem_of_getElem? (i := 745) (by decide +kernel), List.mem_of_getElem? (i := 746) (by decide +kernel)⟩
theorem k_L_113 : jLV RL 113 yX12_forget := ⟨List.mem_of_getElem? (i := 1229) (by decide +kernel), List.mem_of_getElem? (i := 1230) (by decide +kernel), List.mem_of_getElem? (i := 1231) (by decide +kernel)⟩
theorem k_L_114 : jLV RL 114 yX11_may := ⟨List.mem_of_getElem? (i := 748) (by decide +kernel), List.mem_of_getElem? (i := 749) (by decide +kernel), List.mem_of_getElem? (i := 750) (by decide +kernel)⟩
theorem k_L_117 : jLV RL 117 yX12_may := ⟨List.mem_of_getElem? (i := 1233) (by decide +kernel), List.mem_of_getElem? (i := 1234) (by decide +kernel), List.mem_of_getElem? (i := 1235) (by decide +kernel)⟩
theorem k_L_118 : jLV RL 118 yX11_ways := ⟨List.mem_of_getElem? (i := 779) (by decide +kernel), List.mem_of_getElem? (i := 780) (by decide +kernel), List.mem_of_getElem? (i := 781) (by decide +kernel)⟩
theorem k_L_122 : jLV RL 122 yX12_ways := ⟨List.mem_of_getElem? (i := 1249) (by decide +kernel), List.mem_of_getElem? (i := 1250) (by decide +kernel), List.mem_of_getElem? (i := 1251) (by decide +kernel)⟩
theorem k_L_123 : jLV RL 123 yX11_listen := ⟨List.mem_of_getElem? (i := 787) (by decide +kernel), List.mem_of_getElem? (i := 788) (by decide +kernel), List.mem_of_getElem? (i := 789) (by decide +kernel)⟩
theorem k_L_126 : jLV RL 126 yX12_listen := ⟨List.mem_of_getElem? (i := 1253) (by decide +kernel), List.mem_of_getElem? (i := 1254) (by decide +kernel), List.mem_of_getElem? (i := 1255) (by decide +kernel)⟩
theorem k_L_127 : jLV RL 127 yX11_clocks := ⟨List.mem_of_getElem? (i := 804) (by decide +kernel), List.mem_of_getElem? (i := 805) (by decide +kernel), List.mem_of_getElem? (i := 806) (by decide +kernel)⟩
theorem k_L_130 : jLV RL 130 yX12_clocks := ⟨List.mem_of_getElem? (i := 1261) (by decide +kernel), List.mem_of_getElem? (i := 1262) (by decide +kernel), List.mem_of_getElem? (i := 1263) (by decide +kernel)⟩
theorem k_L_131 : jLV RL 131 yX11_nights := ⟨List.mem_of_getElem? (i := 826) (by decide +kernel), List.mem_of_getElem? (i := 827) (by decide +kernel), List.mem_of_getElem? (i := 828) (by decide +kernel)⟩
theorem k_L_134 : jLV RL 134 yX12_nights := ⟨List.mem_of_getElem? (i := 1273) (by decide +kernel), List.mem_of_getElem? (i := 1274) (by decide +kernel), List.mem_of_getElem? (i := 1275) (by decide +kernel)⟩
theorem k_L_135 : jLV RL 135 yX11_part := ⟨List.mem_of_getElem? (i := 843) (by decide +kernel), List.mem_of_getElem? (i := 844) (by decide +kernel), List.mem_of_getElem? (i := 845) (by decide +kernel)⟩
theorem k_L_139 : jLV RL 139 yX12_part := ⟨List.mem_of_getElem? (i := 1283) (by decide +kernel), List.mem_of_getElem? (i := 1284) (by decide +kernel), List.mem_of_getElem? (i := 1285) (by decide +kernel)⟩
theorem k_L_140 : jLV RL 140 yX11_image := ⟨List.mem_of_getElem? (i := 847) (by decide +kernel), List.mem_of_getElem? (i := 848) (by decide +kernel), List.mem_of_getElem? (i := 849) (by decide +kernel)⟩
theorem k_L_143 : jLV RL 143 yX12_image := ⟨List.mem_of_getElem? (i := 1287) (by decide +kernel), List.mem_of_getElem? (i := 1288) (by decide +kernel), List.mem_of_getElem? (i := 1289) (by decide +kernel)⟩
theorem k_L_144 : jLV RL 144 yX11_from := ⟨List.mem_of_getElem? (i := 856) (by decide +kernel), List.mem_of_getElem? (i := 857) (by decide +kernel), List.mem_of_getElem? (i := 858) (by decide +kernel)⟩
theorem k_L_147 : jLV RL 147 yX12_from := ⟨List.mem_of_getElem? (i := 1291) (by decide +kernel), List.mem_of_getElem? (i := 1292) (by decide +kernel), List.mem_of_getElem? (i := 1293) (by decide +kernel)⟩
theorem k_L_148 : jLV RL 148 yX11_status := ⟨List.mem_of_getElem? (i := 860) (by decide +kernel), List.mem_of_getElem? (i := 861) (by decide +kernel), List.mem_of_getElem? (i := 862) (by decide +kernel)⟩
theorem k_L_151 : jLV RL 151 yX12_status := ⟨List.mem_of_getElem? (i := 1295) (by decide +kernel), List.mem_of_getElem? (i := 1296) (by decide +kernel), List.mem_of_getElem? (i := 1297) (by decide +kernel)⟩
theorem k_L_152 : jLV RL 152 yX11_count := ⟨List.mem_of_getElem? (i := 864) (by decide +kernel), List.mem_of_getElem? (i := 865) (by decide +kernel), List.mem_of_getElem? (i := 866) (by decide +kernel)⟩
theorem k_L_155 : jLV RL 155 yX12_count := ⟨List.mem_of_getElem? (i := 1299) (by decide +kernel), List.mem_of_getElem? (i := 1300) (by decide +kernel), List.mem_of_getElem? (i := 1301) (by decide +kernel)⟩
theorem k_L_156 : jLV RL 156 yX11_digest := ⟨List.mem_of_getElem? (i := 868) (by decide +kernel), List.mem_of_getElem? (i := 869) (by decide +kernel), List.mem_of_getElem? (i := 870) (by decide +kernel)⟩
theorem k_L_159 : jLV RL 159 yX12_digest := ⟨List.mem_of_getElem? (i := 1308) (by decide +kernel), List.mem_of_getElem? (i := 1309) (by decide +kernel), List.mem_of_getElem? (i := 1310) (by decide +kernel)⟩
theorem cl_X11_249 : .constantLong RX11 249 (Int64.ofInt (10)) ∈ lw_good := List.mem_of_getElem? (i := 818) (by decide +kernel)
theorem cl_X11_270 : .constantLong RX11 270 (Int64.ofInt (1103)) ∈ lw_good := List.mem_of_getElem? (i := 872) (by decide +kernel)
theorem cl_X11_272 : .constantLong RX11 272 (Int64.ofInt (31)) ∈ lw_good := List.mem_of_getElem? (i := 873) (by decide +kernel)
theorem cl_X2_94 : .constantLong RX2 94 (Int64.ofInt (31)) ∈ lw_good := List.mem_of_getElem? (i := 879) (by decide +kernel)
theorem cl_X4_82 : .constantLong RX4 82 (Int64.ofInt (1103515245)) ∈ lw_good := List.mem_of_getElem? (i := 836) (by decide +kernel)
theorem cl_X4_84 : .constantLong RX4 84 (Int64.ofInt (12345)) ∈ lw_good := List.mem_of_getElem? (i := 837) (by decide +kernel)
theorem cl_X4_86 : .constantLong RX4 86 (Int64.ofInt (2147483648)) ∈ lw_good := List.mem_of_getElem? (i := 838) (by decide +kernel)
theorem cl_X4_88 : .constantLong RX4 88 (Int64.ofInt (65536)) ∈ lw_good := List.mem_of_getElem? (i := 839) (by decide +kernel)
theorem cl_X4_90 : .constantLong RX4 90 (Int64.ofInt (8)) ∈ lw_good := List.mem_of_getElem? (i := 840) (by decide +kernel)
theorem cl_X4_107 : .constantLong RX4 107 (Int64.ofInt (31)) ∈ lw_good := List.mem_of_getElem? (i := 884) (by decide +kernel)
theorem cl_X12_73 : .constantLong RX12 73 (Int64.ofInt (7)) ∈ lw_good := List.mem_of_getElem? (i := 1003) (by decide +kernel)
theorem cl_X12_79 : .constantLong RX12 79 (Int64.ofInt (59)) ∈ lw_good := List.mem_of_getElem? (i := 1127) (by decide +kernel)
theorem cl_X12_93 : .constantLong RX12 93 (Int64.ofInt (9)) ∈ lw_good := List.mem_of_getElem? (i := 1007) (by decide +kernel)
theorem cl_X12_102 : .constantLong RX12 102 (Int64.ofInt (5)) ∈ lw_good := List.mem_of_getElem? (i := 1023) (by decide +kernel)
theorem cl_X12_118 : .constantLong RX12 118 (Int64.ofInt (2)) ∈ lw_good := List.mem_of_getElem? (i := 1048) (by decide +kernel)
theorem cl_X12_128 : .constantLong RX12 128 (Int64.ofInt (127)) ∈ lw_good := List.mem_of_getElem? (i := 1061) (by decide +kernel)
theorem cl_X12_148 : .constantLong RX12 148 (Int64.ofInt (97)) ∈ lw_good := List.mem_of_getElem? (i := 1082) (by decide +kernel)
theorem cl_X12_150 : .constantLong RX12 150 (Int64.ofInt (122)) ∈ lw_good := List.mem_of_getElem? (i := 1083) (by decide +kernel)
theorem cl_X12_152 : .constantLong RX12 152 (Int64.ofInt (48)) ∈ lw_good := List.mem_of_getElem? (i := 1084) (by decide +kernel)
theorem cl_X12_154 : .constantLong RX12 154 (Int64.ofInt (57)) ∈ lw_good := List.mem_of_getElem? (i := 1085) (by decide +kernel)
theorem cl_X12_156 : .constantLong RX12 156 (Int64.ofInt (27)) ∈ lw_good := List.mem_of_getElem? (i := 1093) (by decide +kernel)
theorem cl_X12_158 : .constantLong RX12 158 (Int64.ofInt (96)) ∈ lw_good := List.mem_of_getElem? (i := 1094) (by decide +kernel)
theorem cl_X12_206 : .constantLong RX12 206 (Int64.ofInt (30)) ∈ lw_good := List.mem_of_getElem? (i := 1123) (by decide +kernel)
theorem cl_X12_229 : .constantLong RX12 229 (Int64.ofInt (3)) ∈ lw_good := List.mem_of_getElem? (i := 1176) (by decide +kernel)
theorem cl_X12_247 : .constantLong RX12 247 (Int64.ofInt (12)) ∈ lw_good := List.mem_of_getElem? (i := 1228) (by decide +kernel)
theorem cl_X12_258 : .constantLong RX12 258 (Int64.ofInt (11)) ∈ lw_good := List.mem_of_getElem? (i := 1257) (by decide +kernel)
theorem cl_X12_266 : .constantLong RX12 266 (Int64.ofInt (10)) ∈ lw_good := List.mem_of_getElem? (i := 1265) (by decide +kernel)
theorem cl_X12_275 : .constantLong RX12 275 (Int64.ofInt (999999)) ∈ lw_good := List.mem_of_getElem? (i := 1277) (by decide +kernel)
theorem cl_X12_277 : .constantLong RX12 277 (Int64.ofInt (1103515245)) ∈ lw_good := List.mem_of_getElem? (i := 1278) (by decide +kernel)
theorem cl_X12_279 : .constantLong RX12 279 (Int64.ofInt (12345)) ∈ lw_good := List.mem_of_getElem? (i := 1279) (by decide +kernel)
theorem cl_X12_281 : .constantLong RX12 281 (Int64.ofInt (2147483648)) ∈ lw_good := List.mem_of_getElem? (i := 1280) (by decide +kernel)
theorem cl_X12_283 : .constantLong RX12 283 (Int64.ofInt (65536)) ∈ lw_good := List.mem_of_getElem? (i := 1281) (by decide +kernel)
theorem cl_X12_285 : .constantLong RX12 285 (Int64.ofInt (8)) ∈ lw_good := List.mem_of_getElem? (i := 1282) (by decide +kernel)
theorem cl_X12_287 : .constantLong RX12 287 (Int64.ofInt (6)) ∈ lw_good := List.mem_of_getElem? (i := 1303) (by decide +kernel)
theorem cl_X12_292 : .constantLong RX12 292 (Int64.ofInt (1103)) ∈ lw_good := List.mem_of_getElem? (i := 1312) (by decide +kernel)
theorem cl_X12_294 : .constantLong RX12 294 (Int64.ofInt (31)) ∈ lw_good := List.mem_of_getElem? (i := 1313) (by decide +kernel)
theorem cn_X11_255 : .constant RX11 255 (Int32.ofInt (999999)) ∈ lw_good := List.mem_of_getElem? (i := 830) (by decide +kernel)
theorem cn_J6_265 : .constant RJ6 265 (Int32.ofInt (1431655765)) ∈ lw_good := List.mem_of_getElem? (i := 815) (by decide +kernel)
theorem cn_J6_266 : .constant RJ6 266 (Int32.ofInt (858993459)) ∈ lw_good := List.mem_of_getElem? (i := 816) (by decide +kernel)
theorem cn_J6_267 : .constant RJ6 267 (Int32.ofInt (252645135)) ∈ lw_good := List.mem_of_getElem? (i := 817) (by decide +kernel)
def jRFL : List (List (Option Nat)) := [[some 1, some 26, some 77, some 78, some 80, some 96, some 100, some 104], [some 2, some 18, some 19, some 20, some 21, some 22, some 23, some 24, some 25, none, none, none, none], [some 3, some 10, some 11, some 12, some 13, some 14, some 15, some 16, some 17, none, none], [some 4, some 5, some 6, some 7, some 8, some 9], [], [], [], [], [], [], [], [], [], [], [], [], [], [], [], [], [], [], [], [], [], [], [some 27, some 52], [some 28, some 44, some 45, some 46, some 47, some 48, some 49, some 50, some 51, none, none, none, none], [some 29, some 36, some 37, some 38, some 39, some 40, some 41, some 42, some 43, none, none], [some 30, some 31, some 32, some 33, some 34, some 35], [], [], [], [], [], [], [], [], [], [], [], [], [], [], [], [], [], [], [], [], [], [], [some 53, some 69, some 70, some 71, some 72, some 73, some 74, some 75, some 76, none, none, none, none], [some 54, some 61, some 62, some 63, some 64, some 65, some 66, some 67, some 68, none, none], [some 55, some 56, some 57, some 58, some 59, some 60], [], [], [], [], [], [], [], [], [], [], [], [], [], [], [], [], [], [], [], [], [], [], [], [some 79], [], [some 81, some 88, some 89, some 90, some 91, some 92, some 93, some 94, some 95, none, none], [some 82, some 83, some 84, some 85, some 86, some 87], [], [], [], [], [], [], [], [], [], [], [], [], [], [], [some 97, some 98, some 99], [], [], [], [some 101, some 102, some 103], [], [], [], [], [some 106, none, none, some 107, some 108, none, none, none, none, none, some 109, none, none, none, some 110, some 111, none, some 112, some 113, some 114, some 115, some 116, some 117, some 118, some 119, some 120, some 121, some 122, some 123], [], [], [], [], [], [], [], [], [], [], [], [], [], [], [], [], [], []]
/-- the references as they stand once all is made -/
def RF : jMR := fun k j => (jRFL.getD k []).getD j none
def jQi (q : Int → jMI → Prop) : Option jV → jMI → jMR → Nat → Prop := fun v I R n => ∃ r, v = some (jI r) ∧ q r I ∧ R = RF ∧ n = 124
def jQl (q : Int → jMI → Prop) : Option jV → jMI → jMR → Nat → Prop := fun v I R n => ∃ r, v = some (jL r) ∧ q r I ∧ R = RF ∧ n = 124
def jQv (q : jMI → Prop) : Option jV → jMI → jMR → Nat → Prop := fun v I R n => v = none ∧ q I ∧ R = RF ∧ n = 124
section JS
variable {X : jX} {own nm : String} {cc : ByteArray} {nL : Nat} {ret : Option FieldType} {d bc bs pc : Nat} {L : List (Option jV)} {st rest : List jV} {I : jMI} {R : jMR} {n : Nat} {Q : Option jV → jMI → jMR → Nat → Prop}
theorem j_goI {q : Int → jMI → Prop} (hrun : jRun X own nm cc nL ret d 0 0 pc st rest I R n (jQi q)) (kk : ∀ (r : Int) (I' : jMI), q r I' → J X own nm cc nL ret d bc bs (pc + 3) L (jI r :: rest) I' RF 124 Q) : J X own nm cc nL ret d bc bs pc L st I R n Q := by
  refine j_go hrun (Nat.zero_le _) (Nat.zero_le _) (fun v I' R' n' h => ?_)
  obtain ⟨r, rfl, h, rfl, rfl⟩ := h
  exact kk r I' h
theorem j_goL {q : Int → jMI → Prop} (hrun : jRun X own nm cc nL ret d 0 0 pc st rest I R n (jQl q)) (kk : ∀ (r : Int) (I' : jMI), q r I' → J X own nm cc nL ret d bc bs (pc + 3) L (jL r :: rest) I' RF 124 Q) : J X own nm cc nL ret d bc bs pc L st I R n Q := by
  refine j_go hrun (Nat.zero_le _) (Nat.zero_le _) (fun v I' R' n' h => ?_)
  obtain ⟨r, rfl, h, rfl, rfl⟩ := h
  exact kk r I' h
theorem j_goV {q : jMI → Prop} (hrun : jRun X own nm cc nL ret d 0 0 pc st rest I R n (jQv q)) (kk : ∀ (I' : jMI), q I' → J X own nm cc nL ret d bc bs (pc + 3) L rest I' RF 124 Q) : J X own nm cc nL ret d bc bs pc L st I R n Q := by
  refine j_go hrun (Nat.zero_le _) (Nat.zero_le _) (fun v I' R' n' h => ?_)
  obtain ⟨rfl, h, rfl, rfl⟩ := h
  exact kk I' h
theorem j_reti {a : Int} {q : Int → jMI → Prop} (hd : decode cc pc = .ok (.ireturn, 1)) (hq : q a I) (hret : ret = some .int) : J X own nm cc nL ret d bc bs pc L [jI a] I RF 124 (jQi q) := j_iret hd ⟨a, rfl, hq, rfl, rfl⟩ hret
theorem j_retz {a : Int} {q : Int → jMI → Prop} (hd : decode cc pc = .ok (.ireturn, 1)) (ha : a = 0 ∨ a = 1) (hq : q a I) (hret : ret = some .boolean) : J X own nm cc nL ret d bc bs pc L [jI a] I RF 124 (jQi q) := j_zret hd ha ⟨a, rfl, hq, rfl, rfl⟩ hret
theorem j_retl {a : Int} {q : Int → jMI → Prop} (hd : decode cc pc = .ok (.lreturn, 1)) (hq : q a I) (hret : ret = some .long) : J X own nm cc nL ret d bc bs pc L [jL a] I RF 124 (jQl q) := j_lret hd ⟨a, rfl, hq, rfl, rfl⟩ hret
theorem j_retv {q : jMI → Prop} (hd : decode cc pc = .ok (.return_, 1)) (hq : q I) (hret : ret = none) : J X own nm cc nL ret d bc bs pc L [] I RF 124 (jQv q) := j_vret hd ⟨rfl, hq, rfl, rfl⟩ hret
end JS
abbrev C_X11_init (X : jX) (As : List jV) (I : jMI) (q : jMI → Prop) : Prop := CG X yX11_init cX11_init 1 none 6 0 0 As I RF 124 (jQv q)
abbrev S_X11_init (X : jX) (pc : Nat) (L : List (Option jV)) (st : List jV) (I : jMI) (q : jMI → Prop) : Prop := J X RX11 "<init>" cX11_init 1 none 6 0 0 pc L st I RF 124 (jQv q)
abbrev C_X11_bit (X : jX) (As : List jV) (I : jMI) (q : Int → jMI → Prop) : Prop := CG X yX11_bit cX11_bit 2 (some .int) 0 0 0 As I RF 124 (jQi q)
abbrev S_X11_bit (X : jX) (pc : Nat) (L : List (Option jV)) (st : List jV) (I : jMI) (q : Int → jMI → Prop) : Prop := J X RX11 "bit" cX11_bit 2 (some .int) 0 0 0 pc L st I RF 124 (jQi q)
abbrev C_X11_canNot (X : jX) (As : List jV) (I : jMI) (q : Int → jMI → Prop) : Prop := CG X yX11_canNot cX11_canNot 4 (some .int) 7 0 0 As I RF 124 (jQi q)
abbrev S_X11_canNot (X : jX) (pc : Nat) (L : List (Option jV)) (st : List jV) (I : jMI) (q : Int → jMI → Prop) : Prop := J X RX11 "canNot" cX11_canNot 4 (some .int) 7 0 0 pc L st I RF 124 (jQi q)
abbrev C_X11_clear (X : jX) (As : List jV) (I : jMI) (q : Int → jMI → Prop) : Prop := CG X yX11_clear cX11_clear 2 (some .int) 0 0 0 As I RF 124 (jQi q)
abbrev S_X11_clear (X : jX) (pc : Nat) (L : List (Option jV)) (st : List jV) (I : jMI) (q : Int → jMI → Prop) : Prop := J X RX11 "clear" cX11_clear 2 (some .int) 0 0 0 pc L st I RF 124 (jQi q)
abbrev C_X11_clocks (X : jX) (As : List jV) (I : jMI) (q : Int → jMI → Prop) : Prop := CG X yX11_clocks cX11_clocks 10 (some .int) 5 0 0 As I RF 124 (jQi q)
abbrev S_X11_clocks (X : jX) (pc : Nat) (L : List (Option jV)) (st : List jV) (I : jMI) (q : Int → jMI → Prop) : Prop := J X RX11 "clocks" cX11_clocks 10 (some .int) 5 0 0 pc L st I RF 124 (jQi q)
abbrev C_X11_commonDivisor (X : jX) (As : List jV) (I : jMI) (q : Int → jMI → Prop) : Prop := CG X yX11_commonDivisor cX11_commonDivisor 11 (some .long) 0 0 0 As I RF 124 (jQl q)
abbrev S_X11_commonDivisor (X : jX) (pc : Nat) (L : List (Option jV)) (st : List jV) (I : jMI) (q : Int → jMI → Prop) : Prop := J X RX11 "commonDivisor" cX11_commonDivisor 11 (some .long) 0 0 0 pc L st I RF 124 (jQl q)
abbrev C_X11_count (X : jX) (As : List jV) (I : jMI) (q : Int → jMI → Prop) : Prop := CG X yX11_count cX11_count 2 (some .int) 1 0 0 As I RF 124 (jQi q)
abbrev S_X11_count (X : jX) (pc : Nat) (L : List (Option jV)) (st : List jV) (I : jMI) (q : Int → jMI → Prop) : Prop := J X RX11 "count" cX11_count 2 (some .int) 1 0 0 pc L st I RF 124 (jQi q)
abbrev C_X11_digest (X : jX) (As : List jV) (I : jMI) (q : Int → jMI → Prop) : Prop := CG X yX11_digest cX11_digest 4 (some .long) 2 0 0 As I RF 124 (jQl q)
abbrev S_X11_digest (X : jX) (pc : Nat) (L : List (Option jV)) (st : List jV) (I : jMI) (q : Int → jMI → Prop) : Prop := J X RX11 "digest" cX11_digest 4 (some .long) 2 0 0 pc L st I RF 124 (jQl q)
abbrev C_X11_far (X : jX) (As : List jV) (I : jMI) (q : Int → jMI → Prop) : Prop := CG X yX11_far cX11_far 4 (some .int) 2 0 0 As I RF 124 (jQi q)
abbrev S_X11_far (X : jX) (pc : Nat) (L : List (Option jV)) (st : List jV) (I : jMI) (q : Int → jMI → Prop) : Prop := J X RX11 "far" cX11_far 4 (some .int) 2 0 0 pc L st I RF 124 (jQi q)
abbrev C_X11_forget (X : jX) (As : List jV) (I : jMI) (q : Int → jMI → Prop) : Prop := CG X yX11_forget cX11_forget 2 (some .int) 0 0 0 As I RF 124 (jQi q)
abbrev S_X11_forget (X : jX) (pc : Nat) (L : List (Option jV)) (st : List jV) (I : jMI) (q : Int → jMI → Prop) : Prop := J X RX11 "forget" cX11_forget 2 (some .int) 0 0 0 pc L st I RF 124 (jQi q)
abbrev C_X11_from (X : jX) (As : List jV) (I : jMI) (q : Int → jMI → Prop) : Prop := CG X yX11_from cX11_from 2 (some .int) 3 0 0 As I RF 124 (jQi q)
abbrev S_X11_from (X : jX) (pc : Nat) (L : List (Option jV)) (st : List jV) (I : jMI) (q : Int → jMI → Prop) : Prop := J X RX11 "from" cX11_from 2 (some .int) 3 0 0 pc L st I RF 124 (jQi q)
abbrev C_X11_heard (X : jX) (As : List jV) (I : jMI) (q : Int → jMI → Prop) : Prop := CG X yX11_heard cX11_heard 4 (some .int) 2 0 0 As I RF 124 (jQi q)
abbrev S_X11_heard (X : jX) (pc : Nat) (L : List (Option jV)) (st : List jV) (I : jMI) (q : Int → jMI → Prop) : Prop := J X RX11 "heard" cX11_heard 4 (some .int) 2 0 0 pc L st I RF 124 (jQi q)
abbrev C_X11_house (X : jX) (As : List jV) (I : jMI) (q : Int → jMI → Prop) : Prop := CG X yX11_house cX11_house 2 (some .int) 3 0 0 As I RF 124 (jQi q)
abbrev S_X11_house (X : jX) (pc : Nat) (L : List (Option jV)) (st : List jV) (I : jMI) (q : Int → jMI → Prop) : Prop := J X RX11 "house" cX11_house 2 (some .int) 3 0 0 pc L st I RF 124 (jQi q)
abbrev C_X11_image (X : jX) (As : List jV) (I : jMI) (q : Int → jMI → Prop) : Prop := CG X yX11_image cX11_image 2 (some .int) 3 0 0 As I RF 124 (jQi q)
abbrev S_X11_image (X : jX) (pc : Nat) (L : List (Option jV)) (st : List jV) (I : jMI) (q : Int → jMI → Prop) : Prop := J X RX11 "image" cX11_image 2 (some .int) 3 0 0 pc L st I RF 124 (jQi q)
abbrev C_X11_isPupil (X : jX) (As : List jV) (I : jMI) (q : Int → jMI → Prop) : Prop := CG X yX11_isPupil cX11_isPupil 1 (some .boolean) 1 0 0 As I RF 124 (jQi q)
abbrev S_X11_isPupil (X : jX) (pc : Nat) (L : List (Option jV)) (st : List jV) (I : jMI) (q : Int → jMI → Prop) : Prop := J X RX11 "isPupil" cX11_isPupil 1 (some .boolean) 1 0 0 pc L st I RF 124 (jQi q)
abbrev C_X11_isRoom (X : jX) (As : List jV) (I : jMI) (q : Int → jMI → Prop) : Prop := CG X yX11_isRoom cX11_isRoom 1 (some .boolean) 1 0 0 As I RF 124 (jQi q)
abbrev S_X11_isRoom (X : jX) (pc : Nat) (L : List (Option jV)) (st : List jV) (I : jMI) (q : Int → jMI → Prop) : Prop := J X RX11 "isRoom" cX11_isRoom 1 (some .boolean) 1 0 0 pc L st I RF 124 (jQi q)
abbrev C_X11_isSleeper (X : jX) (As : List jV) (I : jMI) (q : Int → jMI → Prop) : Prop := CG X yX11_isSleeper cX11_isSleeper 2 (some .boolean) 1 0 0 As I RF 124 (jQi q)
abbrev S_X11_isSleeper (X : jX) (pc : Nat) (L : List (Option jV)) (st : List jV) (I : jMI) (q : Int → jMI → Prop) : Prop := J X RX11 "isSleeper" cX11_isSleeper 2 (some .boolean) 1 0 0 pc L st I RF 124 (jQi q)
abbrev C_X11_isThing (X : jX) (As : List jV) (I : jMI) (q : Int → jMI → Prop) : Prop := CG X yX11_isThing cX11_isThing 2 (some .boolean) 1 0 0 As I RF 124 (jQi q)
abbrev S_X11_isThing (X : jX) (pc : Nat) (L : List (Option jV)) (st : List jV) (I : jMI) (q : Int → jMI → Prop) : Prop := J X RX11 "isThing" cX11_isThing 2 (some .boolean) 1 0 0 pc L st I RF 124 (jQi q)
abbrev C_X11_keepFraction (X : jX) (As : List jV) (I : jMI) (q : jMI → Prop) : Prop := CG X yX11_keepFraction cX11_keepFraction 7 none 1 0 0 As I RF 124 (jQv q)
abbrev S_X11_keepFraction (X : jX) (pc : Nat) (L : List (Option jV)) (st : List jV) (I : jMI) (q : jMI → Prop) : Prop := J X RX11 "keepFraction" cX11_keepFraction 7 none 1 0 0 pc L st I RF 124 (jQv q)
abbrev C_X11_listen (X : jX) (As : List jV) (I : jMI) (q : Int → jMI → Prop) : Prop := CG X yX11_listen cX11_listen 2 (some .int) 7 0 0 As I RF 124 (jQi q)
abbrev S_X11_listen (X : jX) (pc : Nat) (L : List (Option jV)) (st : List jV) (I : jMI) (q : Int → jMI → Prop) : Prop := J X RX11 "listen" cX11_listen 2 (some .int) 7 0 0 pc L st I RF 124 (jQi q)
abbrev C_X11_loud (X : jX) (As : List jV) (I : jMI) (q : Int → jMI → Prop) : Prop := CG X yX11_loud cX11_loud 3 (some .int) 5 0 0 As I RF 124 (jQi q)
abbrev S_X11_loud (X : jX) (pc : Nat) (L : List (Option jV)) (st : List jV) (I : jMI) (q : Int → jMI → Prop) : Prop := J X RX11 "loud" cX11_loud 3 (some .int) 5 0 0 pc L st I RF 124 (jQi q)
abbrev C_X11_may (X : jX) (As : List jV) (I : jMI) (q : Int → jMI → Prop) : Prop := CG X yX11_may cX11_may 2 (some .int) 7 0 0 As I RF 124 (jQi q)
abbrev S_X11_may (X : jX) (pc : Nat) (L : List (Option jV)) (st : List jV) (I : jMI) (q : Int → jMI → Prop) : Prop := J X RX11 "may" cX11_may 2 (some .int) 7 0 0 pc L st I RF 124 (jQi q)
abbrev C_X11_nights (X : jX) (As : List jV) (I : jMI) (q : Int → jMI → Prop) : Prop := CG X yX11_nights cX11_nights 3 (some .int) 6 0 0 As I RF 124 (jQi q)
abbrev S_X11_nights (X : jX) (pc : Nat) (L : List (Option jV)) (st : List jV) (I : jMI) (q : Int → jMI → Prop) : Prop := J X RX11 "nights" cX11_nights 3 (some .int) 6 0 0 pc L st I RF 124 (jQi q)
abbrev C_X11_of (X : jX) (As : List jV) (I : jMI) (q : Int → jMI → Prop) : Prop := CG X yX11_of cX11_of 3 (some .int) 2 0 0 As I RF 124 (jQi q)
abbrev S_X11_of (X : jX) (pc : Nat) (L : List (Option jV)) (st : List jV) (I : jMI) (q : Int → jMI → Prop) : Prop := J X RX11 "of" cX11_of 3 (some .int) 2 0 0 pc L st I RF 124 (jQi q)
abbrev C_X11_owed (X : jX) (As : List jV) (I : jMI) (q : Int → jMI → Prop) : Prop := CG X yX11_owed cX11_owed 4 (some .int) 2 0 0 As I RF 124 (jQi q)
abbrev S_X11_owed (X : jX) (pc : Nat) (L : List (Option jV)) (st : List jV) (I : jMI) (q : Int → jMI → Prop) : Prop := J X RX11 "owed" cX11_owed 4 (some .int) 2 0 0 pc L st I RF 124 (jQi q)
abbrev C_X11_owner (X : jX) (As : List jV) (I : jMI) (q : Int → jMI → Prop) : Prop := CG X yX11_owner cX11_owner 4 (some .int) 2 0 0 As I RF 124 (jQi q)
abbrev S_X11_owner (X : jX) (pc : Nat) (L : List (Option jV)) (st : List jV) (I : jMI) (q : Int → jMI → Prop) : Prop := J X RX11 "owner" cX11_owner 4 (some .int) 2 0 0 pc L st I RF 124 (jQi q)
abbrev C_X11_pair (X : jX) (As : List jV) (I : jMI) (q : Int → jMI → Prop) : Prop := CG X yX11_pair cX11_pair 2 (some .int) 0 0 0 As I RF 124 (jQi q)
abbrev S_X11_pair (X : jX) (pc : Nat) (L : List (Option jV)) (st : List jV) (I : jMI) (q : Int → jMI → Prop) : Prop := J X RX11 "pair" cX11_pair 2 (some .int) 0 0 0 pc L st I RF 124 (jQi q)
abbrev C_X11_part (X : jX) (As : List jV) (I : jMI) (q : Int → jMI → Prop) : Prop := CG X yX11_part cX11_part 2 (some .long) 1 0 0 As I RF 124 (jQl q)
abbrev S_X11_part (X : jX) (pc : Nat) (L : List (Option jV)) (st : List jV) (I : jMI) (q : Int → jMI → Prop) : Prop := J X RX11 "part" cX11_part 2 (some .long) 1 0 0 pc L st I RF 124 (jQl q)
abbrev C_X11_read (X : jX) (As : List jV) (I : jMI) (q : Int → jMI → Prop) : Prop := CG X yX11_read cX11_read 2 (some .int) 8 0 0 As I RF 124 (jQi q)
abbrev S_X11_read (X : jX) (pc : Nat) (L : List (Option jV)) (st : List jV) (I : jMI) (q : Int → jMI → Prop) : Prop := J X RX11 "read" cX11_read 2 (some .int) 8 0 0 pc L st I RF 124 (jQi q)
abbrev C_X11_refuseBad (X : jX) (As : List jV) (I : jMI) (q : Int → jMI → Prop) : Prop := CG X yX11_refuseBad cX11_refuseBad 2 (some .int) 0 0 0 As I RF 124 (jQi q)
abbrev S_X11_refuseBad (X : jX) (pc : Nat) (L : List (Option jV)) (st : List jV) (I : jMI) (q : Int → jMI → Prop) : Prop := J X RX11 "refuseBad" cX11_refuseBad 2 (some .int) 0 0 0 pc L st I RF 124 (jQi q)
abbrev C_X11_refuseFull (X : jX) (As : List jV) (I : jMI) (q : Int → jMI → Prop) : Prop := CG X yX11_refuseFull cX11_refuseFull 1 (some .int) 0 0 0 As I RF 124 (jQi q)
abbrev S_X11_refuseFull (X : jX) (pc : Nat) (L : List (Option jV)) (st : List jV) (I : jMI) (q : Int → jMI → Prop) : Prop := J X RX11 "refuseFull" cX11_refuseFull 1 (some .int) 0 0 0 pc L st I RF 124 (jQi q)
abbrev C_X11_refuseNo (X : jX) (As : List jV) (I : jMI) (q : Int → jMI → Prop) : Prop := CG X yX11_refuseNo cX11_refuseNo 1 (some .int) 0 0 0 As I RF 124 (jQi q)
abbrev S_X11_refuseNo (X : jX) (pc : Nat) (L : List (Option jV)) (st : List jV) (I : jMI) (q : Int → jMI → Prop) : Prop := J X RX11 "refuseNo" cX11_refuseNo 1 (some .int) 0 0 0 pc L st I RF 124 (jQi q)
abbrev C_X11_schedule (X : jX) (As : List jV) (I : jMI) (q : Int → jMI → Prop) : Prop := CG X yX11_schedule cX11_schedule 3 (some .int) 7 0 0 As I RF 124 (jQi q)
abbrev S_X11_schedule (X : jX) (pc : Nat) (L : List (Option jV)) (st : List jV) (I : jMI) (q : Int → jMI → Prop) : Prop := J X RX11 "schedule" cX11_schedule 3 (some .int) 7 0 0 pc L st I RF 124 (jQi q)
abbrev C_X11_sleeper (X : jX) (As : List jV) (I : jMI) (q : Int → jMI → Prop) : Prop := CG X yX11_sleeper cX11_sleeper 4 (some .int) 2 0 0 As I RF 124 (jQi q)
abbrev S_X11_sleeper (X : jX) (pc : Nat) (L : List (Option jV)) (st : List jV) (I : jMI) (q : Int → jMI → Prop) : Prop := J X RX11 "sleeper" cX11_sleeper 4 (some .int) 2 0 0 pc L st I RF 124 (jQi q)
abbrev C_X11_softest (X : jX) (As : List jV) (I : jMI) (q : Int → jMI → Prop) : Prop := CG X yX11_softest cX11_softest 3 (some .int) 4 0 0 As I RF 124 (jQi q)
abbrev S_X11_softest (X : jX) (pc : Nat) (L : List (Option jV)) (st : List jV) (I : jMI) (q : Int → jMI → Prop) : Prop := J X RX11 "softest" cX11_softest 3 (some .int) 4 0 0 pc L st I RF 124 (jQi q)
abbrev C_X11_stair (X : jX) (As : List jV) (I : jMI) (q : Int → jMI → Prop) : Prop := CG X yX11_stair cX11_stair 4 (some .int) 3 0 0 As I RF 124 (jQi q)
abbrev S_X11_stair (X : jX) (pc : Nat) (L : List (Option jV)) (st : List jV) (I : jMI) (q : Int → jMI → Prop) : Prop := J X RX11 "stair" cX11_stair 4 (some .int) 3 0 0 pc L st I RF 124 (jQi q)
abbrev C_X11_status (X : jX) (As : List jV) (I : jMI) (q : Int → jMI → Prop) : Prop := CG X yX11_status cX11_status 2 (some .int) 1 0 0 As I RF 124 (jQi q)
abbrev S_X11_status (X : jX) (pc : Nat) (L : List (Option jV)) (st : List jV) (I : jMI) (q : Int → jMI → Prop) : Prop := J X RX11 "status" cX11_status 2 (some .int) 1 0 0 pc L st I RF 124 (jQi q)
abbrev C_X11_step (X : jX) (As : List jV) (I : jMI) (q : Int → jMI → Prop) : Prop := CG X yX11_step cX11_step 4 (some .int) 6 0 0 As I RF 124 (jQi q)
abbrev S_X11_step (X : jX) (pc : Nat) (L : List (Option jV)) (st : List jV) (I : jMI) (q : Int → jMI → Prop) : Prop := J X RX11 "step" cX11_step 4 (some .int) 6 0 0 pc L st I RF 124 (jQi q)
abbrev C_X11_thing (X : jX) (As : List jV) (I : jMI) (q : Int → jMI → Prop) : Prop := CG X yX11_thing cX11_thing 2 (some .int) 2 0 0 As I RF 124 (jQi q)
abbrev S_X11_thing (X : jX) (pc : Nat) (L : List (Option jV)) (st : List jV) (I : jMI) (q : Int → jMI → Prop) : Prop := J X RX11 "thing" cX11_thing 2 (some .int) 2 0 0 pc L st I RF 124 (jQi q)
abbrev C_X11_took (X : jX) (As : List jV) (I : jMI) (q : Int → jMI → Prop) : Prop := CG X yX11_took cX11_took 2 (some .int) 2 0 0 As I RF 124 (jQi q)
abbrev S_X11_took (X : jX) (pc : Nat) (L : List (Option jV)) (st : List jV) (I : jMI) (q : Int → jMI → Prop) : Prop := J X RX11 "took" cX11_took 2 (some .int) 2 0 0 pc L st I RF 124 (jQi q)
abbrev C_X11_type (X : jX) (As : List jV) (I : jMI) (q : Int → jMI → Prop) : Prop := CG X yX11_type cX11_type 2 (some .int) 1 0 0 As I RF 124 (jQi q)
abbrev S_X11_type (X : jX) (pc : Nat) (L : List (Option jV)) (st : List jV) (I : jMI) (q : Int → jMI → Prop) : Prop := J X RX11 "type" cX11_type 2 (some .int) 1 0 0 pc L st I RF 124 (jQi q)
abbrev C_X11_undo (X : jX) (As : List jV) (I : jMI) (q : Int → jMI → Prop) : Prop := CG X yX11_undo cX11_undo 1 (some .int) 1 0 0 As I RF 124 (jQi q)
abbrev S_X11_undo (X : jX) (pc : Nat) (L : List (Option jV)) (st : List jV) (I : jMI) (q : Int → jMI → Prop) : Prop := J X RX11 "undo" cX11_undo 1 (some .int) 1 0 0 pc L st I RF 124 (jQi q)
abbrev C_X11_waits (X : jX) (As : List jV) (I : jMI) (q : Int → jMI → Prop) : Prop := CG X yX11_waits cX11_waits 2 (some .int) 2 0 0 As I RF 124 (jQi q)
abbrev S_X11_waits (X : jX) (pc : Nat) (L : List (Option jV)) (st : List jV) (I : jMI) (q : Int → jMI → Prop) : Prop := J X RX11 "waits" cX11_waits 2 (some .int) 2 0 0 pc L st I RF 124 (jQi q)
abbrev C_X11_wakes (X : jX) (As : List jV) (I : jMI) (q : Int → jMI → Prop) : Prop := CG X yX11_wakes cX11_wakes 4 (some .int) 5 0 0 As I RF 124 (jQi q)
abbrev S_X11_wakes (X : jX) (pc : Nat) (L : List (Option jV)) (st : List jV) (I : jMI) (q : Int → jMI → Prop) : Prop := J X RX11 "wakes" cX11_wakes 4 (some .int) 5 0 0 pc L st I RF 124 (jQi q)
abbrev C_X11_way (X : jX) (As : List jV) (I : jMI) (q : Int → jMI → Prop) : Prop := CG X yX11_way cX11_way 6 (some .int) 7 0 0 As I RF 124 (jQi q)
abbrev S_X11_way (X : jX) (pc : Nat) (L : List (Option jV)) (st : List jV) (I : jMI) (q : Int → jMI → Prop) : Prop := J X RX11 "way" cX11_way 6 (some .int) 7 0 0 pc L st I RF 124 (jQi q)
abbrev C_X11_ways (X : jX) (As : List jV) (I : jMI) (q : Int → jMI → Prop) : Prop := CG X yX11_ways cX11_ways 1 (some .long) 7 0 0 As I RF 124 (jQl q)
abbrev S_X11_ways (X : jX) (pc : Nat) (L : List (Option jV)) (st : List jV) (I : jMI) (q : Int → jMI → Prop) : Prop := J X RX11 "ways" cX11_ways 1 (some .long) 7 0 0 pc L st I RF 124 (jQl q)
abbrev C_X11_weighClocks (X : jX) (As : List jV) (I : jMI) (q : jMI → Prop) : Prop := CG X yX11_weighClocks cX11_weighClocks 5 none 1 0 0 As I RF 124 (jQv q)
abbrev S_X11_weighClocks (X : jX) (pc : Nat) (L : List (Option jV)) (st : List jV) (I : jMI) (q : jMI → Prop) : Prop := J X RX11 "weighClocks" cX11_weighClocks 5 none 1 0 0 pc L st I RF 124 (jQv q)
abbrev C_X11_where (X : jX) (As : List jV) (I : jMI) (q : Int → jMI → Prop) : Prop := CG X yX11_where cX11_where 2 (some .int) 2 0 0 As I RF 124 (jQi q)
abbrev S_X11_where (X : jX) (pc : Nat) (L : List (Option jV)) (st : List jV) (I : jMI) (q : Int → jMI → Prop) : Prop := J X RX11 "where" cX11_where 2 (some .int) 2 0 0 pc L st I RF 124 (jQi q)
abbrev C_X11_within (X : jX) (As : List jV) (I : jMI) (q : Int → jMI → Prop) : Prop := CG X yX11_within cX11_within 2 (some .boolean) 0 0 0 As I RF 124 (jQi q)
abbrev S_X11_within (X : jX) (pc : Nat) (L : List (Option jV)) (st : List jV) (I : jMI) (q : Int → jMI → Prop) : Prop := J X RX11 "within" cX11_within 2 (some .boolean) 0 0 0 pc L st I RF 124 (jQi q)
abbrev C_X0_init (X : jX) (As : List jV) (I : jMI) (q : jMI → Prop) : Prop := CG X yX0_init cX0_init 1 none 3 0 0 As I RF 124 (jQv q)
abbrev S_X0_init (X : jX) (pc : Nat) (L : List (Option jV)) (st : List jV) (I : jMI) (q : jMI → Prop) : Prop := J X RX0 "<init>" cX0_init 1 none 3 0 0 pc L st I RF 124 (jQv q)
abbrev C_X0_wakingNoise (X : jX) (As : List jV) (I : jMI) (q : Int → jMI → Prop) : Prop := CG X yX0_wakingNoise cX0_wakingNoise 4 (some .int) 2 0 0 As I RF 124 (jQi q)
abbrev S_X0_wakingNoise (X : jX) (pc : Nat) (L : List (Option jV)) (st : List jV) (I : jMI) (q : Int → jMI → Prop) : Prop := J X RX0 "wakingNoise" cX0_wakingNoise 4 (some .int) 2 0 0 pc L st I RF 124 (jQi q)
abbrev C_X1_init (X : jX) (As : List jV) (I : jMI) (q : jMI → Prop) : Prop := CG X yX1_init cX1_init 1 none 1 0 0 As I RF 124 (jQv q)
abbrev S_X1_init (X : jX) (pc : Nat) (L : List (Option jV)) (st : List jV) (I : jMI) (q : jMI → Prop) : Prop := J X RX1 "<init>" cX1_init 1 none 1 0 0 pc L st I RF 124 (jQv q)
abbrev C_X1_allowCreaks (X : jX) (As : List jV) (I : jMI) (q : jMI → Prop) : Prop := CG X yX1_allowCreaks cX1_allowCreaks 4 none 2 0 0 As I RF 124 (jQv q)
abbrev S_X1_allowCreaks (X : jX) (pc : Nat) (L : List (Option jV)) (st : List jV) (I : jMI) (q : jMI → Prop) : Prop := J X RX1 "allowCreaks" cX1_allowCreaks 4 none 2 0 0 pc L st I RF 124 (jQv q)
abbrev C_X1_allowInto (X : jX) (As : List jV) (I : jMI) (q : jMI → Prop) : Prop := CG X yX1_allowInto cX1_allowInto 6 none 1 0 0 As I RF 124 (jQv q)
abbrev S_X1_allowInto (X : jX) (pc : Nat) (L : List (Option jV)) (st : List jV) (I : jMI) (q : jMI → Prop) : Prop := J X RX1 "allowInto" cX1_allowInto 6 none 1 0 0 pc L st I RF 124 (jQv q)
abbrev C_X1_fewestMinutes (X : jX) (As : List jV) (I : jMI) (q : Int → jMI → Prop) : Prop := CG X yX1_fewestMinutes cX1_fewestMinutes 7 (some .int) 6 0 0 As I RF 124 (jQi q)
abbrev S_X1_fewestMinutes (X : jX) (pc : Nat) (L : List (Option jV)) (st : List jV) (I : jMI) (q : Int → jMI → Prop) : Prop := J X RX1 "fewestMinutes" cX1_fewestMinutes 7 (some .int) 6 0 0 pc L st I RF 124 (jQi q)
abbrev C_X1_fewestMinutesOfTwo (X : jX) (As : List jV) (I : jMI) (q : Int → jMI → Prop) : Prop := CG X yX1_fewestMinutesOfTwo cX1_fewestMinutesOfTwo 5 (some .int) 6 0 0 As I RF 124 (jQi q)
abbrev S_X1_fewestMinutesOfTwo (X : jX) (pc : Nat) (L : List (Option jV)) (st : List jV) (I : jMI) (q : Int → jMI → Prop) : Prop := J X RX1 "fewestMinutesOfTwo" cX1_fewestMinutesOfTwo 5 (some .int) 6 0 0 pc L st I RF 124 (jQi q)
abbrev C_X1_firstRoom (X : jX) (As : List jV) (I : jMI) (q : Int → jMI → Prop) : Prop := CG X yX1_firstRoom cX1_firstRoom 8 (some .int) 6 0 0 As I RF 124 (jQi q)
abbrev S_X1_firstRoom (X : jX) (pc : Nat) (L : List (Option jV)) (st : List jV) (I : jMI) (q : Int → jMI → Prop) : Prop := J X RX1 "firstRoom" cX1_firstRoom 8 (some .int) 6 0 0 pc L st I RF 124 (jQi q)
abbrev C_X1_goTogether (X : jX) (As : List jV) (I : jMI) (q : jMI → Prop) : Prop := CG X yX1_goTogether cX1_goTogether 4 none 2 0 0 As I RF 124 (jQv q)
abbrev S_X1_goTogether (X : jX) (pc : Nat) (L : List (Option jV)) (st : List jV) (I : jMI) (q : jMI → Prop) : Prop := J X RX1 "goTogether" cX1_goTogether 4 none 2 0 0 pc L st I RF 124 (jQv q)
abbrev C_X1_leastWorstCreak (X : jX) (As : List jV) (I : jMI) (q : Int → jMI → Prop) : Prop := CG X yX1_leastWorstCreak cX1_leastWorstCreak 7 (some .int) 3 0 0 As I RF 124 (jQi q)
abbrev S_X1_leastWorstCreak (X : jX) (pc : Nat) (L : List (Option jV)) (st : List jV) (I : jMI) (q : Int → jMI → Prop) : Prop := J X RX1 "leastWorstCreak" cX1_leastWorstCreak 7 (some .int) 3 0 0 pc L st I RF 124 (jQi q)
abbrev C_X1_lookAt (X : jX) (As : List jV) (I : jMI) (q : jMI → Prop) : Prop := CG X yX1_lookAt cX1_lookAt 4 none 5 0 0 As I RF 124 (jQv q)
abbrev S_X1_lookAt (X : jX) (pc : Nat) (L : List (Option jV)) (st : List jV) (I : jMI) (q : jMI → Prop) : Prop := J X RX1 "lookAt" cX1_lookAt 4 none 5 0 0 pc L st I RF 124 (jQv q)
abbrev C_X1_reachedByDawn (X : jX) (As : List jV) (I : jMI) (q : Int → jMI → Prop) : Prop := CG X yX1_reachedByDawn cX1_reachedByDawn 4 (some .int) 6 0 0 As I RF 124 (jQi q)
abbrev S_X1_reachedByDawn (X : jX) (pc : Nat) (L : List (Option jV)) (st : List jV) (I : jMI) (q : Int → jMI → Prop) : Prop := J X RX1 "reachedByDawn" cX1_reachedByDawn 4 (some .int) 6 0 0 pc L st I RF 124 (jQi q)
abbrev C_X1_roomsAfter (X : jX) (As : List jV) (I : jMI) (q : Int → jMI → Prop) : Prop := CG X yX1_roomsAfter cX1_roomsAfter 4 (some .int) 1 0 0 As I RF 124 (jQi q)
abbrev S_X1_roomsAfter (X : jX) (pc : Nat) (L : List (Option jV)) (st : List jV) (I : jMI) (q : Int → jMI → Prop) : Prop := J X RX1 "roomsAfter" cX1_roomsAfter 4 (some .int) 1 0 0 pc L st I RF 124 (jQi q)
abbrev C_X1_roomsAhead (X : jX) (As : List jV) (I : jMI) (q : Int → jMI → Prop) : Prop := CG X yX1_roomsAhead cX1_roomsAhead 4 (some .int) 0 0 0 As I RF 124 (jQi q)
abbrev S_X1_roomsAhead (X : jX) (pc : Nat) (L : List (Option jV)) (st : List jV) (I : jMI) (q : Int → jMI → Prop) : Prop := J X RX1 "roomsAhead" cX1_roomsAhead 4 (some .int) 0 0 0 pc L st I RF 124 (jQi q)
abbrev C_X1_secondGoes (X : jX) (As : List jV) (I : jMI) (q : Int → jMI → Prop) : Prop := CG X yX1_secondGoes cX1_secondGoes 6 (some .int) 1 0 0 As I RF 124 (jQi q)
abbrev S_X1_secondGoes (X : jX) (pc : Nat) (L : List (Option jV)) (st : List jV) (I : jMI) (q : Int → jMI → Prop) : Prop := J X RX1 "secondGoes" cX1_secondGoes 6 (some .int) 1 0 0 pc L st I RF 124 (jQi q)
abbrev C_X1_stayOnly (X : jX) (As : List jV) (I : jMI) (q : jMI → Prop) : Prop := CG X yX1_stayOnly cX1_stayOnly 2 none 0 0 0 As I RF 124 (jQv q)
abbrev S_X1_stayOnly (X : jX) (pc : Nat) (L : List (Option jV)) (st : List jV) (I : jMI) (q : jMI → Prop) : Prop := J X RX1 "stayOnly" cX1_stayOnly 2 none 0 0 0 pc L st I RF 124 (jQv q)
abbrev C_X2_init (X : jX) (As : List jV) (I : jMI) (q : jMI → Prop) : Prop := CG X yX2_init cX2_init 1 none 4 0 0 As I RF 124 (jQv q)
abbrev S_X2_init (X : jX) (pc : Nat) (L : List (Option jV)) (st : List jV) (I : jMI) (q : jMI → Prop) : Prop := J X RX2 "<init>" cX2_init 1 none 4 0 0 pc L st I RF 124 (jQv q)
abbrev C_X2_addOwner (X : jX) (As : List jV) (I : jMI) (q : Int → jMI → Prop) : Prop := CG X yX2_addOwner cX2_addOwner 3 (some .int) 0 0 0 As I RF 124 (jQi q)
abbrev S_X2_addOwner (X : jX) (pc : Nat) (L : List (Option jV)) (st : List jV) (I : jMI) (q : Int → jMI → Prop) : Prop := J X RX2 "addOwner" cX2_addOwner 3 (some .int) 0 0 0 pc L st I RF 124 (jQi q)
abbrev C_X2_addSleeper (X : jX) (As : List jV) (I : jMI) (q : Int → jMI → Prop) : Prop := CG X yX2_addSleeper cX2_addSleeper 4 (some .int) 0 0 0 As I RF 124 (jQi q)
abbrev S_X2_addSleeper (X : jX) (pc : Nat) (L : List (Option jV)) (st : List jV) (I : jMI) (q : Int → jMI → Prop) : Prop := J X RX2 "addSleeper" cX2_addSleeper 4 (some .int) 0 0 0 pc L st I RF 124 (jQi q)
abbrev C_X2_addStair (X : jX) (As : List jV) (I : jMI) (q : Int → jMI → Prop) : Prop := CG X yX2_addStair cX2_addStair 5 (some .int) 2 0 0 As I RF 124 (jQi q)
abbrev S_X2_addStair (X : jX) (pc : Nat) (L : List (Option jV)) (st : List jV) (I : jMI) (q : Int → jMI → Prop) : Prop := J X RX2 "addStair" cX2_addStair 5 (some .int) 2 0 0 pc L st I RF 124 (jQi q)
abbrev C_X2_addThing (X : jX) (As : List jV) (I : jMI) (q : Int → jMI → Prop) : Prop := CG X yX2_addThing cX2_addThing 2 (some .int) 0 0 0 As I RF 124 (jQi q)
abbrev S_X2_addThing (X : jX) (pc : Nat) (L : List (Option jV)) (st : List jV) (I : jMI) (q : Int → jMI → Prop) : Prop := J X RX2 "addThing" cX2_addThing 2 (some .int) 0 0 0 pc L st I RF 124 (jQi q)
abbrev C_X2_copyFrom (X : jX) (As : List jV) (I : jMI) (q : jMI → Prop) : Prop := CG X yX2_copyFrom cX2_copyFrom 2 none 1 0 0 As I RF 124 (jQv q)
abbrev S_X2_copyFrom (X : jX) (pc : Nat) (L : List (Option jV)) (st : List jV) (I : jMI) (q : jMI → Prop) : Prop := J X RX2 "copyFrom" cX2_copyFrom 2 none 1 0 0 pc L st I RF 124 (jQv q)
abbrev C_X2_empty (X : jX) (As : List jV) (I : jMI) (q : jMI → Prop) : Prop := CG X yX2_empty cX2_empty 2 none 2 0 0 As I RF 124 (jQv q)
abbrev S_X2_empty (X : jX) (pc : Nat) (L : List (Option jV)) (st : List jV) (I : jMI) (q : jMI → Prop) : Prop := J X RX2 "empty" cX2_empty 2 none 2 0 0 pc L st I RF 124 (jQv q)
abbrev C_X2_foldStairs (X : jX) (As : List jV) (I : jMI) (q : Int → jMI → Prop) : Prop := CG X yX2_foldStairs cX2_foldStairs 7 (some .long) 1 0 0 As I RF 124 (jQl q)
abbrev S_X2_foldStairs (X : jX) (pc : Nat) (L : List (Option jV)) (st : List jV) (I : jMI) (q : Int → jMI → Prop) : Prop := J X RX2 "foldStairs" cX2_foldStairs 7 (some .long) 1 0 0 pc L st I RF 124 (jQl q)
abbrev C_X2_foldThings (X : jX) (As : List jV) (I : jMI) (q : Int → jMI → Prop) : Prop := CG X yX2_foldThings cX2_foldThings 7 (some .long) 0 0 0 As I RF 124 (jQl q)
abbrev S_X2_foldThings (X : jX) (pc : Nat) (L : List (Option jV)) (st : List jV) (I : jMI) (q : Int → jMI → Prop) : Prop := J X RX2 "foldThings" cX2_foldThings 7 (some .long) 0 0 0 pc L st I RF 124 (jQl q)
abbrev C_X2_lastOwner (X : jX) (As : List jV) (I : jMI) (q : Int → jMI → Prop) : Prop := CG X yX2_lastOwner cX2_lastOwner 3 (some .int) 0 0 0 As I RF 124 (jQi q)
abbrev S_X2_lastOwner (X : jX) (pc : Nat) (L : List (Option jV)) (st : List jV) (I : jMI) (q : Int → jMI → Prop) : Prop := J X RX2 "lastOwner" cX2_lastOwner 3 (some .int) 0 0 0 pc L st I RF 124 (jQi q)
abbrev C_X2_leastNoise (X : jX) (As : List jV) (I : jMI) (q : Int → jMI → Prop) : Prop := CG X yX2_leastNoise cX2_leastNoise 6 (some .int) 3 0 0 As I RF 124 (jQi q)
abbrev S_X2_leastNoise (X : jX) (pc : Nat) (L : List (Option jV)) (st : List jV) (I : jMI) (q : Int → jMI → Prop) : Prop := J X RX2 "leastNoise" cX2_leastNoise 6 (some .int) 3 0 0 pc L st I RF 124 (jQi q)
abbrev C_X2_loudest (X : jX) (As : List jV) (I : jMI) (q : Int → jMI → Prop) : Prop := CG X yX2_loudest cX2_loudest 5 (some .int) 4 0 0 As I RF 124 (jQi q)
abbrev S_X2_loudest (X : jX) (pc : Nat) (L : List (Option jV)) (st : List jV) (I : jMI) (q : Int → jMI → Prop) : Prop := J X RX2 "loudest" cX2_loudest 5 (some .int) 4 0 0 pc L st I RF 124 (jQi q)
abbrev C_X2_measure (X : jX) (As : List jV) (I : jMI) (q : jMI → Prop) : Prop := CG X yX2_measure cX2_measure 5 none 1 0 0 As I RF 124 (jQv q)
abbrev S_X2_measure (X : jX) (pc : Nat) (L : List (Option jV)) (st : List jV) (I : jMI) (q : jMI → Prop) : Prop := J X RX2 "measure" cX2_measure 5 none 1 0 0 pc L st I RF 124 (jQv q)
abbrev C_X2_wakers (X : jX) (As : List jV) (I : jMI) (q : Int → jMI → Prop) : Prop := CG X yX2_wakers cX2_wakers 6 (some .int) 4 0 0 As I RF 124 (jQi q)
abbrev S_X2_wakers (X : jX) (pc : Nat) (L : List (Option jV)) (st : List jV) (I : jMI) (q : Int → jMI → Prop) : Prop := J X RX2 "wakers" cX2_wakers 6 (some .int) 4 0 0 pc L st I RF 124 (jQi q)
abbrev C_X2_wasTakenFrom (X : jX) (As : List jV) (I : jMI) (q : Int → jMI → Prop) : Prop := CG X yX2_wasTakenFrom cX2_wasTakenFrom 4 (some .boolean) 0 0 0 As I RF 124 (jQi q)
abbrev S_X2_wasTakenFrom (X : jX) (pc : Nat) (L : List (Option jV)) (st : List jV) (I : jMI) (q : Int → jMI → Prop) : Prop := J X RX2 "wasTakenFrom" cX2_wasTakenFrom 4 (some .boolean) 0 0 0 pc L st I RF 124 (jQi q)
abbrev C_X3_init (X : jX) (As : List jV) (I : jMI) (q : jMI → Prop) : Prop := CG X yX3_init cX3_init 1 none 2 0 0 As I RF 124 (jQv q)
abbrev S_X3_init (X : jX) (pc : Nat) (L : List (Option jV)) (st : List jV) (I : jMI) (q : jMI → Prop) : Prop := J X RX3 "<init>" cX3_init 1 none 2 0 0 pc L st I RF 124 (jQv q)
abbrev C_X3_wakingNoise (X : jX) (As : List jV) (I : jMI) (q : Int → jMI → Prop) : Prop := CG X yX3_wakingNoise cX3_wakingNoise 4 (some .int) 1 0 0 As I RF 124 (jQi q)
abbrev S_X3_wakingNoise (X : jX) (pc : Nat) (L : List (Option jV)) (st : List jV) (I : jMI) (q : Int → jMI → Prop) : Prop := J X RX3 "wakingNoise" cX3_wakingNoise 4 (some .int) 1 0 0 pc L st I RF 124 (jQi q)
abbrev C_X4_init (X : jX) (As : List jV) (I : jMI) (q : jMI → Prop) : Prop := CG X yX4_init cX4_init 1 none 5 0 0 As I RF 124 (jQv q)
abbrev S_X4_init (X : jX) (pc : Nat) (L : List (Option jV)) (st : List jV) (I : jMI) (q : jMI → Prop) : Prop := J X RX4 "<init>" cX4_init 1 none 5 0 0 pc L st I RF 124 (jQv q)
abbrev C_X4_addHeard (X : jX) (As : List jV) (I : jMI) (q : Int → jMI → Prop) : Prop := CG X yX4_addHeard cX4_addHeard 4 (some .int) 0 0 0 As I RF 124 (jQi q)
abbrev S_X4_addHeard (X : jX) (pc : Nat) (L : List (Option jV)) (st : List jV) (I : jMI) (q : Int → jMI → Prop) : Prop := J X RX4 "addHeard" cX4_addHeard 4 (some .int) 0 0 0 pc L st I RF 124 (jQi q)
abbrev C_X4_awakeAfter (X : jX) (As : List jV) (I : jMI) (q : Int → jMI → Prop) : Prop := CG X yX4_awakeAfter cX4_awakeAfter 11 (some .int) 5 0 0 As I RF 124 (jQi q)
abbrev S_X4_awakeAfter (X : jX) (pc : Nat) (L : List (Option jV)) (st : List jV) (I : jMI) (q : Int → jMI → Prop) : Prop := J X RX4 "awakeAfter" cX4_awakeAfter 11 (some .int) 5 0 0 pc L st I RF 124 (jQi q)
abbrev C_X4_begin (X : jX) (As : List jV) (I : jMI) (q : jMI → Prop) : Prop := CG X yX4_begin cX4_begin 2 none 0 0 0 As I RF 124 (jQv q)
abbrev S_X4_begin (X : jX) (pc : Nat) (L : List (Option jV)) (st : List jV) (I : jMI) (q : jMI → Prop) : Prop := J X RX4 "begin" cX4_begin 2 none 0 0 0 pc L st I RF 124 (jQv q)
abbrev C_X4_copyFrom (X : jX) (As : List jV) (I : jMI) (q : jMI → Prop) : Prop := CG X yX4_copyFrom cX4_copyFrom 2 none 2 0 0 As I RF 124 (jQv q)
abbrev S_X4_copyFrom (X : jX) (pc : Nat) (L : List (Option jV)) (st : List jV) (I : jMI) (q : jMI → Prop) : Prop := J X RX4 "copyFrom" cX4_copyFrom 2 none 2 0 0 pc L st I RF 124 (jQv q)
abbrev C_X4_dropOldest (X : jX) (As : List jV) (I : jMI) (q : jMI → Prop) : Prop := CG X yX4_dropOldest cX4_dropOldest 2 none 0 0 0 As I RF 124 (jQv q)
abbrev S_X4_dropOldest (X : jX) (pc : Nat) (L : List (Option jV)) (st : List jV) (I : jMI) (q : jMI → Prop) : Prop := J X RX4 "dropOldest" cX4_dropOldest 2 none 0 0 0 pc L st I RF 124 (jQv q)
abbrev C_X4_foldHeard (X : jX) (As : List jV) (I : jMI) (q : Int → jMI → Prop) : Prop := CG X yX4_foldHeard cX4_foldHeard 6 (some .long) 0 0 0 As I RF 124 (jQl q)
abbrev S_X4_foldHeard (X : jX) (pc : Nat) (L : List (Option jV)) (st : List jV) (I : jMI) (q : Int → jMI → Prop) : Prop := J X RX4 "foldHeard" cX4_foldHeard 6 (some .long) 0 0 0 pc L st I RF 124 (jQl q)
abbrev C_X4_foldSleepersAndPupils (X : jX) (As : List jV) (I : jMI) (q : Int → jMI → Prop) : Prop := CG X yX4_foldSleepersAndPupils cX4_foldSleepersAndPupils 6 (some .long) 1 0 0 As I RF 124 (jQl q)
abbrev S_X4_foldSleepersAndPupils (X : jX) (pc : Nat) (L : List (Option jV)) (st : List jV) (I : jMI) (q : Int → jMI → Prop) : Prop := J X RX4 "foldSleepersAndPupils" cX4_foldSleepersAndPupils 6 (some .long) 1 0 0 pc L st I RF 124 (jQl q)
abbrev C_X4_go (X : jX) (As : List jV) (I : jMI) (q : Int → jMI → Prop) : Prop := CG X yX4_go cX4_go 5 (some .int) 5 0 0 As I RF 124 (jQi q)
abbrev S_X4_go (X : jX) (pc : Nat) (L : List (Option jV)) (st : List jV) (I : jMI) (q : Int → jMI → Prop) : Prop := J X RX4 "go" cX4_go 5 (some .int) 5 0 0 pc L st I RF 124 (jQi q)
abbrev C_X4_goBack (X : jX) (As : List jV) (I : jMI) (q : Int → jMI → Prop) : Prop := CG X yX4_goBack cX4_goBack 3 (some .int) 0 0 0 As I RF 124 (jQi q)
abbrev S_X4_goBack (X : jX) (pc : Nat) (L : List (Option jV)) (st : List jV) (I : jMI) (q : Int → jMI → Prop) : Prop := J X RX4 "goBack" cX4_goBack 3 (some .int) 0 0 0 pc L st I RF 124 (jQi q)
abbrev C_X4_remember (X : jX) (As : List jV) (I : jMI) (q : jMI → Prop) : Prop := CG X yX4_remember cX4_remember 3 none 1 0 0 As I RF 124 (jQv q)
abbrev S_X4_remember (X : jX) (pc : Nat) (L : List (Option jV)) (st : List jV) (I : jMI) (q : jMI → Prop) : Prop := J X RX4 "remember" cX4_remember 3 none 1 0 0 pc L st I RF 124 (jQv q)
abbrev C_X4_toldOf (X : jX) (As : List jV) (I : jMI) (q : Int → jMI → Prop) : Prop := CG X yX4_toldOf cX4_toldOf 5 (some .int) 0 0 0 As I RF 124 (jQi q)
abbrev S_X4_toldOf (X : jX) (pc : Nat) (L : List (Option jV)) (st : List jV) (I : jMI) (q : Int → jMI → Prop) : Prop := J X RX4 "toldOf" cX4_toldOf 5 (some .int) 0 0 0 pc L st I RF 124 (jQi q)
abbrev C_X5_init (X : jX) (As : List jV) (I : jMI) (q : jMI → Prop) : Prop := CG X yX5_init cX5_init 1 none 2 0 0 As I RF 124 (jQv q)
abbrev S_X5_init (X : jX) (pc : Nat) (L : List (Option jV)) (st : List jV) (I : jMI) (q : jMI → Prop) : Prop := J X RX5 "<init>" cX5_init 1 none 2 0 0 pc L st I RF 124 (jQv q)
abbrev C_X5_wakingNoise (X : jX) (As : List jV) (I : jMI) (q : Int → jMI → Prop) : Prop := CG X yX5_wakingNoise cX5_wakingNoise 5 (some .int) 1 0 0 As I RF 124 (jQi q)
abbrev S_X5_wakingNoise (X : jX) (pc : Nat) (L : List (Option jV)) (st : List jV) (I : jMI) (q : Int → jMI → Prop) : Prop := J X RX5 "wakingNoise" cX5_wakingNoise 5 (some .int) 1 0 0 pc L st I RF 124 (jQi q)
abbrev C_X6_init (X : jX) (As : List jV) (I : jMI) (q : jMI → Prop) : Prop := CG X yX6_init cX6_init 1 none 3 0 0 As I RF 124 (jQv q)
abbrev S_X6_init (X : jX) (pc : Nat) (L : List (Option jV)) (st : List jV) (I : jMI) (q : jMI → Prop) : Prop := J X RX6 "<init>" cX6_init 1 none 3 0 0 pc L st I RF 124 (jQv q)
abbrev C_X6_wakingNoise (X : jX) (As : List jV) (I : jMI) (q : Int → jMI → Prop) : Prop := CG X yX6_wakingNoise cX6_wakingNoise 5 (some .int) 2 0 0 As I RF 124 (jQi q)
abbrev S_X6_wakingNoise (X : jX) (pc : Nat) (L : List (Option jV)) (st : List jV) (I : jMI) (q : Int → jMI → Prop) : Prop := J X RX6 "wakingNoise" cX6_wakingNoise 5 (some .int) 2 0 0 pc L st I RF 124 (jQi q)
abbrev C_X7_init (X : jX) (As : List jV) (I : jMI) (q : jMI → Prop) : Prop := CG X yX7_init cX7_init 1 none 1 0 0 As I RF 124 (jQv q)
abbrev S_X7_init (X : jX) (pc : Nat) (L : List (Option jV)) (st : List jV) (I : jMI) (q : jMI → Prop) : Prop := J X RX7 "<init>" cX7_init 1 none 1 0 0 pc L st I RF 124 (jQv q)
abbrev C_X7_wakingNoise (X : jX) (As : List jV) (I : jMI) (q : Int → jMI → Prop) : Prop := CG X yX7_wakingNoise cX7_wakingNoise 4 (some .int) 0 0 0 As I RF 124 (jQi q)
abbrev S_X7_wakingNoise (X : jX) (pc : Nat) (L : List (Option jV)) (st : List jV) (I : jMI) (q : Int → jMI → Prop) : Prop := J X RX7 "wakingNoise" cX7_wakingNoise 4 (some .int) 0 0 0 pc L st I RF 124 (jQi q)
abbrev C_X8_init (X : jX) (As : List jV) (I : jMI) (q : jMI → Prop) : Prop := CG X yX8_init cX8_init 1 none 1 0 0 As I RF 124 (jQv q)
abbrev S_X8_init (X : jX) (pc : Nat) (L : List (Option jV)) (st : List jV) (I : jMI) (q : jMI → Prop) : Prop := J X RX8 "<init>" cX8_init 1 none 1 0 0 pc L st I RF 124 (jQv q)
abbrev C_X8_advance (X : jX) (As : List jV) (I : jMI) (q : jMI → Prop) : Prop := CG X yX8_advance cX8_advance 1 none 1 0 0 As I RF 124 (jQv q)
abbrev S_X8_advance (X : jX) (pc : Nat) (L : List (Option jV)) (st : List jV) (I : jMI) (q : jMI → Prop) : Prop := J X RX8 "advance" cX8_advance 1 none 1 0 0 pc L st I RF 124 (jQv q)
abbrev C_X8_append (X : jX) (As : List jV) (I : jMI) (q : Int → jMI → Prop) : Prop := CG X yX8_append cX8_append 2 (some .int) 0 0 0 As I RF 124 (jQi q)
abbrev S_X8_append (X : jX) (pc : Nat) (L : List (Option jV)) (st : List jV) (I : jMI) (q : Int → jMI → Prop) : Prop := J X RX8 "append" cX8_append 2 (some .int) 0 0 0 pc L st I RF 124 (jQi q)
abbrev C_X8_endOfRun (X : jX) (As : List jV) (I : jMI) (q : Int → jMI → Prop) : Prop := CG X yX8_endOfRun cX8_endOfRun 4 (some .int) 0 0 0 As I RF 124 (jQi q)
abbrev S_X8_endOfRun (X : jX) (pc : Nat) (L : List (Option jV)) (st : List jV) (I : jMI) (q : Int → jMI → Prop) : Prop := J X RX8 "endOfRun" cX8_endOfRun 4 (some .int) 0 0 0 pc L st I RF 124 (jQi q)
abbrev C_X8_isWord (X : jX) (As : List jV) (I : jMI) (q : Int → jMI → Prop) : Prop := CG X yX8_isWord cX8_isWord 3 (some .boolean) 5 0 0 As I RF 124 (jQi q)
abbrev S_X8_isWord (X : jX) (pc : Nat) (L : List (Option jV)) (st : List jV) (I : jMI) (q : Int → jMI → Prop) : Prop := J X RX8 "isWord" cX8_isWord 3 (some .boolean) 5 0 0 pc L st I RF 124 (jQi q)
abbrev C_X8_numberNext (X : jX) (As : List jV) (I : jMI) (q : Int → jMI → Prop) : Prop := CG X yX8_numberNext cX8_numberNext 4 (some .int) 2 0 0 As I RF 124 (jQi q)
abbrev S_X8_numberNext (X : jX) (pc : Nat) (L : List (Option jV)) (st : List jV) (I : jMI) (q : Int → jMI → Prop) : Prop := J X RX8 "numberNext" cX8_numberNext 4 (some .int) 2 0 0 pc L st I RF 124 (jQi q)
abbrev C_X8_readInto (X : jX) (As : List jV) (I : jMI) (q : Int → jMI → Prop) : Prop := CG X yX8_readInto cX8_readInto 5 (some .int) 7 0 0 As I RF 124 (jQi q)
abbrev S_X8_readInto (X : jX) (pc : Nat) (L : List (Option jV)) (st : List jV) (I : jMI) (q : Int → jMI → Prop) : Prop := J X RX8 "readInto" cX8_readInto 5 (some .int) 7 0 0 pc L st I RF 124 (jQi q)
abbrev C_X8_readItem (X : jX) (As : List jV) (I : jMI) (q : Int → jMI → Prop) : Prop := CG X yX8_readItem cX8_readItem 2 (some .boolean) 6 0 0 As I RF 124 (jQi q)
abbrev S_X8_readItem (X : jX) (pc : Nat) (L : List (Option jV)) (st : List jV) (I : jMI) (q : Int → jMI → Prop) : Prop := J X RX8 "readItem" cX8_readItem 2 (some .boolean) 6 0 0 pc L st I RF 124 (jQi q)
abbrev C_X8_readSleeper (X : jX) (As : List jV) (I : jMI) (q : Int → jMI → Prop) : Prop := CG X yX8_readSleeper cX8_readSleeper 5 (some .boolean) 3 0 0 As I RF 124 (jQi q)
abbrev S_X8_readSleeper (X : jX) (pc : Nat) (L : List (Option jV)) (st : List jV) (I : jMI) (q : Int → jMI → Prop) : Prop := J X RX8 "readSleeper" cX8_readSleeper 5 (some .boolean) 3 0 0 pc L st I RF 124 (jQi q)
abbrev C_X8_readStair (X : jX) (As : List jV) (I : jMI) (q : Int → jMI → Prop) : Prop := CG X yX8_readStair cX8_readStair 5 (some .boolean) 3 0 0 As I RF 124 (jQi q)
abbrev S_X8_readStair (X : jX) (pc : Nat) (L : List (Option jV)) (st : List jV) (I : jMI) (q : Int → jMI → Prop) : Prop := J X RX8 "readStair" cX8_readStair 5 (some .boolean) 3 0 0 pc L st I RF 124 (jQi q)
abbrev C_X8_readThing (X : jX) (As : List jV) (I : jMI) (q : Int → jMI → Prop) : Prop := CG X yX8_readThing cX8_readThing 6 (some .boolean) 3 0 0 As I RF 124 (jQi q)
abbrev S_X8_readThing (X : jX) (pc : Nat) (L : List (Option jV)) (st : List jV) (I : jMI) (q : Int → jMI → Prop) : Prop := J X RX8 "readThing" cX8_readThing 6 (some .boolean) 3 0 0 pc L st I RF 124 (jQi q)
abbrev C_X8_stopNext (X : jX) (As : List jV) (I : jMI) (q : Int → jMI → Prop) : Prop := CG X yX8_stopNext cX8_stopNext 1 (some .boolean) 2 0 0 As I RF 124 (jQi q)
abbrev S_X8_stopNext (X : jX) (pc : Nat) (L : List (Option jV)) (st : List jV) (I : jMI) (q : Int → jMI → Prop) : Prop := J X RX8 "stopNext" cX8_stopNext 1 (some .boolean) 2 0 0 pc L st I RF 124 (jQi q)
abbrev C_X9_init (X : jX) (As : List jV) (I : jMI) (q : jMI → Prop) : Prop := CG X yX9_init cX9_init 1 none 1 0 0 As I RF 124 (jQv q)
abbrev S_X9_init (X : jX) (pc : Nat) (L : List (Option jV)) (st : List jV) (I : jMI) (q : jMI → Prop) : Prop := J X RX9 "<init>" cX9_init 1 none 1 0 0 pc L st I RF 124 (jQv q)
abbrev C_X9_bestListener (X : jX) (As : List jV) (I : jMI) (q : Int → jMI → Prop) : Prop := CG X yX9_bestListener cX9_bestListener 11 (some .int) 5 0 0 As I RF 124 (jQi q)
abbrev S_X9_bestListener (X : jX) (pc : Nat) (L : List (Option jV)) (st : List jV) (I : jMI) (q : Int → jMI → Prop) : Prop := J X RX9 "bestListener" cX9_bestListener 11 (some .int) 5 0 0 pc L st I RF 124 (jQi q)
abbrev C_X9_findLeads (X : jX) (As : List jV) (I : jMI) (q : jMI → Prop) : Prop := CG X yX9_findLeads cX9_findLeads 9 none 5 0 0 As I RF 124 (jQv q)
abbrev S_X9_findLeads (X : jX) (pc : Nat) (L : List (Option jV)) (st : List jV) (I : jMI) (q : jMI → Prop) : Prop := J X RX9 "findLeads" cX9_findLeads 9 none 5 0 0 pc L st I RF 124 (jQv q)
abbrev C_X9_roomsIn (X : jX) (As : List jV) (I : jMI) (q : Int → jMI → Prop) : Prop := CG X yX9_roomsIn cX9_roomsIn 4 (some .int) 1 0 0 As I RF 124 (jQi q)
abbrev S_X9_roomsIn (X : jX) (pc : Nat) (L : List (Option jV)) (st : List jV) (I : jMI) (q : Int → jMI → Prop) : Prop := J X RX9 "roomsIn" cX9_roomsIn 4 (some .int) 1 0 0 pc L st I RF 124 (jQi q)
abbrev C_X9_rowsHeardBy (X : jX) (As : List jV) (I : jMI) (q : Int → jMI → Prop) : Prop := CG X yX9_rowsHeardBy cX9_rowsHeardBy 10 (some .long) 4 0 0 As I RF 124 (jQl q)
abbrev S_X9_rowsHeardBy (X : jX) (pc : Nat) (L : List (Option jV)) (st : List jV) (I : jMI) (q : Int → jMI → Prop) : Prop := J X RX9 "rowsHeardBy" cX9_rowsHeardBy 10 (some .long) 4 0 0 pc L st I RF 124 (jQl q)
abbrev C_X9_tally (X : jX) (As : List jV) (I : jMI) (q : jMI → Prop) : Prop := CG X yX9_tally cX9_tally 4 none 6 0 0 As I RF 124 (jQv q)
abbrev S_X9_tally (X : jX) (pc : Nat) (L : List (Option jV)) (st : List jV) (I : jMI) (q : jMI → Prop) : Prop := J X RX9 "tally" cX9_tally 4 none 6 0 0 pc L st I RF 124 (jQv q)
abbrev C_X9_tallyBefore (X : jX) (As : List jV) (I : jMI) (q : jMI → Prop) : Prop := CG X yX9_tallyBefore cX9_tallyBefore 4 none 1 0 0 As I RF 124 (jQv q)
abbrev S_X9_tallyBefore (X : jX) (pc : Nat) (L : List (Option jV)) (st : List jV) (I : jMI) (q : jMI → Prop) : Prop := J X RX9 "tallyBefore" cX9_tallyBefore 4 none 1 0 0 pc L st I RF 124 (jQv q)
abbrev C_X9_tallyBehind (X : jX) (As : List jV) (I : jMI) (q : jMI → Prop) : Prop := CG X yX9_tallyBehind cX9_tallyBehind 4 none 1 0 0 As I RF 124 (jQv q)
abbrev S_X9_tallyBehind (X : jX) (pc : Nat) (L : List (Option jV)) (st : List jV) (I : jMI) (q : jMI → Prop) : Prop := J X RX9 "tallyBehind" cX9_tallyBehind 4 none 1 0 0 pc L st I RF 124 (jQv q)
abbrev C_X9_total (X : jX) (As : List jV) (I : jMI) (q : Int → jMI → Prop) : Prop := CG X yX9_total cX9_total 1 (some .long) 0 0 0 As I RF 124 (jQl q)
abbrev S_X9_total (X : jX) (pc : Nat) (L : List (Option jV)) (st : List jV) (I : jMI) (q : Int → jMI → Prop) : Prop := J X RX9 "total" cX9_total 1 (some .long) 0 0 0 pc L st I RF 124 (jQl q)
abbrev C_X10_init (X : jX) (As : List jV) (I : jMI) (q : jMI → Prop) : Prop := CG X yX10_init cX10_init 1 none 3 0 0 As I RF 124 (jQv q)
abbrev S_X10_init (X : jX) (pc : Nat) (L : List (Option jV)) (st : List jV) (I : jMI) (q : jMI → Prop) : Prop := J X RX10 "<init>" cX10_init 1 none 3 0 0 pc L st I RF 124 (jQv q)
abbrev C_X10_wakingNoise (X : jX) (As : List jV) (I : jMI) (q : Int → jMI → Prop) : Prop := CG X yX10_wakingNoise cX10_wakingNoise 5 (some .int) 2 0 0 As I RF 124 (jQi q)
abbrev S_X10_wakingNoise (X : jX) (pc : Nat) (L : List (Option jV)) (st : List jV) (I : jMI) (q : Int → jMI → Prop) : Prop := J X RX10 "wakingNoise" cX10_wakingNoise 5 (some .int) 2 0 0 pc L st I RF 124 (jQi q)
abbrev C_X12_init (X : jX) (As : List jV) (I : jMI) (q : jMI → Prop) : Prop := CG X yX12_init cX12_init 1 none 1 0 0 As I RF 124 (jQv q)
abbrev S_X12_init (X : jX) (pc : Nat) (L : List (Option jV)) (st : List jV) (I : jMI) (q : jMI → Prop) : Prop := J X RX12 "<init>" cX12_init 1 none 1 0 0 pc L st I RF 124 (jQv q)
abbrev C_X12_addOwner (X : jX) (As : List jV) (I : jMI) (q : jMI → Prop) : Prop := CG X yX12_addOwner cX12_addOwner 3 none 0 0 0 As I RF 124 (jQv q)
abbrev S_X12_addOwner (X : jX) (pc : Nat) (L : List (Option jV)) (st : List jV) (I : jMI) (q : jMI → Prop) : Prop := J X RX12 "addOwner" cX12_addOwner 3 none 0 0 0 pc L st I RF 124 (jQv q)
abbrev C_X12_addSleeper (X : jX) (As : List jV) (I : jMI) (q : jMI → Prop) : Prop := CG X yX12_addSleeper cX12_addSleeper 5 none 0 0 0 As I RF 124 (jQv q)
abbrev S_X12_addSleeper (X : jX) (pc : Nat) (L : List (Option jV)) (st : List jV) (I : jMI) (q : jMI → Prop) : Prop := J X RX12 "addSleeper" cX12_addSleeper 5 none 0 0 0 pc L st I RF 124 (jQv q)
abbrev C_X12_addThing (X : jX) (As : List jV) (I : jMI) (q : jMI → Prop) : Prop := CG X yX12_addThing cX12_addThing 2 none 0 0 0 As I RF 124 (jQv q)
abbrev S_X12_addThing (X : jX) (pc : Nat) (L : List (Option jV)) (st : List jV) (I : jMI) (q : jMI → Prop) : Prop := J X RX12 "addThing" cX12_addThing 2 none 0 0 0 pc L st I RF 124 (jQv q)
abbrev C_X12_anew (X : jX) (As : List jV) (I : jMI) (q : jMI → Prop) : Prop := CG X yX12_anew cX12_anew 2 none 0 0 0 As I RF 124 (jQv q)
abbrev S_X12_anew (X : jX) (pc : Nat) (L : List (Option jV)) (st : List jV) (I : jMI) (q : jMI → Prop) : Prop := J X RX12 "anew" cX12_anew 2 none 0 0 0 pc L st I RF 124 (jQv q)
abbrev C_X12_bad (X : jX) (As : List jV) (I : jMI) (q : Int → jMI → Prop) : Prop := CG X yX12_bad cX12_bad 1 (some .int) 0 0 0 As I RF 124 (jQi q)
abbrev S_X12_bad (X : jX) (pc : Nat) (L : List (Option jV)) (st : List jV) (I : jMI) (q : Int → jMI → Prop) : Prop := J X RX12 "bad" cX12_bad 1 (some .int) 0 0 0 pc L st I RF 124 (jQi q)
abbrev C_X12_bothGo (X : jX) (As : List jV) (I : jMI) (q : jMI → Prop) : Prop := CG X yX12_bothGo cX12_bothGo 7 none 1 0 0 As I RF 124 (jQv q)
abbrev S_X12_bothGo (X : jX) (pc : Nat) (L : List (Option jV)) (st : List jV) (I : jMI) (q : jMI → Prop) : Prop := J X RX12 "bothGo" cX12_bothGo 7 none 1 0 0 pc L st I RF 124 (jQv q)
abbrev C_X12_byteAt (X : jX) (As : List jV) (I : jMI) (q : Int → jMI → Prop) : Prop := CG X yX12_byteAt cX12_byteAt 2 (some .int) 0 0 0 As I RF 124 (jQi q)
abbrev S_X12_byteAt (X : jX) (pc : Nat) (L : List (Option jV)) (st : List jV) (I : jMI) (q : Int → jMI → Prop) : Prop := J X RX12 "byteAt" cX12_byteAt 2 (some .int) 0 0 0 pc L st I RF 124 (jQi q)
abbrev C_X12_canBe (X : jX) (As : List jV) (I : jMI) (q : Int → jMI → Prop) : Prop := CG X yX12_canBe cX12_canBe 8 (some .boolean) 5 0 0 As I RF 124 (jQi q)
abbrev S_X12_canBe (X : jX) (pc : Nat) (L : List (Option jV)) (st : List jV) (I : jMI) (q : Int → jMI → Prop) : Prop := J X RX12 "canBe" cX12_canBe 8 (some .boolean) 5 0 0 pc L st I RF 124 (jQi q)
abbrev C_X12_canNot (X : jX) (As : List jV) (I : jMI) (q : Int → jMI → Prop) : Prop := CG X yX12_canNot cX12_canNot 3 (some .int) 7 0 0 As I RF 124 (jQi q)
abbrev S_X12_canNot (X : jX) (pc : Nat) (L : List (Option jV)) (st : List jV) (I : jMI) (q : Int → jMI → Prop) : Prop := J X RX12 "canNot" cX12_canNot 3 (some .int) 7 0 0 pc L st I RF 124 (jQi q)
abbrev C_X12_clear (X : jX) (As : List jV) (I : jMI) (q : Int → jMI → Prop) : Prop := CG X yX12_clear cX12_clear 2 (some .int) 0 0 0 As I RF 124 (jQi q)
abbrev S_X12_clear (X : jX) (pc : Nat) (L : List (Option jV)) (st : List jV) (I : jMI) (q : Int → jMI → Prop) : Prop := J X RX12 "clear" cX12_clear 2 (some .int) 0 0 0 pc L st I RF 124 (jQi q)
abbrev C_X12_clocks (X : jX) (As : List jV) (I : jMI) (q : Int → jMI → Prop) : Prop := CG X yX12_clocks cX12_clocks 13 (some .int) 4 0 0 As I RF 124 (jQi q)
abbrev S_X12_clocks (X : jX) (pc : Nat) (L : List (Option jV)) (st : List jV) (I : jMI) (q : Int → jMI → Prop) : Prop := J X RX12 "clocks" cX12_clocks 13 (some .int) 4 0 0 pc L st I RF 124 (jQi q)
abbrev C_X12_count (X : jX) (As : List jV) (I : jMI) (q : Int → jMI → Prop) : Prop := CG X yX12_count cX12_count 2 (some .int) 2 0 0 As I RF 124 (jQi q)
abbrev S_X12_count (X : jX) (pc : Nat) (L : List (Option jV)) (st : List jV) (I : jMI) (q : Int → jMI → Prop) : Prop := J X RX12 "count" cX12_count 2 (some .int) 2 0 0 pc L st I RF 124 (jQi q)
abbrev C_X12_countOf (X : jX) (As : List jV) (I : jMI) (q : Int → jMI → Prop) : Prop := CG X yX12_countOf cX12_countOf 2 (some .int) 1 0 0 As I RF 124 (jQi q)
abbrev S_X12_countOf (X : jX) (pc : Nat) (L : List (Option jV)) (st : List jV) (I : jMI) (q : Int → jMI → Prop) : Prop := J X RX12 "countOf" cX12_countOf 2 (some .int) 1 0 0 pc L st I RF 124 (jQi q)
abbrev C_X12_creakOf (X : jX) (As : List jV) (I : jMI) (q : Int → jMI → Prop) : Prop := CG X yX12_creakOf cX12_creakOf 3 (some .int) 1 0 0 As I RF 124 (jQi q)
abbrev S_X12_creakOf (X : jX) (pc : Nat) (L : List (Option jV)) (st : List jV) (I : jMI) (q : Int → jMI → Prop) : Prop := J X RX12 "creakOf" cX12_creakOf 3 (some .int) 1 0 0 pc L st I RF 124 (jQi q)
abbrev C_X12_digest (X : jX) (As : List jV) (I : jMI) (q : Int → jMI → Prop) : Prop := CG X yX12_digest cX12_digest 5 (some .long) 2 0 0 As I RF 124 (jQl q)
abbrev S_X12_digest (X : jX) (pc : Nat) (L : List (Option jV)) (st : List jV) (I : jMI) (q : Int → jMI → Prop) : Prop := J X RX12 "digest" cX12_digest 5 (some .long) 2 0 0 pc L st I RF 124 (jQl q)
abbrev C_X12_ends (X : jX) (As : List jV) (I : jMI) (q : Int → jMI → Prop) : Prop := CG X yX12_ends cX12_ends 1 (some .boolean) 2 0 0 As I RF 124 (jQi q)
abbrev S_X12_ends (X : jX) (pc : Nat) (L : List (Option jV)) (st : List jV) (I : jMI) (q : Int → jMI → Prop) : Prop := J X RX12 "ends" cX12_ends 1 (some .boolean) 2 0 0 pc L st I RF 124 (jQi q)
abbrev C_X12_far (X : jX) (As : List jV) (I : jMI) (q : Int → jMI → Prop) : Prop := CG X yX12_far cX12_far 3 (some .int) 3 0 0 As I RF 124 (jQi q)
abbrev S_X12_far (X : jX) (pc : Nat) (L : List (Option jV)) (st : List jV) (I : jMI) (q : Int → jMI → Prop) : Prop := J X RX12 "far" cX12_far 3 (some .int) 3 0 0 pc L st I RF 124 (jQi q)
abbrev C_X12_findFar (X : jX) (As : List jV) (I : jMI) (q : jMI → Prop) : Prop := CG X yX12_findFar cX12_findFar 5 none 2 0 0 As I RF 124 (jQv q)
abbrev S_X12_findFar (X : jX) (pc : Nat) (L : List (Option jV)) (st : List jV) (I : jMI) (q : jMI → Prop) : Prop := J X RX12 "findFar" cX12_findFar 5 none 2 0 0 pc L st I RF 124 (jQv q)
abbrev C_X12_findHeard (X : jX) (As : List jV) (I : jMI) (q : jMI → Prop) : Prop := CG X yX12_findHeard cX12_findHeard 3 none 6 0 0 As I RF 124 (jQv q)
abbrev S_X12_findHeard (X : jX) (pc : Nat) (L : List (Option jV)) (st : List jV) (I : jMI) (q : jMI → Prop) : Prop := J X RX12 "findHeard" cX12_findHeard 3 none 6 0 0 pc L st I RF 124 (jQv q)
abbrev C_X12_findQuiet (X : jX) (As : List jV) (I : jMI) (q : jMI → Prop) : Prop := CG X yX12_findQuiet cX12_findQuiet 3 none 5 0 0 As I RF 124 (jQv q)
abbrev S_X12_findQuiet (X : jX) (pc : Nat) (L : List (Option jV)) (st : List jV) (I : jMI) (q : jMI → Prop) : Prop := J X RX12 "findQuiet" cX12_findQuiet 3 none 5 0 0 pc L st I RF 124 (jQv q)
abbrev C_X12_findWays (X : jX) (As : List jV) (I : jMI) (q : jMI → Prop) : Prop := CG X yX12_findWays cX12_findWays 8 none 6 0 0 As I RF 124 (jQv q)
abbrev S_X12_findWays (X : jX) (pc : Nat) (L : List (Option jV)) (st : List jV) (I : jMI) (q : jMI → Prop) : Prop := J X RX12 "findWays" cX12_findWays 8 none 6 0 0 pc L st I RF 124 (jQv q)
abbrev C_X12_forget (X : jX) (As : List jV) (I : jMI) (q : Int → jMI → Prop) : Prop := CG X yX12_forget cX12_forget 2 (some .int) 0 0 0 As I RF 124 (jQi q)
abbrev S_X12_forget (X : jX) (pc : Nat) (L : List (Option jV)) (st : List jV) (I : jMI) (q : Int → jMI → Prop) : Prop := J X RX12 "forget" cX12_forget 2 (some .int) 0 0 0 pc L st I RF 124 (jQi q)
abbrev C_X12_from (X : jX) (As : List jV) (I : jMI) (q : Int → jMI → Prop) : Prop := CG X yX12_from cX12_from 3 (some .int) 2 0 0 As I RF 124 (jQi q)
abbrev S_X12_from (X : jX) (pc : Nat) (L : List (Option jV)) (st : List jV) (I : jMI) (q : Int → jMI → Prop) : Prop := J X RX12 "from" cX12_from 3 (some .int) 2 0 0 pc L st I RF 124 (jQi q)
abbrev C_X12_full (X : jX) (As : List jV) (I : jMI) (q : Int → jMI → Prop) : Prop := CG X yX12_full cX12_full 1 (some .int) 0 0 0 As I RF 124 (jQi q)
abbrev S_X12_full (X : jX) (pc : Nat) (L : List (Option jV)) (st : List jV) (I : jMI) (q : Int → jMI → Prop) : Prop := J X RX12 "full" cX12_full 1 (some .int) 0 0 0 pc L st I RF 124 (jQi q)
abbrev C_X12_goes (X : jX) (As : List jV) (I : jMI) (q : Int → jMI → Prop) : Prop := CG X yX12_goes cX12_goes 4 (some .int) 4 0 0 As I RF 124 (jQi q)
abbrev S_X12_goes (X : jX) (pc : Nat) (L : List (Option jV)) (st : List jV) (I : jMI) (q : Int → jMI → Prop) : Prop := J X RX12 "goes" cX12_goes 4 (some .int) 4 0 0 pc L st I RF 124 (jQi q)
abbrev C_X12_has (X : jX) (As : List jV) (I : jMI) (q : Int → jMI → Prop) : Prop := CG X yX12_has cX12_has 2 (some .boolean) 0 0 0 As I RF 124 (jQi q)
abbrev S_X12_has (X : jX) (pc : Nat) (L : List (Option jV)) (st : List jV) (I : jMI) (q : Int → jMI → Prop) : Prop := J X RX12 "has" cX12_has 2 (some .boolean) 0 0 0 pc L st I RF 124 (jQi q)
abbrev C_X12_heard (X : jX) (As : List jV) (I : jMI) (q : Int → jMI → Prop) : Prop := CG X yX12_heard cX12_heard 5 (some .int) 2 0 0 As I RF 124 (jQi q)
abbrev S_X12_heard (X : jX) (pc : Nat) (L : List (Option jV)) (st : List jV) (I : jMI) (q : Int → jMI → Prop) : Prop := J X RX12 "heard" cX12_heard 5 (some .int) 2 0 0 pc L st I RF 124 (jQi q)
abbrev C_X12_heardBy (X : jX) (As : List jV) (I : jMI) (q : Int → jMI → Prop) : Prop := CG X yX12_heardBy cX12_heardBy 4 (some .int) 4 0 0 As I RF 124 (jQi q)
abbrev S_X12_heardBy (X : jX) (pc : Nat) (L : List (Option jV)) (st : List jV) (I : jMI) (q : Int → jMI → Prop) : Prop := J X RX12 "heardBy" cX12_heardBy 4 (some .int) 4 0 0 pc L st I RF 124 (jQi q)
abbrev C_X12_house (X : jX) (As : List jV) (I : jMI) (q : Int → jMI → Prop) : Prop := CG X yX12_house cX12_house 2 (some .int) 1 0 0 As I RF 124 (jQi q)
abbrev S_X12_house (X : jX) (pc : Nat) (L : List (Option jV)) (st : List jV) (I : jMI) (q : Int → jMI → Prop) : Prop := J X RX12 "house" cX12_house 2 (some .int) 1 0 0 pc L st I RF 124 (jQi q)
abbrev C_X12_image (X : jX) (As : List jV) (I : jMI) (q : Int → jMI → Prop) : Prop := CG X yX12_image cX12_image 3 (some .int) 2 0 0 As I RF 124 (jQi q)
abbrev S_X12_image (X : jX) (pc : Nat) (L : List (Option jV)) (st : List jV) (I : jMI) (q : Int → jMI → Prop) : Prop := J X RX12 "image" cX12_image 3 (some .int) 2 0 0 pc L st I RF 124 (jQi q)
abbrev C_X12_in (X : jX) (As : List jV) (I : jMI) (q : Int → jMI → Prop) : Prop := CG X yX12_in cX12_in 6 (some .boolean) 0 0 0 As I RF 124 (jQi q)
abbrev S_X12_in (X : jX) (pc : Nat) (L : List (Option jV)) (st : List jV) (I : jMI) (q : Int → jMI → Prop) : Prop := J X RX12 "in" cX12_in 6 (some .boolean) 0 0 0 pc L st I RF 124 (jQi q)
abbrev C_X12_isMinute (X : jX) (As : List jV) (I : jMI) (q : Int → jMI → Prop) : Prop := CG X yX12_isMinute cX12_isMinute 1 (some .boolean) 1 0 0 As I RF 124 (jQi q)
abbrev S_X12_isMinute (X : jX) (pc : Nat) (L : List (Option jV)) (st : List jV) (I : jMI) (q : Int → jMI → Prop) : Prop := J X RX12 "isMinute" cX12_isMinute 1 (some .boolean) 1 0 0 pc L st I RF 124 (jQi q)
abbrev C_X12_isQuiet (X : jX) (As : List jV) (I : jMI) (q : Int → jMI → Prop) : Prop := CG X yX12_isQuiet cX12_isQuiet 4 (some .boolean) 4 0 0 As I RF 124 (jQi q)
abbrev S_X12_isQuiet (X : jX) (pc : Nat) (L : List (Option jV)) (st : List jV) (I : jMI) (q : Int → jMI → Prop) : Prop := J X RX12 "isQuiet" cX12_isQuiet 4 (some .boolean) 4 0 0 pc L st I RF 124 (jQi q)
abbrev C_X12_isRoom (X : jX) (As : List jV) (I : jMI) (q : Int → jMI → Prop) : Prop := CG X yX12_isRoom cX12_isRoom 1 (some .boolean) 1 0 0 As I RF 124 (jQi q)
abbrev S_X12_isRoom (X : jX) (pc : Nat) (L : List (Option jV)) (st : List jV) (I : jMI) (q : Int → jMI → Prop) : Prop := J X RX12 "isRoom" cX12_isRoom 1 (some .boolean) 1 0 0 pc L st I RF 124 (jQi q)
abbrev C_X12_isSleeper (X : jX) (As : List jV) (I : jMI) (q : Int → jMI → Prop) : Prop := CG X yX12_isSleeper cX12_isSleeper 2 (some .boolean) 1 0 0 As I RF 124 (jQi q)
abbrev S_X12_isSleeper (X : jX) (pc : Nat) (L : List (Option jV)) (st : List jV) (I : jMI) (q : Int → jMI → Prop) : Prop := J X RX12 "isSleeper" cX12_isSleeper 2 (some .boolean) 1 0 0 pc L st I RF 124 (jQi q)
abbrev C_X12_isThing (X : jX) (As : List jV) (I : jMI) (q : Int → jMI → Prop) : Prop := CG X yX12_isThing cX12_isThing 2 (some .boolean) 1 0 0 As I RF 124 (jQi q)
abbrev S_X12_isThing (X : jX) (pc : Nat) (L : List (Option jV)) (st : List jV) (I : jMI) (q : Int → jMI → Prop) : Prop := J X RX12 "isThing" cX12_isThing 2 (some .boolean) 1 0 0 pc L st I RF 124 (jQi q)
abbrev C_X12_isWhat (X : jX) (As : List jV) (I : jMI) (q : Int → jMI → Prop) : Prop := CG X yX12_isWhat cX12_isWhat 1 (some .boolean) 1 0 0 As I RF 124 (jQi q)
abbrev S_X12_isWhat (X : jX) (pc : Nat) (L : List (Option jV)) (st : List jV) (I : jMI) (q : Int → jMI → Prop) : Prop := J X RX12 "isWhat" cX12_isWhat 1 (some .boolean) 1 0 0 pc L st I RF 124 (jQi q)
abbrev C_X12_isWord (X : jX) (As : List jV) (I : jMI) (q : Int → jMI → Prop) : Prop := CG X yX12_isWord cX12_isWord 6 (some .boolean) 0 0 0 As I RF 124 (jQi q)
abbrev S_X12_isWord (X : jX) (pc : Nat) (L : List (Option jV)) (st : List jV) (I : jMI) (q : Int → jMI → Prop) : Prop := J X RX12 "isWord" cX12_isWord 6 (some .boolean) 0 0 0 pc L st I RF 124 (jQi q)
abbrev C_X12_lastOwner (X : jX) (As : List jV) (I : jMI) (q : Int → jMI → Prop) : Prop := CG X yX12_lastOwner cX12_lastOwner 2 (some .int) 0 0 0 As I RF 124 (jQi q)
abbrev S_X12_lastOwner (X : jX) (pc : Nat) (L : List (Option jV)) (st : List jV) (I : jMI) (q : Int → jMI → Prop) : Prop := J X RX12 "lastOwner" cX12_lastOwner 2 (some .int) 0 0 0 pc L st I RF 124 (jQi q)
abbrev C_X12_listen (X : jX) (As : List jV) (I : jMI) (q : Int → jMI → Prop) : Prop := CG X yX12_listen cX12_listen 12 (some .int) 7 0 0 As I RF 124 (jQi q)
abbrev S_X12_listen (X : jX) (pc : Nat) (L : List (Option jV)) (st : List jV) (I : jMI) (q : Int → jMI → Prop) : Prop := J X RX12 "listen" cX12_listen 12 (some .int) 7 0 0 pc L st I RF 124 (jQi q)
abbrev C_X12_loud (X : jX) (As : List jV) (I : jMI) (q : Int → jMI → Prop) : Prop := CG X yX12_loud cX12_loud 5 (some .int) 4 0 0 As I RF 124 (jQi q)
abbrev S_X12_loud (X : jX) (pc : Nat) (L : List (Option jV)) (st : List jV) (I : jMI) (q : Int → jMI → Prop) : Prop := J X RX12 "loud" cX12_loud 5 (some .int) 4 0 0 pc L st I RF 124 (jQi q)
abbrev C_X12_may (X : jX) (As : List jV) (I : jMI) (q : Int → jMI → Prop) : Prop := CG X yX12_may cX12_may 4 (some .int) 7 0 0 As I RF 124 (jQi q)
abbrev S_X12_may (X : jX) (pc : Nat) (L : List (Option jV)) (st : List jV) (I : jMI) (q : Int → jMI → Prop) : Prop := J X RX12 "may" cX12_may 4 (some .int) 7 0 0 pc L st I RF 124 (jQi q)
abbrev C_X12_nextToken (X : jX) (As : List jV) (I : jMI) (q : jMI → Prop) : Prop := CG X yX12_nextToken cX12_nextToken 1 none 1 0 0 As I RF 124 (jQv q)
abbrev S_X12_nextToken (X : jX) (pc : Nat) (L : List (Option jV)) (st : List jV) (I : jMI) (q : jMI → Prop) : Prop := J X RX12 "nextToken" cX12_nextToken 1 none 1 0 0 pc L st I RF 124 (jQv q)
abbrev C_X12_nights (X : jX) (As : List jV) (I : jMI) (q : Int → jMI → Prop) : Prop := CG X yX12_nights cX12_nights 8 (some .int) 5 0 0 As I RF 124 (jQi q)
abbrev S_X12_nights (X : jX) (pc : Nat) (L : List (Option jV)) (st : List jV) (I : jMI) (q : Int → jMI → Prop) : Prop := J X RX12 "nights" cX12_nights 8 (some .int) 5 0 0 pc L st I RF 124 (jQi q)
abbrev C_X12_no (X : jX) (As : List jV) (I : jMI) (q : Int → jMI → Prop) : Prop := CG X yX12_no cX12_no 1 (some .int) 0 0 0 As I RF 124 (jQi q)
abbrev S_X12_no (X : jX) (pc : Nat) (L : List (Option jV)) (st : List jV) (I : jMI) (q : Int → jMI → Prop) : Prop := J X RX12 "no" cX12_no 1 (some .int) 0 0 0 pc L st I RF 124 (jQi q)
abbrev C_X12_note (X : jX) (As : List jV) (I : jMI) (q : jMI → Prop) : Prop := CG X yX12_note cX12_note 2 none 0 0 0 As I RF 124 (jQv q)
abbrev S_X12_note (X : jX) (pc : Nat) (L : List (Option jV)) (st : List jV) (I : jMI) (q : jMI → Prop) : Prop := J X RX12 "note" cX12_note 2 none 0 0 0 pc L st I RF 124 (jQv q)
abbrev C_X12_of (X : jX) (As : List jV) (I : jMI) (q : Int → jMI → Prop) : Prop := CG X yX12_of cX12_of 3 (some .int) 2 0 0 As I RF 124 (jQi q)
abbrev S_X12_of (X : jX) (pc : Nat) (L : List (Option jV)) (st : List jV) (I : jMI) (q : Int → jMI → Prop) : Prop := J X RX12 "of" cX12_of 3 (some .int) 2 0 0 pc L st I RF 124 (jQi q)
abbrev C_X12_ones (X : jX) (As : List jV) (I : jMI) (q : Int → jMI → Prop) : Prop := CG X yX12_ones cX12_ones 3 (some .int) 0 0 0 As I RF 124 (jQi q)
abbrev S_X12_ones (X : jX) (pc : Nat) (L : List (Option jV)) (st : List jV) (I : jMI) (q : Int → jMI → Prop) : Prop := J X RX12 "ones" cX12_ones 3 (some .int) 0 0 0 pc L st I RF 124 (jQi q)
abbrev C_X12_owed (X : jX) (As : List jV) (I : jMI) (q : Int → jMI → Prop) : Prop := CG X yX12_owed cX12_owed 5 (some .int) 1 0 0 As I RF 124 (jQi q)
abbrev S_X12_owed (X : jX) (pc : Nat) (L : List (Option jV)) (st : List jV) (I : jMI) (q : Int → jMI → Prop) : Prop := J X RX12 "owed" cX12_owed 5 (some .int) 1 0 0 pc L st I RF 124 (jQi q)
abbrev C_X12_owner (X : jX) (As : List jV) (I : jMI) (q : Int → jMI → Prop) : Prop := CG X yX12_owner cX12_owner 3 (some .int) 2 0 0 As I RF 124 (jQi q)
abbrev S_X12_owner (X : jX) (pc : Nat) (L : List (Option jV)) (st : List jV) (I : jMI) (q : Int → jMI → Prop) : Prop := J X RX12 "owner" cX12_owner 3 (some .int) 2 0 0 pc L st I RF 124 (jQi q)
abbrev C_X12_pairOf (X : jX) (As : List jV) (I : jMI) (q : Int → jMI → Prop) : Prop := CG X yX12_pairOf cX12_pairOf 4 (some .int) 0 0 0 As I RF 124 (jQi q)
abbrev S_X12_pairOf (X : jX) (pc : Nat) (L : List (Option jV)) (st : List jV) (I : jMI) (q : Int → jMI → Prop) : Prop := J X RX12 "pairOf" cX12_pairOf 4 (some .int) 0 0 0 pc L st I RF 124 (jQi q)
abbrev C_X12_part (X : jX) (As : List jV) (I : jMI) (q : Int → jMI → Prop) : Prop := CG X yX12_part cX12_part 2 (some .long) 1 0 0 As I RF 124 (jQl q)
abbrev S_X12_part (X : jX) (pc : Nat) (L : List (Option jV)) (st : List jV) (I : jMI) (q : Int → jMI → Prop) : Prop := J X RX12 "part" cX12_part 2 (some .long) 1 0 0 pc L st I RF 124 (jQl q)
abbrev C_X12_passes (X : jX) (As : List jV) (I : jMI) (q : jMI → Prop) : Prop := CG X yX12_passes cX12_passes 2 none 0 0 0 As I RF 124 (jQv q)
abbrev S_X12_passes (X : jX) (pc : Nat) (L : List (Option jV)) (st : List jV) (I : jMI) (q : jMI → Prop) : Prop := J X RX12 "passes" cX12_passes 2 none 0 0 0 pc L st I RF 124 (jQv q)
abbrev C_X12_read (X : jX) (As : List jV) (I : jMI) (q : Int → jMI → Prop) : Prop := CG X yX12_read cX12_read 1 (some .int) 5 0 0 As I RF 124 (jQi q)
abbrev S_X12_read (X : jX) (pc : Nat) (L : List (Option jV)) (st : List jV) (I : jMI) (q : Int → jMI → Prop) : Prop := J X RX12 "read" cX12_read 1 (some .int) 5 0 0 pc L st I RF 124 (jQi q)
abbrev C_X12_readItem (X : jX) (As : List jV) (I : jMI) (q : Int → jMI → Prop) : Prop := CG X yX12_readItem cX12_readItem 6 (some .boolean) 3 0 0 As I RF 124 (jQi q)
abbrev S_X12_readItem (X : jX) (pc : Nat) (L : List (Option jV)) (st : List jV) (I : jMI) (q : Int → jMI → Prop) : Prop := J X RX12 "readItem" cX12_readItem 6 (some .boolean) 3 0 0 pc L st I RF 124 (jQi q)
abbrev C_X12_readOwners (X : jX) (As : List jV) (I : jMI) (q : Int → jMI → Prop) : Prop := CG X yX12_readOwners cX12_readOwners 1 (some .boolean) 2 0 0 As I RF 124 (jQi q)
abbrev S_X12_readOwners (X : jX) (pc : Nat) (L : List (Option jV)) (st : List jV) (I : jMI) (q : Int → jMI → Prop) : Prop := J X RX12 "readOwners" cX12_readOwners 1 (some .boolean) 2 0 0 pc L st I RF 124 (jQi q)
abbrev C_X12_readText (X : jX) (As : List jV) (I : jMI) (q : Int → jMI → Prop) : Prop := CG X yX12_readText cX12_readText 3 (some .int) 4 0 0 As I RF 124 (jQi q)
abbrev S_X12_readText (X : jX) (pc : Nat) (L : List (Option jV)) (st : List jV) (I : jMI) (q : Int → jMI → Prop) : Prop := J X RX12 "readText" cX12_readText 3 (some .int) 4 0 0 pc L st I RF 124 (jQi q)
abbrev C_X12_reads (X : jX) (As : List jV) (I : jMI) (q : Int → jMI → Prop) : Prop := CG X yX12_reads cX12_reads 3 (some .boolean) 2 0 0 As I RF 124 (jQi q)
abbrev S_X12_reads (X : jX) (pc : Nat) (L : List (Option jV)) (st : List jV) (I : jMI) (q : Int → jMI → Prop) : Prop := J X RX12 "reads" cX12_reads 3 (some .boolean) 2 0 0 pc L st I RF 124 (jQi q)
abbrev C_X12_schedule (X : jX) (As : List jV) (I : jMI) (q : Int → jMI → Prop) : Prop := CG X yX12_schedule cX12_schedule 5 (some .int) 6 0 0 As I RF 124 (jQi q)
abbrev S_X12_schedule (X : jX) (pc : Nat) (L : List (Option jV)) (st : List jV) (I : jMI) (q : Int → jMI → Prop) : Prop := J X RX12 "schedule" cX12_schedule 5 (some .int) 6 0 0 pc L st I RF 124 (jQi q)
abbrev C_X12_setFraction (X : jX) (As : List jV) (I : jMI) (q : jMI → Prop) : Prop := CG X yX12_setFraction cX12_setFraction 11 none 0 0 0 As I RF 124 (jQv q)
abbrev S_X12_setFraction (X : jX) (pc : Nat) (L : List (Option jV)) (st : List jV) (I : jMI) (q : jMI → Prop) : Prop := J X RX12 "setFraction" cX12_setFraction 11 none 0 0 0 pc L st I RF 124 (jQv q)
abbrev C_X12_sleeper (X : jX) (As : List jV) (I : jMI) (q : Int → jMI → Prop) : Prop := CG X yX12_sleeper cX12_sleeper 4 (some .int) 2 0 0 As I RF 124 (jQi q)
abbrev S_X12_sleeper (X : jX) (pc : Nat) (L : List (Option jV)) (st : List jV) (I : jMI) (q : Int → jMI → Prop) : Prop := J X RX12 "sleeper" cX12_sleeper 4 (some .int) 2 0 0 pc L st I RF 124 (jQi q)
abbrev C_X12_softest (X : jX) (As : List jV) (I : jMI) (q : Int → jMI → Prop) : Prop := CG X yX12_softest cX12_softest 8 (some .int) 2 0 0 As I RF 124 (jQi q)
abbrev S_X12_softest (X : jX) (pc : Nat) (L : List (Option jV)) (st : List jV) (I : jMI) (q : Int → jMI → Prop) : Prop := J X RX12 "softest" cX12_softest 8 (some .int) 2 0 0 pc L st I RF 124 (jQi q)
abbrev C_X12_spelt (X : jX) (As : List jV) (I : jMI) (q : Int → jMI → Prop) : Prop := CG X yX12_spelt cX12_spelt 9 (some .long) 0 0 0 As I RF 124 (jQl q)
abbrev S_X12_spelt (X : jX) (pc : Nat) (L : List (Option jV)) (st : List jV) (I : jMI) (q : Int → jMI → Prop) : Prop := J X RX12 "spelt" cX12_spelt 9 (some .long) 0 0 0 pc L st I RF 124 (jQl q)
abbrev C_X12_stair (X : jX) (As : List jV) (I : jMI) (q : Int → jMI → Prop) : Prop := CG X yX12_stair cX12_stair 5 (some .int) 2 0 0 As I RF 124 (jQi q)
abbrev S_X12_stair (X : jX) (pc : Nat) (L : List (Option jV)) (st : List jV) (I : jMI) (q : Int → jMI → Prop) : Prop := J X RX12 "stair" cX12_stair 5 (some .int) 2 0 0 pc L st I RF 124 (jQi q)
abbrev C_X12_status (X : jX) (As : List jV) (I : jMI) (q : Int → jMI → Prop) : Prop := CG X yX12_status cX12_status 2 (some .int) 1 0 0 As I RF 124 (jQi q)
abbrev S_X12_status (X : jX) (pc : Nat) (L : List (Option jV)) (st : List jV) (I : jMI) (q : Int → jMI → Prop) : Prop := J X RX12 "status" cX12_status 2 (some .int) 1 0 0 pc L st I RF 124 (jQi q)
abbrev C_X12_step (X : jX) (As : List jV) (I : jMI) (q : Int → jMI → Prop) : Prop := CG X yX12_step cX12_step 4 (some .int) 5 0 0 As I RF 124 (jQi q)
abbrev S_X12_step (X : jX) (pc : Nat) (L : List (Option jV)) (st : List jV) (I : jMI) (q : Int → jMI → Prop) : Prop := J X RX12 "step" cX12_step 4 (some .int) 5 0 0 pc L st I RF 124 (jQi q)
abbrev C_X12_thing (X : jX) (As : List jV) (I : jMI) (q : Int → jMI → Prop) : Prop := CG X yX12_thing cX12_thing 2 (some .int) 2 0 0 As I RF 124 (jQi q)
abbrev S_X12_thing (X : jX) (pc : Nat) (L : List (Option jV)) (st : List jV) (I : jMI) (q : Int → jMI → Prop) : Prop := J X RX12 "thing" cX12_thing 2 (some .int) 2 0 0 pc L st I RF 124 (jQi q)
abbrev C_X12_took (X : jX) (As : List jV) (I : jMI) (q : Int → jMI → Prop) : Prop := CG X yX12_took cX12_took 2 (some .int) 2 0 0 As I RF 124 (jQi q)
abbrev S_X12_took (X : jX) (pc : Nat) (L : List (Option jV)) (st : List jV) (I : jMI) (q : Int → jMI → Prop) : Prop := J X RX12 "took" cX12_took 2 (some .int) 2 0 0 pc L st I RF 124 (jQi q)
abbrev C_X12_type (X : jX) (As : List jV) (I : jMI) (q : Int → jMI → Prop) : Prop := CG X yX12_type cX12_type 2 (some .int) 1 0 0 As I RF 124 (jQi q)
abbrev S_X12_type (X : jX) (pc : Nat) (L : List (Option jV)) (st : List jV) (I : jMI) (q : Int → jMI → Prop) : Prop := J X RX12 "type" cX12_type 2 (some .int) 1 0 0 pc L st I RF 124 (jQi q)
abbrev C_X12_undo (X : jX) (As : List jV) (I : jMI) (q : Int → jMI → Prop) : Prop := CG X yX12_undo cX12_undo 2 (some .int) 1 0 0 As I RF 124 (jQi q)
abbrev S_X12_undo (X : jX) (pc : Nat) (L : List (Option jV)) (st : List jV) (I : jMI) (q : Int → jMI → Prop) : Prop := J X RX12 "undo" cX12_undo 2 (some .int) 1 0 0 pc L st I RF 124 (jQi q)
abbrev C_X12_waits (X : jX) (As : List jV) (I : jMI) (q : Int → jMI → Prop) : Prop := CG X yX12_waits cX12_waits 2 (some .int) 1 0 0 As I RF 124 (jQi q)
abbrev S_X12_waits (X : jX) (pc : Nat) (L : List (Option jV)) (st : List jV) (I : jMI) (q : Int → jMI → Prop) : Prop := J X RX12 "waits" cX12_waits 2 (some .int) 1 0 0 pc L st I RF 124 (jQi q)
abbrev C_X12_wakes (X : jX) (As : List jV) (I : jMI) (q : Int → jMI → Prop) : Prop := CG X yX12_wakes cX12_wakes 4 (some .int) 4 0 0 As I RF 124 (jQi q)
abbrev S_X12_wakes (X : jX) (pc : Nat) (L : List (Option jV)) (st : List jV) (I : jMI) (q : Int → jMI → Prop) : Prop := J X RX12 "wakes" cX12_wakes 4 (some .int) 4 0 0 pc L st I RF 124 (jQi q)
abbrev C_X12_wakesBy (X : jX) (As : List jV) (I : jMI) (q : Int → jMI → Prop) : Prop := CG X yX12_wakesBy cX12_wakesBy 7 (some .int) 3 0 0 As I RF 124 (jQi q)
abbrev S_X12_wakesBy (X : jX) (pc : Nat) (L : List (Option jV)) (st : List jV) (I : jMI) (q : Int → jMI → Prop) : Prop := J X RX12 "wakesBy" cX12_wakesBy 7 (some .int) 3 0 0 pc L st I RF 124 (jQi q)
abbrev C_X12_wakesFrom (X : jX) (As : List jV) (I : jMI) (q : Int → jMI → Prop) : Prop := CG X yX12_wakesFrom cX12_wakesFrom 7 (some .int) 0 0 0 As I RF 124 (jQi q)
abbrev S_X12_wakesFrom (X : jX) (pc : Nat) (L : List (Option jV)) (st : List jV) (I : jMI) (q : Int → jMI → Prop) : Prop := J X RX12 "wakesFrom" cX12_wakesFrom 7 (some .int) 0 0 0 pc L st I RF 124 (jQi q)
abbrev C_X12_way (X : jX) (As : List jV) (I : jMI) (q : Int → jMI → Prop) : Prop := CG X yX12_way cX12_way 7 (some .int) 7 0 0 As I RF 124 (jQi q)
abbrev S_X12_way (X : jX) (pc : Nat) (L : List (Option jV)) (st : List jV) (I : jMI) (q : Int → jMI → Prop) : Prop := J X RX12 "way" cX12_way 7 (some .int) 7 0 0 pc L st I RF 124 (jQi q)
abbrev C_X12_ways (X : jX) (As : List jV) (I : jMI) (q : Int → jMI → Prop) : Prop := CG X yX12_ways cX12_ways 1 (some .long) 7 0 0 As I RF 124 (jQl q)
abbrev S_X12_ways (X : jX) (pc : Nat) (L : List (Option jV)) (st : List jV) (I : jMI) (q : Int → jMI → Prop) : Prop := J X RX12 "ways" cX12_ways 1 (some .long) 7 0 0 pc L st I RF 124 (jQl q)
abbrev C_X12_where (X : jX) (As : List jV) (I : jMI) (q : Int → jMI → Prop) : Prop := CG X yX12_where cX12_where 2 (some .int) 1 0 0 As I RF 124 (jQi q)
abbrev S_X12_where (X : jX) (pc : Nat) (L : List (Option jV)) (st : List jV) (I : jMI) (q : Int → jMI → Prop) : Prop := J X RX12 "where" cX12_where 2 (some .int) 1 0 0 pc L st I RF 124 (jQi q)
abbrev C_J6_bitCount_0f7a4 (X : jX) (As : List jV) (I : jMI) (q : Int → jMI → Prop) : Prop := CG X yJ6_bitCount_0f7a4 cJ6_bitCount_0f7a4 1 (some .int) 0 0 0 As I RF 124 (jQi q)
abbrev S_J6_bitCount_0f7a4 (X : jX) (pc : Nat) (L : List (Option jV)) (st : List jV) (I : jMI) (q : Int → jMI → Prop) : Prop := J X RJ6 "bitCount" cJ6_bitCount_0f7a4 1 (some .int) 0 0 0 pc L st I RF 124 (jQi q)
abbrev C_J9_max_f86c9 (X : jX) (As : List jV) (I : jMI) (q : Int → jMI → Prop) : Prop := CG X yJ9_max_f86c9 cJ9_max_f86c9 4 (some .long) 0 0 0 As I RF 124 (jQl q)
abbrev S_J9_max_f86c9 (X : jX) (pc : Nat) (L : List (Option jV)) (st : List jV) (I : jMI) (q : Int → jMI → Prop) : Prop := J X RJ9 "max" cJ9_max_f86c9 4 (some .long) 0 0 0 pc L st I RF 124 (jQl q)
abbrev C_J9_min_7cf53 (X : jX) (As : List jV) (I : jMI) (q : Int → jMI → Prop) : Prop := CG X yJ9_min_7cf53 cJ9_min_7cf53 2 (some .int) 0 0 0 As I RF 124 (jQi q)
abbrev S_J9_min_7cf53 (X : jX) (pc : Nat) (L : List (Option jV)) (st : List jV) (I : jMI) (q : Int → jMI → Prop) : Prop := J X RJ9 "min" cJ9_min_7cf53 2 (some .int) 0 0 0 pc L st I RF 124 (jQi q)
abbrev C_J0_charAt_5068e (X : jX) (As : List jV) (I : jMI) (q : Int → jMI → Prop) : Prop := CG X yJ0_charAt_5068e cJ0_charAt_5068e 2 (some .char) 4 0 0 As I RF 124 (jQi q)
abbrev S_J0_charAt_5068e (X : jX) (pc : Nat) (L : List (Option jV)) (st : List jV) (I : jMI) (q : Int → jMI → Prop) : Prop := J X RJ0 "charAt" cJ0_charAt_5068e 2 (some .char) 4 0 0 pc L st I RF 124 (jQi q)
abbrev C_J0_checkIndex_df160 (X : jX) (As : List jV) (I : jMI) (q : jMI → Prop) : Prop := CG X yJ0_checkIndex_df160 cJ0_checkIndex_df160 2 none 1 0 0 As I RF 124 (jQv q)
abbrev S_J0_checkIndex_df160 (X : jX) (pc : Nat) (L : List (Option jV)) (st : List jV) (I : jMI) (q : jMI → Prop) : Prop := J X RJ0 "checkIndex" cJ0_checkIndex_df160 2 none 1 0 0 pc L st I RF 124 (jQv q)
abbrev C_J0_coder_7d493 (X : jX) (As : List jV) (I : jMI) (q : Int → jMI → Prop) : Prop := CG X yJ0_coder_7d493 cJ0_coder_7d493 1 (some .byte) 0 0 0 As I RF 124 (jQi q)
abbrev S_J0_coder_7d493 (X : jX) (pc : Nat) (L : List (Option jV)) (st : List jV) (I : jMI) (q : Int → jMI → Prop) : Prop := J X RJ0 "coder" cJ0_coder_7d493 1 (some .byte) 0 0 0 pc L st I RF 124 (jQi q)
abbrev C_J0_isLatin1_aae02 (X : jX) (As : List jV) (I : jMI) (q : Int → jMI → Prop) : Prop := CG X yJ0_isLatin1_aae02 cJ0_isLatin1_aae02 1 (some .boolean) 0 0 0 As I RF 124 (jQi q)
abbrev S_J0_isLatin1_aae02 (X : jX) (pc : Nat) (L : List (Option jV)) (st : List jV) (I : jMI) (q : Int → jMI → Prop) : Prop := J X RJ0 "isLatin1" cJ0_isLatin1_aae02 1 (some .boolean) 0 0 0 pc L st I RF 124 (jQi q)
abbrev C_J0_length_8abf5 (X : jX) (As : List jV) (I : jMI) (q : Int → jMI → Prop) : Prop := CG X yJ0_length_8abf5 cJ0_length_8abf5 1 (some .int) 1 0 0 As I RF 124 (jQi q)
abbrev S_J0_length_8abf5 (X : jX) (pc : Nat) (L : List (Option jV)) (st : List jV) (I : jMI) (q : Int → jMI → Prop) : Prop := J X RJ0 "length" cJ0_length_8abf5 1 (some .int) 1 0 0 pc L st I RF 124 (jQi q)
abbrev C_J1_charAt_3b067 (X : jX) (As : List jV) (I : jMI) (q : Int → jMI → Prop) : Prop := CG X yJ1_charAt_3b067 cJ1_charAt_3b067 2 (some .char) 2 0 0 As I RF 124 (jQi q)
abbrev S_J1_charAt_3b067 (X : jX) (pc : Nat) (L : List (Option jV)) (st : List jV) (I : jMI) (q : Int → jMI → Prop) : Prop := J X RJ1 "charAt" cJ1_charAt_3b067 2 (some .char) 2 0 0 pc L st I RF 124 (jQi q)
abbrev C_J2_charAt_3b067 (X : jX) (As : List jV) (I : jMI) (q : Int → jMI → Prop) : Prop := CG X yJ2_charAt_3b067 cJ2_charAt_3b067 2 (some .char) 3 0 0 As I RF 124 (jQi q)
abbrev S_J2_charAt_3b067 (X : jX) (pc : Nat) (L : List (Option jV)) (st : List jV) (I : jMI) (q : Int → jMI → Prop) : Prop := J X RJ2 "charAt" cJ2_charAt_3b067 2 (some .char) 3 0 0 pc L st I RF 124 (jQi q)
abbrev C_J2_checkIndex_2214a (X : jX) (As : List jV) (I : jMI) (q : jMI → Prop) : Prop := CG X yJ2_checkIndex_2214a cJ2_checkIndex_2214a 2 none 2 0 0 As I RF 124 (jQv q)
abbrev S_J2_checkIndex_2214a (X : jX) (pc : Nat) (L : List (Option jV)) (st : List jV) (I : jMI) (q : jMI → Prop) : Prop := J X RJ2 "checkIndex" cJ2_checkIndex_2214a 2 none 2 0 0 pc L st I RF 124 (jQv q)
abbrev C_J2_getChar_3b067 (X : jX) (As : List jV) (I : jMI) (q : Int → jMI → Prop) : Prop := CG X yJ2_getChar_3b067 cJ2_getChar_3b067 2 (some .char) 1 0 0 As I RF 124 (jQi q)
abbrev S_J2_getChar_3b067 (X : jX) (pc : Nat) (L : List (Option jV)) (st : List jV) (I : jMI) (q : Int → jMI → Prop) : Prop := J X RJ2 "getChar" cJ2_getChar_3b067 2 (some .char) 1 0 0 pc L st I RF 124 (jQi q)
abbrev C_J2_length_9d52b (X : jX) (As : List jV) (I : jMI) (q : Int → jMI → Prop) : Prop := CG X yJ2_length_9d52b cJ2_length_9d52b 1 (some .int) 0 0 0 As I RF 124 (jQi q)
abbrev S_J2_length_9d52b (X : jX) (pc : Nat) (L : List (Option jV)) (st : List jV) (I : jMI) (q : Int → jMI → Prop) : Prop := J X RJ2 "length" cJ2_length_9d52b 1 (some .int) 0 0 0 pc L st I RF 124 (jQi q)
abbrev C_J3_checkIndex_8e157 (X : jX) (As : List jV) (I : jMI) (q : Int → jMI → Prop) : Prop := CG X yJ3_checkIndex_8e157 cJ3_checkIndex_8e157 3 (some .int) 0 0 0 As I RF 124 (jQi q)
abbrev S_J3_checkIndex_8e157 (X : jX) (pc : Nat) (L : List (Option jV)) (st : List jV) (I : jMI) (q : Int → jMI → Prop) : Prop := J X RJ3 "checkIndex" cJ3_checkIndex_8e157 3 (some .int) 0 0 0 pc L st I RF 124 (jQi q)
