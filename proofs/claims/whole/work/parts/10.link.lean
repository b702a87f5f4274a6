/-! ===== printed: links ===== -/
set_option maxRecDepth 20000 in
theorem lk_X0_3 : Cond.methodLink RX0 3 Lib.objectInit ∈ zw := zm1 154 rfl rfl
set_option maxRecDepth 20000 in
theorem lk_X0_9 : Cond.classLink RX0 9 "DiscCutter$Side" ∈ zw := zm1 155 rfl rfl
set_option maxRecDepth 20000 in
theorem lk_X0_11 : ZL RX0 11 0 0 := ⟨by decide, by decide, zm1 156 rfl rfl⟩
set_option maxRecDepth 20000 in
theorem lk_X0_17 : ZL RX0 17 0 1 := ⟨by decide, by decide, zm1 157 rfl rfl⟩
set_option maxRecDepth 20000 in
theorem lk_X0_21 : ZL RX0 21 0 2 := ⟨by decide, by decide, zm1 158 rfl rfl⟩
set_option maxRecDepth 20000 in
theorem lk_X0_25 : ZL RX0 25 0 3 := ⟨by decide, by decide, zm1 159 rfl rfl⟩
set_option maxRecDepth 20000 in
theorem lk_X0_28 : ZL RX0 28 0 4 := ⟨by decide, by decide, zm1 160 rfl rfl⟩
set_option maxRecDepth 20000 in
theorem lk_X0_32 : ZL RX0 32 0 5 := ⟨by decide, by decide, zm1 161 rfl rfl⟩
set_option maxRecDepth 20000 in
theorem lk_X0_35 : ZL RX0 35 0 9 := ⟨by decide, by decide, zm1 165 rfl rfl⟩
set_option maxRecDepth 20000 in
theorem lk_X0_39 : ZL RX0 39 7 4 := ⟨by decide, by decide, zm1 118 rfl rfl⟩
set_option maxRecDepth 20000 in
theorem lk_X0_42 : ZV RX0 42 mX0_placeOf 2 := ⟨kc_X0_placeOf, zm5 3 rfl rfl, zm5 4 rfl rfl, zm5 5 rfl rfl⟩
set_option maxRecDepth 20000 in
theorem lk_X0_46 : ZL RX0 46 7 1 := ⟨by decide, by decide, zm1 111 rfl rfl⟩
set_option maxRecDepth 20000 in
theorem lk_X0_49 : ZL RX0 49 7 6 := ⟨by decide, by decide, zm1 127 rfl rfl⟩
set_option maxRecDepth 20000 in
theorem lk_X0_52 : ZL RX0 52 4 2 := ⟨by decide, by decide, zm1 93 rfl rfl⟩
set_option maxRecDepth 20000 in
theorem lk_X0_55 : ZV RX0 55 mX0_layOut 0 := ⟨kc_X0_layOut, zm4 229 rfl rfl, zm4 231 rfl rfl, zms 21 rfl⟩
set_option maxRecDepth 20000 in
theorem lk_X0_59 : ZL RX0 59 0 10 := ⟨by decide, by decide, zm1 166 rfl rfl⟩
set_option maxRecDepth 20000 in
theorem lk_X0_63 : ZL RX0 63 0 6 := ⟨by decide, by decide, zm1 162 rfl rfl⟩
set_option maxRecDepth 20000 in
theorem lk_X0_66 : ZL RX0 66 0 7 := ⟨by decide, by decide, zm1 163 rfl rfl⟩
set_option maxRecDepth 20000 in
theorem lk_X0_69 : ZTN RX0 69 mX11_clear 1 := ⟨kc_X11_clear, by decide +kernel, zm4 179 rfl rfl⟩
set_option maxRecDepth 20000 in
theorem lk_X0_73 : Cond.methodLink RX0 73 Lib.Math.max.name ∈ zw := zm4 234 rfl rfl
set_option maxRecDepth 20000 in
theorem lk_X0_78 : ZV RX0 78 mX0_addNewest 2 := ⟨kc_X0_addNewest, zm4 235 rfl rfl, zm4 237 rfl rfl, zms 22 rfl⟩
set_option maxRecDepth 20000 in
theorem lk_X0_82 : ZL RX0 82 0 8 := ⟨by decide, by decide, zm1 164 rfl rfl⟩
set_option maxRecDepth 20000 in
theorem lk_X0_85 : ZV RX0 85 mX0_askedFor 2 := ⟨kc_X0_askedFor, zm4 239 rfl rfl, zm5 1 rfl rfl, zms 23 rfl⟩
set_option maxRecDepth 20000 in
theorem lk_X0_88 : ZV RX0 88 mX0_enqueue 1 := ⟨kc_X0_enqueue, zm5 12 rfl rfl, zm5 14 rfl rfl, zms 25 rfl⟩
set_option maxRecDepth 20000 in
theorem lk_X0_92 : Cond.constant RX0 92 (1000000) ∈ zw := zm5 16 rfl rfl
set_option maxRecDepth 20000 in
theorem lk_X0_93 : ZV RX0 93 mX0_dequeue 0 := ⟨kc_X0_dequeue, zm5 17 rfl rfl, zm5 19 rfl rfl, zms 26 rfl⟩
set_option maxRecDepth 20000 in
theorem lk_X0_97 : ZV RX0 97 mX0_passOn 2 := ⟨kc_X0_passOn, zm5 21 rfl rfl, zm5 23 rfl rfl, zms 27 rfl⟩
set_option maxRecDepth 20000 in
theorem lk_X0_100 : ZV RX0 100 mX0_edgeOf 2 := ⟨kc_X0_edgeOf, zm5 7 rfl rfl, zm5 9 rfl rfl, zms 24 rfl⟩
set_option maxRecDepth 20000 in
theorem lk_X0_103 : ZTN RX0 103 mX11_within 3 := ⟨kc_X11_within, by decide +kernel, zm3 34 rfl rfl⟩
set_option maxRecDepth 20000 in
theorem lk_X0_107 : ZL RX0 107 4 0 := ⟨by decide, by decide, zm1 87 rfl rfl⟩
set_option maxRecDepth 20000 in
theorem lk_X0_110 : ZL RX0 110 4 1 := ⟨by decide, by decide, zm1 90 rfl rfl⟩
set_option maxRecDepth 20000 in
theorem lk_X0_113 : ZV RX0 113 mX0_lift 3 := ⟨kc_X0_lift, zm5 25 rfl rfl, zm5 27 rfl rfl, zms 28 rfl⟩
set_option maxRecDepth 20000 in
theorem lk_X0_116 : ZV RX0 116 mX0_liftBehind 3 := ⟨kc_X0_liftBehind, zm5 33 rfl rfl, zm5 35 rfl rfl, zms 30 rfl⟩
set_option maxRecDepth 20000 in
theorem lk_X0_119 : ZV RX0 119 mX0_isKnown 2 := ⟨kc_X0_isKnown, zm5 29 rfl rfl, zm5 31 rfl rfl, zms 29 rfl⟩
set_option maxRecDepth 20000 in
theorem lk_X1_3 : Cond.methodLink RX1 3 Lib.objectInit ∈ zw := zm1 221 rfl rfl
set_option maxRecDepth 20000 in
theorem lk_X1_9 : ZL RX1 9 1 0 := ⟨by decide, by decide, zm1 222 rfl rfl⟩
set_option maxRecDepth 20000 in
theorem lk_X1_15 : ZL RX1 15 1 1 := ⟨by decide, by decide, zm1 223 rfl rfl⟩
set_option maxRecDepth 20000 in
theorem lk_X1_18 : ZL RX1 18 1 2 := ⟨by decide, by decide, zm1 224 rfl rfl⟩
set_option maxRecDepth 20000 in
theorem lk_X1_21 : ZL RX1 21 1 3 := ⟨by decide, by decide, zm1 225 rfl rfl⟩
set_option maxRecDepth 20000 in
theorem lk_X1_25 : ZL RX1 25 1 4 := ⟨by decide, by decide, zm1 227 rfl rfl⟩
set_option maxRecDepth 20000 in
theorem lk_X1_28 : ZV RX1 28 mX1_walk 3 := ⟨kc_X1_walk, zm4 108 rfl rfl, zm4 110 rfl rfl, zms 15 rfl⟩
set_option maxRecDepth 20000 in
theorem lk_X1_32 : ZT RX1 32 mJ6_bitCount_0f7a4 1 := ⟨kc_J6_bitCount_0f7a4, zm4 113 rfl rfl, zm4 114 rfl rfl⟩
set_option maxRecDepth 20000 in
theorem lk_X1_38 : ZV RX1 38 mX1_isFirst 2 := ⟨kc_X1_isFirst, zm4 119 rfl rfl, zm4 121 rfl rfl, zms 16 rfl⟩
set_option maxRecDepth 20000 in
theorem lk_X1_42 : ZL RX1 42 1 5 := ⟨by decide, by decide, zm1 229 rfl rfl⟩
set_option maxRecDepth 20000 in
theorem lk_X1_45 : ZL RX1 45 1 6 := ⟨by decide, by decide, zm1 231 rfl rfl⟩
set_option maxRecDepth 20000 in
theorem lk_X1_48 : ZL RX1 48 1 7 := ⟨by decide, by decide, zm1 233 rfl rfl⟩
set_option maxRecDepth 20000 in
theorem lk_X1_51 : ZV RX1 51 mX1_find 2 := ⟨kc_X1_find, zm4 112 rfl rfl, zm4 89 rfl rfl, zm4 90 rfl rfl⟩
set_option maxRecDepth 20000 in
theorem lk_X1_55 : ZT RX1 55 mX1_fewest 4 := ⟨kc_X1_fewest, zm4 135 rfl rfl, zm4 136 rfl rfl⟩
set_option maxRecDepth 20000 in
theorem lk_X1_59 : Cond.methodLink RX1 59 Lib.Math.min.name ∈ zw := zm4 138 rfl rfl
set_option maxRecDepth 20000 in
theorem lk_X1_64 : ZT RX1 64 mJ6_numberOfTrailingZeros_0f7a4 1 := ⟨kc_J6_numberOfTrailingZeros_0f7a4, zm4 139 rfl rfl, zm4 140 rfl rfl⟩
set_option maxRecDepth 20000 in
theorem lk_X1_67 : ZT RX1 67 mX1_isVain 4 := ⟨kc_X1_isVain, zm4 143 rfl rfl, zm4 144 rfl rfl⟩
set_option maxRecDepth 20000 in
theorem lk_X2_3 : Cond.methodLink RX2 3 Lib.objectInit ∈ zw := zm2 17 rfl rfl
set_option maxRecDepth 20000 in
theorem lk_X2_9 : ZL RX2 9 2 0 := ⟨by decide, by decide, zm2 18 rfl rfl⟩
set_option maxRecDepth 20000 in
theorem lk_X2_15 : ZL RX2 15 2 1 := ⟨by decide, by decide, zm2 19 rfl rfl⟩
set_option maxRecDepth 20000 in
theorem lk_X2_18 : ZL RX2 18 2 2 := ⟨by decide, by decide, zm2 20 rfl rfl⟩
set_option maxRecDepth 20000 in
theorem lk_X2_22 : ZL RX2 22 2 3 := ⟨by decide, by decide, zm2 21 rfl rfl⟩
set_option maxRecDepth 20000 in
theorem lk_X2_26 : ZV RX2 26 mX2_follow 3 := ⟨kc_X2_follow, zm4 220 rfl rfl, zm4 175 rfl rfl, zm4 176 rfl rfl⟩
set_option maxRecDepth 20000 in
theorem lk_X2_30 : ZL RX2 30 7 4 := ⟨by decide, by decide, zm1 119 rfl rfl⟩
set_option maxRecDepth 20000 in
theorem lk_X2_33 : ZTN RX2 33 mX11_clear 1 := ⟨kc_X11_clear, by decide +kernel, zm4 179 rfl rfl⟩
set_option maxRecDepth 20000 in
theorem lk_X2_37 : ZL RX2 37 7 5 := ⟨by decide, by decide, zm1 123 rfl rfl⟩
set_option maxRecDepth 20000 in
theorem lk_X2_40 : ZV RX2 40 mX7_ringPlace 2 := ⟨kc_X7_ringPlace, zm4 181 rfl rfl, zm4 76 rfl rfl, zm4 77 rfl rfl⟩
set_option maxRecDepth 20000 in
theorem lk_X2_44 : ZV RX2 44 mX2_playOn 3 := ⟨kc_X2_playOn, zm4 182 rfl rfl, zm4 184 rfl rfl, zms 17 rfl⟩
set_option maxRecDepth 20000 in
theorem lk_X2_48 : ZV RX2 48 mX2_fallen 4 := ⟨kc_X2_fallen, zm4 191 rfl rfl, zm4 193 rfl rfl, zms 19 rfl⟩
set_option maxRecDepth 20000 in
theorem lk_X2_52 : ZV RX2 52 mX2_partAhead 3 := ⟨kc_X2_partAhead, zm4 186 rfl rfl, zm4 188 rfl rfl, zms 18 rfl⟩
set_option maxRecDepth 20000 in
theorem lk_X2_55 : ZV RX2 55 mX7_isLocked 0 := ⟨kc_X7_isLocked, zm4 190 rfl rfl, zm3 161 rfl rfl, zm3 162 rfl rfl⟩
set_option maxRecDepth 20000 in
theorem lk_X2_59 : ZV RX2 59 mX2_placeOf 3 := ⟨kc_X2_placeOf, zm4 195 rfl rfl, zm4 197 rfl rfl, zms 20 rfl⟩
set_option maxRecDepth 20000 in
theorem lk_X2_62 : Cond.methodLink RX2 62 Lib.Math.abs.name ∈ zw := zm4 199 rfl rfl
set_option maxRecDepth 20000 in
theorem lk_X2_68 : ZL RX2 68 7 3 := ⟨by decide, by decide, zm1 115 rfl rfl⟩
set_option maxRecDepth 20000 in
theorem lk_X3_3 : Cond.methodLink RX3 3 Lib.objectInit ∈ zw := zm1 196 rfl rfl
set_option maxRecDepth 20000 in
theorem lk_X3_9 : ZL RX3 9 3 0 := ⟨by decide, by decide, zm1 197 rfl rfl⟩
set_option maxRecDepth 20000 in
theorem lk_X3_15 : ZL RX3 15 3 3 := ⟨by decide, by decide, zm1 203 rfl rfl⟩
set_option maxRecDepth 20000 in
theorem lk_X3_19 : ZL RX3 19 3 1 := ⟨by decide, by decide, zm1 199 rfl rfl⟩
set_option maxRecDepth 20000 in
theorem lk_X3_22 : ZV RX3 22 mX3_sideIn 2 := ⟨kc_X3_sideIn, zm4 45 rfl rfl, zm4 46 rfl rfl, zm4 47 rfl rfl⟩
set_option maxRecDepth 20000 in
theorem lk_X3_26 : ZL RX3 26 8 3 := ⟨by decide, by decide, zm1 68 rfl rfl⟩
set_option maxRecDepth 20000 in
theorem lk_X3_31 : ZL RX3 31 3 4 := ⟨by decide, by decide, zm1 204 rfl rfl⟩
set_option maxRecDepth 20000 in
theorem lk_X3_34 : ZV RX3 34 mX3_putInSequence 1 := ⟨kc_X3_putInSequence, zm4 30 rfl rfl, zm4 32 rfl rfl, zms 12 rfl⟩
set_option maxRecDepth 20000 in
theorem lk_X3_38 : ZV RX3 38 mX3_chooseSides 1 := ⟨kc_X3_chooseSides, zm4 37 rfl rfl, zm4 39 rfl rfl, zms 13 rfl⟩
set_option maxRecDepth 20000 in
theorem lk_X3_41 : ZL RX3 41 3 2 := ⟨by decide, by decide, zm1 201 rfl rfl⟩
set_option maxRecDepth 20000 in
theorem lk_X3_44 : ZT RX3 44 mX3_comesAhead 3 := ⟨kc_X3_comesAhead, zm4 34 rfl rfl, zm4 35 rfl rfl⟩
set_option maxRecDepth 20000 in
theorem lk_X3_48 : ZL RX3 48 8 2 := ⟨by decide, by decide, zm1 65 rfl rfl⟩
set_option maxRecDepth 20000 in
theorem lk_X3_51 : ZL RX3 51 8 1 := ⟨by decide, by decide, zm1 60 rfl rfl⟩
set_option maxRecDepth 20000 in
theorem lk_X3_54 : ZV RX3 54 mX3_lossOf 2 := ⟨kc_X3_lossOf, zm4 41 rfl rfl, zm4 43 rfl rfl, zms 14 rfl⟩
set_option maxRecDepth 20000 in
theorem lk_X4_1 : Cond.methodLink RX4 1 Lib.objectInit ∈ zw := zm1 85 rfl rfl
set_option maxRecDepth 20000 in
theorem lk_X4_7 : ZL RX4 7 4 0 := ⟨by decide, by decide, zm1 86 rfl rfl⟩
set_option maxRecDepth 20000 in
theorem lk_X4_13 : ZL RX4 13 4 1 := ⟨by decide, by decide, zm1 89 rfl rfl⟩
set_option maxRecDepth 20000 in
theorem lk_X4_16 : ZL RX4 16 4 2 := ⟨by decide, by decide, zm1 92 rfl rfl⟩
set_option maxRecDepth 20000 in
theorem lk_X5_3 : Cond.methodLink RX5 3 Lib.objectInit ∈ zw := zm2 37 rfl rfl
set_option maxRecDepth 20000 in
theorem lk_X5_9 : ZL RX5 9 5 0 := ⟨by decide, by decide, zm2 43 rfl rfl⟩
set_option maxRecDepth 20000 in
theorem lk_X5_15 : ZL RX5 15 5 1 := ⟨by decide, by decide, zm2 44 rfl rfl⟩
set_option maxRecDepth 20000 in
theorem lk_X5_19 : Cond.classLink RX5 19 "DiscCutter$Side" ∈ zw := zm2 38 rfl rfl
set_option maxRecDepth 20000 in
theorem lk_X5_21 : ZL RX5 21 5 2 := ⟨by decide, by decide, zm2 45 rfl rfl⟩
set_option maxRecDepth 20000 in
theorem lk_X5_24 : ZI RX5 24 mX7_init 1 := ⟨kc_X7_init, zm2 39 rfl rfl, zm1 106 rfl rfl, rfl, rfl⟩
set_option maxRecDepth 20000 in
theorem lk_X5_27 : ZL RX5 27 5 3 := ⟨by decide, by decide, zm2 46 rfl rfl⟩
set_option maxRecDepth 20000 in
theorem lk_X5_31 : ZL RX5 31 5 4 := ⟨by decide, by decide, zm2 48 rfl rfl⟩
set_option maxRecDepth 20000 in
theorem lk_X5_34 : ZL RX5 34 5 5 := ⟨by decide, by decide, zm2 50 rfl rfl⟩
set_option maxRecDepth 20000 in
theorem lk_X5_37 : ZL RX5 37 5 6 := ⟨by decide, by decide, zm2 51 rfl rfl⟩
set_option maxRecDepth 20000 in
theorem lk_X5_40 : ZT RX5 40 mJ7_fill_53178 2 := ⟨kc_J7_fill_53178, zm2 40 rfl rfl, zm2 41 rfl rfl⟩
set_option maxRecDepth 20000 in
theorem lk_X5_46 : ZL RX5 46 5 9 := ⟨by decide, by decide, zm2 54 rfl rfl⟩
set_option maxRecDepth 20000 in
theorem lk_X5_50 : ZL RX5 50 5 10 := ⟨by decide, by decide, zm2 56 rfl rfl⟩
set_option maxRecDepth 20000 in
theorem lk_X5_53 : ZV RX5 53 mX7_copyFrom 1 := ⟨kc_X7_copyFrom, zm5 211 rfl rfl, zm5 212 rfl rfl, zm5 213 rfl rfl⟩
set_option maxRecDepth 20000 in
theorem lk_X5_57 : ZV RX5 57 mX7_empty 0 := ⟨kc_X7_empty, zm5 216 rfl rfl, zm3 145 rfl rfl, zm3 146 rfl rfl⟩
set_option maxRecDepth 20000 in
theorem lk_X5_60 : ZV RX5 60 mX5_swapMarks 0 := ⟨kc_X5_swapMarks, zm5 217 rfl rfl, zm5 219 rfl rfl, zms 47 rfl⟩
set_option maxRecDepth 20000 in
theorem lk_X5_63 : ZV RX5 63 mX5_forgetMarks 0 := ⟨kc_X5_forgetMarks, zm5 221 rfl rfl, zm5 196 rfl rfl, zm5 197 rfl rfl⟩
set_option maxRecDepth 20000 in
theorem lk_X5_66 : ZL RX5 66 5 7 := ⟨by decide, by decide, zm2 52 rfl rfl⟩
set_option maxRecDepth 20000 in
theorem lk_X5_69 : ZL RX5 69 5 8 := ⟨by decide, by decide, zm2 53 rfl rfl⟩
set_option maxRecDepth 20000 in
theorem lk_X5_72 : ZL RX5 72 6 10 := ⟨by decide, by decide, zm2 170 rfl rfl⟩
set_option maxRecDepth 20000 in
theorem lk_X5_78 : ZV RX5 78 mX5_doSteps 2 := ⟨kc_X5_doSteps, zm5 222 rfl rfl, zm5 224 rfl rfl, zms 48 rfl⟩
set_option maxRecDepth 20000 in
theorem lk_X5_82 : ZV RX5 82 mX5_doStep 2 := ⟨kc_X5_doStep, zm5 226 rfl rfl, zm5 228 rfl rfl, zms 49 rfl⟩
set_option maxRecDepth 20000 in
theorem lk_X5_85 : ZL RX5 85 9 12 := ⟨by decide, by decide, zm2 129 rfl rfl⟩
set_option maxRecDepth 20000 in
theorem lk_X5_90 : ZV RX5 90 mX5_wrongWith 1 := ⟨kc_X5_wrongWith, zm5 230 rfl rfl, zm5 232 rfl rfl, zms 50 rfl⟩
set_option maxRecDepth 20000 in
theorem lk_X5_94 : ZL RX5 94 9 1 := ⟨by decide, by decide, zm2 97 rfl rfl⟩
set_option maxRecDepth 20000 in
theorem lk_X5_97 : ZL RX5 97 9 0 := ⟨by decide, by decide, zm2 95 rfl rfl⟩
set_option maxRecDepth 20000 in
theorem lk_X5_100 : ZL RX5 100 9 2 := ⟨by decide, by decide, zm2 99 rfl rfl⟩
set_option maxRecDepth 20000 in
theorem lk_X5_103 : ZL RX5 103 9 10 := ⟨by decide, by decide, zm2 123 rfl rfl⟩
set_option maxRecDepth 20000 in
theorem lk_X5_106 : ZV RX5 106 mX5_holds 1 := ⟨kc_X5_holds, zm6 15 rfl rfl, zm6 17 rfl rfl, zms 55 rfl⟩
set_option maxRecDepth 20000 in
theorem lk_X5_110 : ZL RX5 110 9 11 := ⟨by decide, by decide, zm2 126 rfl rfl⟩
set_option maxRecDepth 20000 in
theorem lk_X5_113 : ZV RX5 113 mX5_doPlain 1 := ⟨kc_X5_doPlain, zm6 21 rfl rfl, zm6 23 rfl rfl, zms 56 rfl⟩
set_option maxRecDepth 20000 in
theorem lk_X5_117 : ZV RX5 117 mX5_wrongWithLaying 2 := ⟨kc_X5_wrongWithLaying, zm5 234 rfl rfl, zm5 236 rfl rfl, zms 51 rfl⟩
set_option maxRecDepth 20000 in
theorem lk_X5_121 : ZV RX5 121 mX8_has 1 := ⟨kc_X8_has, zm6 0 rfl rfl, zm3 113 rfl rfl, zm3 114 rfl rfl⟩
set_option maxRecDepth 20000 in
theorem lk_X5_127 : ZV RX5 127 mX5_hasStretch 1 := ⟨kc_X5_hasStretch, zm6 1 rfl rfl, zm6 3 rfl rfl, zms 52 rfl⟩
set_option maxRecDepth 20000 in
theorem lk_X5_130 : ZV RX5 130 mX5_endOf 1 := ⟨kc_X5_endOf, zm6 9 rfl rfl, zm6 11 rfl rfl, zms 54 rfl⟩
set_option maxRecDepth 20000 in
theorem lk_X5_133 : ZV RX5 133 mX5_startOf 1 := ⟨kc_X5_startOf, zm6 5 rfl rfl, zm6 7 rfl rfl, zms 53 rfl⟩
set_option maxRecDepth 20000 in
theorem lk_X5_136 : ZV RX5 136 mX8_canRing 1 := ⟨kc_X8_canRing, zm6 13 rfl rfl, zm4 71 rfl rfl, zm4 72 rfl rfl⟩
set_option maxRecDepth 20000 in
theorem lk_X5_139 : ZV RX5 139 mX7_isLocked 0 := ⟨kc_X7_isLocked, zm5 238 rfl rfl, zm3 161 rfl rfl, zm3 162 rfl rfl⟩
set_option maxRecDepth 20000 in
theorem lk_X5_143 : ZL RX5 143 7 4 := ⟨by decide, by decide, zm1 120 rfl rfl⟩
set_option maxRecDepth 20000 in
theorem lk_X5_146 : ZL RX5 146 9 7 := ⟨by decide, by decide, zm2 114 rfl rfl⟩
set_option maxRecDepth 20000 in
theorem lk_X5_149 : ZV RX5 149 mX7_settle 0 := ⟨kc_X7_settle, zm6 14 rfl rfl, zm3 198 rfl rfl, zm3 199 rfl rfl⟩
set_option maxRecDepth 20000 in
theorem lk_X5_152 : ZV RX5 152 mX7_hasRoomFor 1 := ⟨kc_X7_hasRoomFor, zm5 239 rfl rfl, zm3 157 rfl rfl, zm3 158 rfl rfl⟩
set_option maxRecDepth 20000 in
theorem lk_X5_155 : ZL RX5 155 8 1 := ⟨by decide, by decide, zm1 63 rfl rfl⟩
set_option maxRecDepth 20000 in
theorem lk_X5_158 : ZL RX5 158 9 3 := ⟨by decide, by decide, zm2 102 rfl rfl⟩
set_option maxRecDepth 20000 in
theorem lk_X5_161 : ZL RX5 161 9 4 := ⟨by decide, by decide, zm2 105 rfl rfl⟩
set_option maxRecDepth 20000 in
theorem lk_X5_164 : ZL RX5 164 9 8 := ⟨by decide, by decide, zm2 118 rfl rfl⟩
set_option maxRecDepth 20000 in
theorem lk_X5_167 : ZTN RX5 167 mX11_within 3 := ⟨kc_X11_within, by decide +kernel, zm3 34 rfl rfl⟩
set_option maxRecDepth 20000 in
theorem lk_X5_171 : ZV RX5 171 mX7_extent 0 := ⟨kc_X7_extent, zm6 20 rfl rfl, zm3 222 rfl rfl, zm3 223 rfl rfl⟩
set_option maxRecDepth 20000 in
theorem lk_X5_175 : ZL RX5 175 9 9 := ⟨by decide, by decide, zm2 120 rfl rfl⟩
set_option maxRecDepth 20000 in
theorem lk_X5_179 : ZV RX5 179 mX7_appendLead 1 := ⟨kc_X7_appendLead, zm6 25 rfl rfl, zm3 165 rfl rfl, zm3 166 rfl rfl⟩
set_option maxRecDepth 20000 in
theorem lk_X5_183 : ZV RX5 183 mX5_layStretch 1 := ⟨kc_X5_layStretch, zm6 26 rfl rfl, zm6 28 rfl rfl, zms 57 rfl⟩
set_option maxRecDepth 20000 in
theorem lk_X5_186 : ZL RX5 186 7 5 := ⟨by decide, by decide, zm1 124 rfl rfl⟩
set_option maxRecDepth 20000 in
theorem lk_X5_189 : ZV RX5 189 mX5_setMark 1 := ⟨kc_X5_setMark, zm6 33 rfl rfl, zm6 35 rfl rfl, zms 58 rfl⟩
set_option maxRecDepth 20000 in
theorem lk_X5_192 : ZV RX5 192 mX8_levelOf 2 := ⟨kc_X8_levelOf, zm6 30 rfl rfl, zm3 122 rfl rfl, zm3 123 rfl rfl⟩
set_option maxRecDepth 20000 in
theorem lk_X5_196 : ZL RX5 196 9 5 := ⟨by decide, by decide, zm2 109 rfl rfl⟩
set_option maxRecDepth 20000 in
theorem lk_X5_199 : Cond.methodLink RX5 199 Lib.Math.min.name ∈ zw := zm6 31 rfl rfl
set_option maxRecDepth 20000 in
theorem lk_X5_204 : ZL RX5 204 9 6 := ⟨by decide, by decide, zm2 112 rfl rfl⟩
set_option maxRecDepth 20000 in
theorem lk_X5_207 : ZV RX5 207 mX7_append 2 := ⟨kc_X7_append, zm6 32 rfl rfl, zm3 169 rfl rfl, zm3 170 rfl rfl⟩
set_option maxRecDepth 20000 in
theorem lk_X6_3 : Cond.methodLink RX6 3 Lib.objectInit ∈ zw := zm2 86 rfl rfl
set_option maxRecDepth 20000 in
theorem lk_X6_9 : Cond.classLink RX6 9 "DiscCutter$Step" ∈ zw := zm2 87 rfl rfl
set_option maxRecDepth 20000 in
theorem lk_X6_11 : ZL RX6 11 6 0 := ⟨by decide, by decide, zm2 159 rfl rfl⟩
set_option maxRecDepth 20000 in
theorem lk_X6_17 : ZIN RX6 17 mX9_init 0 := ⟨kc_X9_init, by decide +kernel, zm2 91 rfl rfl, rfl, rfl⟩
set_option maxRecDepth 20000 in
theorem lk_X6_18 : ZL RX6 18 6 1 := ⟨by decide, by decide, zm2 160 rfl rfl⟩
set_option maxRecDepth 20000 in
theorem lk_X6_22 : ZL RX6 22 6 2 := ⟨by decide, by decide, zm2 161 rfl rfl⟩
set_option maxRecDepth 20000 in
theorem lk_X6_25 : ZL RX6 25 6 4 := ⟨by decide, by decide, zm2 163 rfl rfl⟩
set_option maxRecDepth 20000 in
theorem lk_X6_29 : Cond.methodLink RX6 29 Lib.Math.min.name ∈ zw := zm5 63 rfl rfl
set_option maxRecDepth 20000 in
theorem lk_X6_35 : ZL RX6 35 6 5 := ⟨by decide, by decide, zm2 164 rfl rfl⟩
set_option maxRecDepth 20000 in
theorem lk_X6_39 : ZL RX6 39 6 6 := ⟨by decide, by decide, zm2 165 rfl rfl⟩
set_option maxRecDepth 20000 in
theorem lk_X6_42 : ZL RX6 42 6 3 := ⟨by decide, by decide, zm2 162 rfl rfl⟩
set_option maxRecDepth 20000 in
theorem lk_X6_45 : ZL RX6 45 6 11 := ⟨by decide, by decide, zm2 171 rfl rfl⟩
set_option maxRecDepth 20000 in
theorem lk_X6_48 : ZL RX6 48 6 12 := ⟨by decide, by decide, zm2 173 rfl rfl⟩
set_option maxRecDepth 20000 in
theorem lk_X6_51 : ZL RX6 51 6 13 := ⟨by decide, by decide, zm2 175 rfl rfl⟩
set_option maxRecDepth 20000 in
theorem lk_X6_54 : ZV RX6 54 mX6_advance 0 := ⟨kc_X6_advance, zm5 64 rfl rfl, zm5 66 rfl rfl, zms 32 rfl⟩
set_option maxRecDepth 20000 in
theorem lk_X6_57 : ZV RX6 57 mX6_readSteps 1 := ⟨kc_X6_readSteps, zm5 68 rfl rfl, zm5 70 rfl rfl, zms 33 rfl⟩
set_option maxRecDepth 20000 in
theorem lk_X6_61 : ZL RX6 61 6 10 := ⟨by decide, by decide, zm2 169 rfl rfl⟩
set_option maxRecDepth 20000 in
theorem lk_X6_65 : ZL RX6 65 6 7 := ⟨by decide, by decide, zm2 166 rfl rfl⟩
set_option maxRecDepth 20000 in
theorem lk_X6_68 : ZV RX6 68 mX6_misplaced 0 := ⟨kc_X6_misplaced, zm5 139 rfl rfl, zm5 141 rfl rfl, zms 37 rfl⟩
set_option maxRecDepth 20000 in
theorem lk_X6_71 : ZL RX6 71 6 8 := ⟨by decide, by decide, zm2 167 rfl rfl⟩
set_option maxRecDepth 20000 in
theorem lk_X6_74 : ZL RX6 74 6 9 := ⟨by decide, by decide, zm2 168 rfl rfl⟩
set_option maxRecDepth 20000 in
theorem lk_X6_77 : ZV RX6 77 mJ0_length_8abf5 0 := ⟨kc_J0_length_8abf5, zm5 85 rfl rfl, zm5 86 rfl rfl, zm5 87 rfl rfl⟩
set_option maxRecDepth 20000 in
theorem lk_X6_82 : ZV RX6 82 mJ0_charAt_5068e 1 := ⟨kc_J0_charAt_5068e, zm5 95 rfl rfl, zm5 96 rfl rfl, zm5 97 rfl rfl⟩
set_option maxRecDepth 20000 in
theorem lk_X6_86 : ZV RX6 86 mX6_readStep 1 := ⟨kc_X6_readStep, zm5 72 rfl rfl, zm5 74 rfl rfl, zms 34 rfl⟩
set_option maxRecDepth 20000 in
theorem lk_X6_89 : ZL RX6 89 9 12 := ⟨by decide, by decide, zm2 130 rfl rfl⟩
set_option maxRecDepth 20000 in
theorem lk_X6_92 : ZV RX6 92 mX6_expect 1 := ⟨kc_X6_expect, zm5 160 rfl rfl, zm5 162 rfl rfl, zms 41 rfl⟩
set_option maxRecDepth 20000 in
theorem lk_X6_96 : ZV RX6 96 mX6_stepKind 0 := ⟨kc_X6_stepKind, zm5 76 rfl rfl, zm5 78 rfl rfl, zms 35 rfl⟩
set_option maxRecDepth 20000 in
theorem lk_X6_99 : ZV RX6 99 mX6_blame 1 := ⟨kc_X6_blame, zm5 143 rfl rfl, zm5 145 rfl rfl, zms 38 rfl⟩
set_option maxRecDepth 20000 in
theorem lk_X6_103 : ZV RX6 103 mX9_become 2 := ⟨kc_X9_become, zm5 147 rfl rfl, zm5 148 rfl rfl, zm5 149 rfl rfl⟩
set_option maxRecDepth 20000 in
theorem lk_X6_107 : ZV RX6 107 mX6_readNumber 2 := ⟨kc_X6_readNumber, zm5 151 rfl rfl, zm5 153 rfl rfl, zms 39 rfl⟩
set_option maxRecDepth 20000 in
theorem lk_X6_110 : ZL RX6 110 9 2 := ⟨by decide, by decide, zm2 100 rfl rfl⟩
set_option maxRecDepth 20000 in
theorem lk_X6_113 : ZV RX6 113 mX6_readBraces 1 := ⟨kc_X6_readBraces, zm5 156 rfl rfl, zm5 158 rfl rfl, zms 40 rfl⟩
set_option maxRecDepth 20000 in
theorem lk_X6_116 : ZL RX6 116 9 10 := ⟨by decide, by decide, zm2 124 rfl rfl⟩
set_option maxRecDepth 20000 in
theorem lk_X6_119 : ZV RX6 119 mX6_readTest 1 := ⟨kc_X6_readTest, zm5 164 rfl rfl, zm5 166 rfl rfl, zms 42 rfl⟩
theorem lk_X6_123 : (RX6, 123, "else", 7) ∈ zstrs := by decide +kernel
set_option maxRecDepth 20000 in
theorem lk_X6_125 : ZV RX6 125 mX6_isWord 1 := ⟨kc_X6_isWord, zm5 81 rfl rfl, zm5 83 rfl rfl, zms 36 rfl⟩
set_option maxRecDepth 20000 in
theorem lk_X6_129 : ZL RX6 129 9 11 := ⟨by decide, by decide, zm2 127 rfl rfl⟩
set_option maxRecDepth 20000 in
theorem lk_X6_132 : ZV RX6 132 mX6_readName 0 := ⟨kc_X6_readName, zm5 169 rfl rfl, zm5 171 rfl rfl, zms 43 rfl⟩
set_option maxRecDepth 20000 in
theorem lk_X6_135 : ZL RX6 135 9 8 := ⟨by decide, by decide, zm2 117 rfl rfl⟩
set_option maxRecDepth 20000 in
theorem lk_X6_138 : ZT RX6 138 mX6_greatestFor 1 := ⟨kc_X6_greatestFor, zm5 180 rfl rfl, zm5 181 rfl rfl⟩
set_option maxRecDepth 20000 in
theorem lk_X6_142 : ZV RX6 142 mX6_readOptions 1 := ⟨kc_X6_readOptions, zm5 183 rfl rfl, zm5 185 rfl rfl, zms 45 rfl⟩
theorem lk_X6_145 : (RX6, 145, "side", 0) ∈ zstrs := by decide +kernel
theorem lk_X6_147 : (RX6, 147, "lead", 1) ∈ zstrs := by decide +kernel
theorem lk_X6_149 : (RX6, 149, "song", 2) ∈ zstrs := by decide +kernel
theorem lk_X6_151 : (RX6, 151, "lock", 3) ∈ zstrs := by decide +kernel
theorem lk_X6_153 : (RX6, 153, "mark", 4) ∈ zstrs := by decide +kernel
theorem lk_X6_155 : (RX6, 155, "again", 5) ∈ zstrs := by decide +kernel
theorem lk_X6_157 : (RX6, 157, "when", 6) ∈ zstrs := by decide +kernel
theorem lk_X6_159 : (RX6, 159, "from", 8) ∈ zstrs := by decide +kernel
set_option maxRecDepth 20000 in
theorem lk_X6_161 : ZL RX6 161 9 3 := ⟨by decide, by decide, zm2 103 rfl rfl⟩
set_option maxRecDepth 20000 in
theorem lk_X6_163 : ZV RX6 163 mX6_readOption 3 := ⟨kc_X6_readOption, zm5 188 rfl rfl, zm5 190 rfl rfl, zms 46 rfl⟩
theorem lk_X6_167 : (RX6, 167, "to", 9) ∈ zstrs := by decide +kernel
set_option maxRecDepth 20000 in
theorem lk_X6_169 : ZL RX6 169 9 4 := ⟨by decide, by decide, zm2 106 rfl rfl⟩
theorem lk_X6_171 : (RX6, 171, "soft", 10) ∈ zstrs := by decide +kernel
set_option maxRecDepth 20000 in
theorem lk_X6_173 : ZL RX6 173 9 5 := ⟨by decide, by decide, zm2 108 rfl rfl⟩
theorem lk_X6_175 : (RX6, 175, "fade", 11) ∈ zstrs := by decide +kernel
set_option maxRecDepth 20000 in
theorem lk_X6_177 : ZL RX6 177 9 6 := ⟨by decide, by decide, zm2 111 rfl rfl⟩
theorem lk_X6_179 : (RX6, 179, "have", 12) ∈ zstrs := by decide +kernel
set_option maxRecDepth 20000 in
theorem lk_X6_181 : ZL RX6 181 9 7 := ⟨by decide, by decide, zm2 115 rfl rfl⟩
theorem lk_X6_184 : (RX6, 184, "parts", 13) ∈ zstrs := by decide +kernel
theorem lk_X6_186 : (RX6, 186, "room", 14) ∈ zstrs := by decide +kernel
set_option maxRecDepth 20000 in
theorem lk_X6_188 : ZL RX6 188 9 9 := ⟨by decide, by decide, zm2 121 rfl rfl⟩
set_option maxRecDepth 20000 in
theorem lk_X6_192 : ZTN RX6 192 mX11_within 3 := ⟨kc_X11_within, by decide +kernel, zm3 34 rfl rfl⟩
set_option maxRecDepth 20000 in
theorem lk_X6_196 : ZV RX6 196 mX6_isName 1 := ⟨kc_X6_isName, zm5 173 rfl rfl, zm5 175 rfl rfl, zms 44 rfl⟩
set_option maxRecDepth 20000 in
theorem lk_X7_3 : Cond.methodLink RX7 3 Lib.objectInit ∈ zw := zm1 108 rfl rfl
set_option maxRecDepth 20000 in
theorem lk_X7_9 : ZL RX7 9 7 0 := ⟨by decide, by decide, zm1 109 rfl rfl⟩
set_option maxRecDepth 20000 in
theorem lk_X7_15 : ZL RX7 15 7 1 := ⟨by decide, by decide, zm1 110 rfl rfl⟩
set_option maxRecDepth 20000 in
theorem lk_X7_19 : ZL RX7 19 7 2 := ⟨by decide, by decide, zm1 113 rfl rfl⟩
set_option maxRecDepth 20000 in
theorem lk_X7_22 : ZL RX7 22 7 3 := ⟨by decide, by decide, zm1 114 rfl rfl⟩
set_option maxRecDepth 20000 in
theorem lk_X7_25 : ZL RX7 25 7 5 := ⟨by decide, by decide, zm1 122 rfl rfl⟩
set_option maxRecDepth 20000 in
theorem lk_X7_29 : ZL RX7 29 7 7 := ⟨by decide, by decide, zm1 128 rfl rfl⟩
set_option maxRecDepth 20000 in
theorem lk_X7_32 : ZL RX7 32 7 4 := ⟨by decide, by decide, zm1 117 rfl rfl⟩
set_option maxRecDepth 20000 in
theorem lk_X7_35 : ZL RX7 35 7 6 := ⟨by decide, by decide, zm1 126 rfl rfl⟩
set_option maxRecDepth 20000 in
theorem lk_X7_38 : ZV RX7 38 mX7_append 2 := ⟨kc_X7_append, zm3 168 rfl rfl, zm3 169 rfl rfl, zm3 170 rfl rfl⟩
set_option maxRecDepth 20000 in
theorem lk_X7_42 : ZL RX7 42 8 1 := ⟨by decide, by decide, zm1 61 rfl rfl⟩
set_option maxRecDepth 20000 in
theorem lk_X7_47 : ZV RX7 47 mX8_levelOf 2 := ⟨kc_X8_levelOf, zm3 180 rfl rfl, zm3 122 rfl rfl, zm3 123 rfl rfl⟩
set_option maxRecDepth 20000 in
theorem lk_X7_51 : Cond.methodLink RX7 51 arraycopyName ∈ zw := zm5 215 rfl rfl
set_option maxRecDepth 20000 in
theorem lk_X7_57 : ZL RX7 57 4 1 := ⟨by decide, by decide, zm1 91 rfl rfl⟩
set_option maxRecDepth 20000 in
theorem lk_X7_62 : ZL RX7 62 4 0 := ⟨by decide, by decide, zm1 88 rfl rfl⟩
set_option maxRecDepth 20000 in
theorem lk_X7_65 : Cond.methodLink RX7 65 Lib.Math.min.name ∈ zw := zm3 205 rfl rfl
set_option maxRecDepth 20000 in
theorem lk_X7_70 : ZV RX7 70 mX7_firstTooNear 1 := ⟨kc_X7_firstTooNear, zm3 201 rfl rfl, zm3 202 rfl rfl, zm3 203 rfl rfl⟩
set_option maxRecDepth 20000 in
theorem lk_X7_74 : ZL RX7 74 4 2 := ⟨by decide, by decide, zm1 94 rfl rfl⟩
set_option maxRecDepth 20000 in
theorem lk_X7_75 : ZL RX7 75 7 8 := ⟨by decide, by decide, zm1 129 rfl rfl⟩
set_option maxRecDepth 20000 in
theorem lk_X7_79 : ZV RX7 79 mX7_layOut 0 := ⟨kc_X7_layOut, zm3 208 rfl rfl, zm3 210 rfl rfl, zms 9 rfl⟩
set_option maxRecDepth 20000 in
theorem lk_X7_82 : ZV RX7 82 mX7_placeBehind 1 := ⟨kc_X7_placeBehind, zm3 212 rfl rfl, zm3 214 rfl rfl, zms 10 rfl⟩
set_option maxRecDepth 20000 in
theorem lk_X7_85 : Cond.methodLink RX7 85 Lib.Math.max.name ∈ zw := zm3 216 rfl rfl
set_option maxRecDepth 20000 in
theorem lk_X7_88 : ZV RX7 88 mX8_canRing 1 := ⟨kc_X8_canRing, zm4 79 rfl rfl, zm4 71 rfl rfl, zm4 72 rfl rfl⟩
set_option maxRecDepth 20000 in
theorem lk_X7_92 : ZTN RX7 92 mX11_within 3 := ⟨kc_X11_within, by decide +kernel, zm3 34 rfl rfl⟩
set_option maxRecDepth 20000 in
theorem lk_X8_3 : Cond.methodLink RX8 3 Lib.objectInit ∈ zw := zm1 57 rfl rfl
set_option maxRecDepth 20000 in
theorem lk_X8_9 : ZL RX8 9 8 0 := ⟨by decide, by decide, zm1 58 rfl rfl⟩
set_option maxRecDepth 20000 in
theorem lk_X8_15 : ZL RX8 15 8 1 := ⟨by decide, by decide, zm1 59 rfl rfl⟩
set_option maxRecDepth 20000 in
theorem lk_X8_18 : ZL RX8 18 8 2 := ⟨by decide, by decide, zm1 64 rfl rfl⟩
set_option maxRecDepth 20000 in
theorem lk_X8_21 : ZL RX8 21 8 3 := ⟨by decide, by decide, zm1 67 rfl rfl⟩
set_option maxRecDepth 20000 in
theorem lk_X8_25 : ZTN RX8 25 mX11_within 3 := ⟨kc_X11_within, by decide +kernel, zm3 34 rfl rfl⟩
set_option maxRecDepth 20000 in
theorem lk_X8_29 : ZV RX8 29 mX8_has 1 := ⟨kc_X8_has, zm4 74 rfl rfl, zm3 113 rfl rfl, zm3 114 rfl rfl⟩
set_option maxRecDepth 20000 in
theorem lk_X8_33 : ZL RX8 33 10 0 := ⟨by decide, by decide, zm1 38 rfl rfl⟩
set_option maxRecDepth 20000 in
theorem lk_X8_39 : ZV RX8 39 mX8_levelOf 2 := ⟨kc_X8_levelOf, zm3 121 rfl rfl, zm3 122 rfl rfl, zm3 123 rfl rfl⟩
set_option maxRecDepth 20000 in
theorem lk_X8_43 : Cond.methodLink RX8 43 Lib.Math.max.name ∈ zw := zm3 125 rfl rfl
set_option maxRecDepth 20000 in
theorem lk_X9_3 : Cond.methodLink RX9 3 Lib.objectInit ∈ zw := zm2 93 rfl rfl
set_option maxRecDepth 20000 in
theorem lk_X9_9 : ZL RX9 9 9 0 := ⟨by decide, by decide, zm2 94 rfl rfl⟩
set_option maxRecDepth 20000 in
theorem lk_X9_15 : ZL RX9 15 9 1 := ⟨by decide, by decide, zm2 96 rfl rfl⟩
set_option maxRecDepth 20000 in
theorem lk_X9_18 : ZL RX9 18 9 2 := ⟨by decide, by decide, zm2 98 rfl rfl⟩
set_option maxRecDepth 20000 in
theorem lk_X9_21 : ZL RX9 21 9 3 := ⟨by decide, by decide, zm2 101 rfl rfl⟩
set_option maxRecDepth 20000 in
theorem lk_X9_24 : ZL RX9 24 9 4 := ⟨by decide, by decide, zm2 104 rfl rfl⟩
set_option maxRecDepth 20000 in
theorem lk_X9_27 : ZL RX9 27 9 5 := ⟨by decide, by decide, zm2 107 rfl rfl⟩
set_option maxRecDepth 20000 in
theorem lk_X9_30 : ZL RX9 30 9 6 := ⟨by decide, by decide, zm2 110 rfl rfl⟩
set_option maxRecDepth 20000 in
theorem lk_X9_33 : ZL RX9 33 9 7 := ⟨by decide, by decide, zm2 113 rfl rfl⟩
set_option maxRecDepth 20000 in
theorem lk_X9_36 : ZL RX9 36 9 8 := ⟨by decide, by decide, zm2 116 rfl rfl⟩
set_option maxRecDepth 20000 in
theorem lk_X9_39 : ZL RX9 39 9 9 := ⟨by decide, by decide, zm2 119 rfl rfl⟩
set_option maxRecDepth 20000 in
theorem lk_X9_43 : ZL RX9 43 9 10 := ⟨by decide, by decide, zm2 122 rfl rfl⟩
set_option maxRecDepth 20000 in
theorem lk_X9_47 : ZL RX9 47 9 11 := ⟨by decide, by decide, zm2 125 rfl rfl⟩
set_option maxRecDepth 20000 in
theorem lk_X9_50 : ZL RX9 50 9 12 := ⟨by decide, by decide, zm2 128 rfl rfl⟩
set_option maxRecDepth 20000 in
theorem lk_X10_3 : Cond.methodLink RX10 3 Lib.objectInit ∈ zw := zm1 36 rfl rfl
set_option maxRecDepth 20000 in
theorem lk_X10_9 : ZL RX10 9 10 0 := ⟨by decide, by decide, zm1 37 rfl rfl⟩
set_option maxRecDepth 20000 in
theorem lk_X10_15 : ZL RX10 15 10 1 := ⟨by decide, by decide, zm1 40 rfl rfl⟩
set_option maxRecDepth 20000 in
theorem lk_X10_19 : ZL RX10 19 10 2 := ⟨by decide, by decide, zm1 42 rfl rfl⟩
set_option maxRecDepth 20000 in
theorem lk_X10_22 : ZT RX10 22 mJ7_fill_d0a16 2 := ⟨kc_J7_fill_d0a16, zm3 44 rfl rfl, zm3 45 rfl rfl⟩
set_option maxRecDepth 20000 in
theorem lk_X10_28 : ZTN RX10 28 mX11_within 3 := ⟨kc_X11_within, by decide +kernel, zm3 34 rfl rfl⟩
set_option maxRecDepth 20000 in
theorem lk_X10_32 : ZV RX10 32 mX10_cut 1 := ⟨kc_X10_cut, zm3 68 rfl rfl, zm3 69 rfl rfl, zm3 70 rfl rfl⟩
set_option maxRecDepth 20000 in
theorem lk_X10_36 : Cond.constantLong RX10 36 (40) ∈ zw := zm3 99 rfl rfl
set_option maxRecDepth 20000 in
theorem lk_X11_1 : Cond.methodLink RX11 1 Lib.objectInit ∈ zw := zm1 27 rfl rfl
set_option maxRecDepth 20000 in
theorem lk_X11_9 : Cond.classLink RX11 9 "DiscCutter$Tray" ∈ zw := zm1 30 rfl rfl
set_option maxRecDepth 20000 in
theorem lk_X11_11 : ZL RX11 11 11 0 := ⟨by decide, by decide, zm2 206 rfl rfl⟩
set_option maxRecDepth 20000 in
theorem lk_X11_15 : ZI RX11 15 mX10_init 0 := ⟨kc_X10_init, zm1 33 rfl rfl, zm1 34 rfl rfl, rfl, rfl⟩
set_option maxRecDepth 20000 in
theorem lk_X11_16 : Cond.classLink RX11 16 "DiscCutter$Songs" ∈ zw := zm1 52 rfl rfl
set_option maxRecDepth 20000 in
theorem lk_X11_18 : ZI RX11 18 mX8_init 0 := ⟨kc_X8_init, zm1 54 rfl rfl, zm1 55 rfl rfl, rfl, rfl⟩
set_option maxRecDepth 20000 in
theorem lk_X11_19 : ZL RX11 19 11 1 := ⟨by decide, by decide, zm2 207 rfl rfl⟩
set_option maxRecDepth 20000 in
theorem lk_X11_23 : Cond.classLink RX11 23 "DiscCutter$Rules" ∈ zw := zm1 80 rfl rfl
set_option maxRecDepth 20000 in
theorem lk_X11_25 : ZI RX11 25 mX4_init 0 := ⟨kc_X4_init, zm1 82 rfl rfl, zm1 83 rfl rfl, rfl, rfl⟩
set_option maxRecDepth 20000 in
theorem lk_X11_26 : ZL RX11 26 11 2 := ⟨by decide, by decide, zm2 208 rfl rfl⟩
set_option maxRecDepth 20000 in
theorem lk_X11_30 : Cond.classLink RX11 30 "DiscCutter$Side" ∈ zw := zm1 102 rfl rfl
set_option maxRecDepth 20000 in
theorem lk_X11_32 : ZL RX11 32 11 3 := ⟨by decide, by decide, zm2 209 rfl rfl⟩
set_option maxRecDepth 20000 in
theorem lk_X11_36 : ZI RX11 36 mX7_init 1 := ⟨kc_X7_init, zm1 105 rfl rfl, zm1 106 rfl rfl, rfl, rfl⟩
set_option maxRecDepth 20000 in
theorem lk_X11_39 : Cond.classLink RX11 39 "DiscCutter$Beside" ∈ zw := zm1 149 rfl rfl
set_option maxRecDepth 20000 in
theorem lk_X11_41 : ZI RX11 41 mX0_init 3 := ⟨kc_X0_init, zm1 151 rfl rfl, zm1 152 rfl rfl, rfl, rfl⟩
set_option maxRecDepth 20000 in
theorem lk_X11_44 : ZL RX11 44 11 4 := ⟨by decide, by decide, zm2 210 rfl rfl⟩
set_option maxRecDepth 20000 in
theorem lk_X11_48 : Cond.classLink RX11 48 "DiscCutter$Order" ∈ zw := zm1 191 rfl rfl
set_option maxRecDepth 20000 in
theorem lk_X11_50 : ZI RX11 50 mX3_init 0 := ⟨kc_X3_init, zm1 193 rfl rfl, zm1 194 rfl rfl, rfl, rfl⟩
set_option maxRecDepth 20000 in
theorem lk_X11_51 : ZL RX11 51 11 5 := ⟨by decide, by decide, zm2 211 rfl rfl⟩
set_option maxRecDepth 20000 in
theorem lk_X11_55 : Cond.classLink RX11 55 "DiscCutter$Clicks" ∈ zw := zm1 216 rfl rfl
set_option maxRecDepth 20000 in
theorem lk_X11_57 : ZI RX11 57 mX1_init 0 := ⟨kc_X1_init, zm1 218 rfl rfl, zm1 219 rfl rfl, rfl, rfl⟩
set_option maxRecDepth 20000 in
theorem lk_X11_58 : ZL RX11 58 11 6 := ⟨by decide, by decide, zm2 212 rfl rfl⟩
set_option maxRecDepth 20000 in
theorem lk_X11_62 : Cond.classLink RX11 62 "DiscCutter$Needle" ∈ zw := zm2 12 rfl rfl
set_option maxRecDepth 20000 in
theorem lk_X11_64 : ZI RX11 64 mX2_init 0 := ⟨kc_X2_init, zm2 14 rfl rfl, zm2 15 rfl rfl, rfl, rfl⟩
set_option maxRecDepth 20000 in
theorem lk_X11_65 : ZL RX11 65 11 7 := ⟨by decide, by decide, zm2 213 rfl rfl⟩
set_option maxRecDepth 20000 in
theorem lk_X11_69 : Cond.classLink RX11 69 "DiscCutter$Runner" ∈ zw := zm2 32 rfl rfl
set_option maxRecDepth 20000 in
theorem lk_X11_71 : ZI RX11 71 mX5_init 3 := ⟨kc_X5_init, zm2 34 rfl rfl, zm2 35 rfl rfl, rfl, rfl⟩
set_option maxRecDepth 20000 in
theorem lk_X11_74 : ZL RX11 74 11 8 := ⟨by decide, by decide, zm2 214 rfl rfl⟩
set_option maxRecDepth 20000 in
theorem lk_X11_78 : ZL RX11 78 11 9 := ⟨by decide, by decide, zm2 215 rfl rfl⟩
set_option maxRecDepth 20000 in
theorem lk_X11_82 : Cond.classLink RX11 82 "DiscCutter$Sheet" ∈ zw := zm2 81 rfl rfl
set_option maxRecDepth 20000 in
theorem lk_X11_84 : ZI RX11 84 mX6_init 0 := ⟨kc_X6_init, zm2 83 rfl rfl, zm2 84 rfl rfl, rfl, rfl⟩
set_option maxRecDepth 20000 in
theorem lk_X11_85 : ZL RX11 85 11 11 := ⟨by decide, by decide, zm2 217 rfl rfl⟩
set_option maxRecDepth 20000 in
theorem lk_X11_89 : ZL RX11 89 11 12 := ⟨by decide, by decide, zm2 218 rfl rfl⟩
set_option maxRecDepth 20000 in
theorem lk_X11_92 : ZL RX11 92 11 14 := ⟨by decide, by decide, zm2 220 rfl rfl⟩
set_option maxRecDepth 20000 in
theorem lk_X11_96 : ZL RX11 96 11 15 := ⟨by decide, by decide, zm2 221 rfl rfl⟩
set_option maxRecDepth 20000 in
theorem lk_X11_99 : ZL RX11 99 11 16 := ⟨by decide, by decide, zm2 222 rfl rfl⟩
set_option maxRecDepth 20000 in
theorem lk_X11_102 : ZL RX11 102 11 17 := ⟨by decide, by decide, zm2 223 rfl rfl⟩
set_option maxRecDepth 20000 in
theorem lk_X11_105 : ZV RX11 105 mX11_isTray 1 := ⟨kc_X11_isTray, zm3 29 rfl rfl, zm3 31 rfl rfl, zms 0 rfl⟩
set_option maxRecDepth 20000 in
theorem lk_X11_109 : ZT RX11 109 mX11_within 3 := ⟨kc_X11_within, zm3 33 rfl rfl, zm3 34 rfl rfl⟩
set_option maxRecDepth 20000 in
theorem lk_X11_113 : ZV RX11 113 mX11_refuse 1 := ⟨kc_X11_refuse, zm3 36 rfl rfl, zm3 38 rfl rfl, zms 1 rfl⟩
set_option maxRecDepth 20000 in
theorem lk_X11_116 : ZV RX11 116 mX10_become 2 := ⟨kc_X10_become, zm3 40 rfl rfl, zm3 41 rfl rfl, zm3 42 rfl rfl⟩
set_option maxRecDepth 20000 in
theorem lk_X11_120 : ZV RX11 120 mX11_accept 0 := ⟨kc_X11_accept, zm3 47 rfl rfl, zm3 49 rfl rfl, zms 2 rfl⟩
set_option maxRecDepth 20000 in
theorem lk_X11_124 : ZV RX11 124 mX11_whyNoNumber 2 := ⟨kc_X11_whyNoNumber, zm3 55 rfl rfl, zm3 57 rfl rfl, zms 3 rfl⟩
set_option maxRecDepth 20000 in
theorem lk_X11_128 : ZV RX11 128 mX10_put 2 := ⟨kc_X10_put, zm3 63 rfl rfl, zm3 64 rfl rfl, zm3 65 rfl rfl⟩
set_option maxRecDepth 20000 in
theorem lk_X11_132 : ZV RX11 132 mX11_giveNone 1 := ⟨kc_X11_giveNone, zm3 76 rfl rfl, zm3 78 rfl rfl, zms 4 rfl⟩
set_option maxRecDepth 20000 in
theorem lk_X11_136 : ZL RX11 136 10 0 := ⟨by decide, by decide, zm1 39 rfl rfl⟩
set_option maxRecDepth 20000 in
theorem lk_X11_140 : ZV RX11 140 mX10_isMissing 0 := ⟨kc_X10_isMissing, zm3 59 rfl rfl, zm3 60 rfl rfl, zm3 61 rfl rfl⟩
set_option maxRecDepth 20000 in
theorem lk_X11_143 : ZL RX11 143 10 1 := ⟨by decide, by decide, zm1 41 rfl rfl⟩
set_option maxRecDepth 20000 in
theorem lk_X11_146 : ZV RX11 146 mX10_hasRow 2 := ⟨kc_X10_hasRow, zm3 84 rfl rfl, zm3 85 rfl rfl, zm3 86 rfl rfl⟩
set_option maxRecDepth 20000 in
theorem lk_X11_150 : Cond.methodLink RX11 150 arraycopyName ∈ zw := zm3 88 rfl rfl
set_option maxRecDepth 20000 in
theorem lk_X11_156 : ZV RX11 156 mX10_holdsLevels 1 := ⟨kc_X10_holdsLevels, zm3 95 rfl rfl, zm3 96 rfl rfl, zm3 97 rfl rfl⟩
set_option maxRecDepth 20000 in
theorem lk_X11_159 : ZL RX11 159 8 3 := ⟨by decide, by decide, zm1 69 rfl rfl⟩
set_option maxRecDepth 20000 in
theorem lk_X11_162 : ZV RX11 162 mX8_add 3 := ⟨kc_X8_add, zm3 100 rfl rfl, zm3 101 rfl rfl, zm3 102 rfl rfl⟩
set_option maxRecDepth 20000 in
theorem lk_X11_166 : ZV RX11 166 mX11_give 1 := ⟨kc_X11_give, zm3 104 rfl rfl, zm3 106 rfl rfl, zms 5 rfl⟩
set_option maxRecDepth 20000 in
theorem lk_X11_169 : ZV RX11 169 mX8_has 1 := ⟨kc_X8_has, zm3 112 rfl rfl, zm3 113 rfl rfl, zm3 114 rfl rfl⟩
set_option maxRecDepth 20000 in
theorem lk_X11_172 : ZL RX11 172 8 1 := ⟨by decide, by decide, zm1 62 rfl rfl⟩
set_option maxRecDepth 20000 in
theorem lk_X11_176 : ZL RX11 176 8 2 := ⟨by decide, by decide, zm1 66 rfl rfl⟩
set_option maxRecDepth 20000 in
theorem lk_X11_179 : ZV RX11 179 mX8_loudest 1 := ⟨kc_X8_loudest, zm3 117 rfl rfl, zm3 118 rfl rfl, zm3 119 rfl rfl⟩
set_option maxRecDepth 20000 in
theorem lk_X11_182 : ZV RX11 182 mX4_change 2 := ⟨kc_X4_change, zm3 132 rfl rfl, zm3 133 rfl rfl, zm3 134 rfl rfl⟩
set_option maxRecDepth 20000 in
theorem lk_X11_185 : ZV RX11 185 mX11_isSide 1 := ⟨kc_X11_isSide, zm3 140 rfl rfl, zm3 142 rfl rfl, zms 6 rfl⟩
set_option maxRecDepth 20000 in
theorem lk_X11_188 : ZV RX11 188 mX7_empty 0 := ⟨kc_X7_empty, zm3 144 rfl rfl, zm3 145 rfl rfl, zm3 146 rfl rfl⟩
set_option maxRecDepth 20000 in
theorem lk_X11_191 : ZV RX11 191 mX11_whyNotLaid 2 := ⟨kc_X11_whyNotLaid, zm3 152 rfl rfl, zm3 154 rfl rfl, zms 7 rfl⟩
set_option maxRecDepth 20000 in
theorem lk_X11_195 : ZV RX11 195 mX7_appendLead 1 := ⟨kc_X7_appendLead, zm3 164 rfl rfl, zm3 165 rfl rfl, zm3 166 rfl rfl⟩
set_option maxRecDepth 20000 in
theorem lk_X11_199 : ZV RX11 199 mX7_appendSong 2 := ⟨kc_X7_appendSong, zm3 176 rfl rfl, zm3 177 rfl rfl, zm3 178 rfl rfl⟩
set_option maxRecDepth 20000 in
theorem lk_X11_203 : ZL RX11 203 7 4 := ⟨by decide, by decide, zm1 121 rfl rfl⟩
set_option maxRecDepth 20000 in
theorem lk_X11_204 : ZV RX11 204 mX11_isPart 2 := ⟨kc_X11_isPart, zm3 189 rfl rfl, zm3 191 rfl rfl, zms 8 rfl⟩
set_option maxRecDepth 20000 in
theorem lk_X11_207 : ZL RX11 207 7 1 := ⟨by decide, by decide, zm1 112 rfl rfl⟩
set_option maxRecDepth 20000 in
theorem lk_X11_210 : ZV RX11 210 mX7_settle 0 := ⟨kc_X7_settle, zm3 197 rfl rfl, zm3 198 rfl rfl, zm3 199 rfl rfl⟩
set_option maxRecDepth 20000 in
theorem lk_X11_213 : ZL RX11 213 7 3 := ⟨by decide, by decide, zm1 116 rfl rfl⟩
set_option maxRecDepth 20000 in
theorem lk_X11_216 : ZV RX11 216 mX7_extent 0 := ⟨kc_X7_extent, zm3 221 rfl rfl, zm3 222 rfl rfl, zm3 223 rfl rfl⟩
set_option maxRecDepth 20000 in
theorem lk_X11_220 : ZV RX11 220 mX7_tightPart 1 := ⟨kc_X7_tightPart, zm3 229 rfl rfl, zm3 230 rfl rfl, zm3 231 rfl rfl⟩
set_option maxRecDepth 20000 in
theorem lk_X11_223 : ZV RX11 223 mX11_giveIfAny 1 := ⟨kc_X11_giveIfAny, zm3 233 rfl rfl, zm3 235 rfl rfl, zms 11 rfl⟩
set_option maxRecDepth 20000 in
theorem lk_X11_226 : ZV RX11 226 mX7_firstTooNear 1 := ⟨kc_X7_firstTooNear, zm4 1 rfl rfl, zm3 202 rfl rfl, zm3 203 rfl rfl⟩
set_option maxRecDepth 20000 in
theorem lk_X11_229 : ZV RX11 229 mX7_leastSoftening 0 := ⟨kc_X7_leastSoftening, zm4 6 rfl rfl, zm4 7 rfl rfl, zm4 8 rfl rfl⟩
set_option maxRecDepth 20000 in
theorem lk_X11_232 : ZV RX11 232 mX7_cap 1 := ⟨kc_X7_cap, zm4 14 rfl rfl, zm4 15 rfl rfl, zm4 16 rfl rfl⟩
set_option maxRecDepth 20000 in
theorem lk_X11_235 : ZV RX11 235 mX3_find 2 := ⟨kc_X3_find, zm4 26 rfl rfl, zm4 27 rfl rfl, zm4 28 rfl rfl⟩
set_option maxRecDepth 20000 in
theorem lk_X11_239 : ZL RX11 239 3 2 := ⟨by decide, by decide, zm1 202 rfl rfl⟩
set_option maxRecDepth 20000 in
theorem lk_X11_242 : ZL RX11 242 3 1 := ⟨by decide, by decide, zm1 200 rfl rfl⟩
set_option maxRecDepth 20000 in
theorem lk_X11_245 : ZV RX11 245 mX3_sideIn 2 := ⟨kc_X3_sideIn, zm4 53 rfl rfl, zm4 46 rfl rfl, zm4 47 rfl rfl⟩
set_option maxRecDepth 20000 in
theorem lk_X11_248 : ZV RX11 248 mX3_songOn 2 := ⟨kc_X3_songOn, zm4 58 rfl rfl, zm4 59 rfl rfl, zm4 60 rfl rfl⟩
set_option maxRecDepth 20000 in
theorem lk_X11_251 : ZL RX11 251 3 0 := ⟨by decide, by decide, zm1 198 rfl rfl⟩
set_option maxRecDepth 20000 in
theorem lk_X11_254 : ZV RX11 254 mX8_canRing 1 := ⟨kc_X8_canRing, zm4 70 rfl rfl, zm4 71 rfl rfl, zm4 72 rfl rfl⟩
set_option maxRecDepth 20000 in
theorem lk_X11_257 : ZV RX11 257 mX7_ringPlace 2 := ⟨kc_X7_ringPlace, zm4 75 rfl rfl, zm4 76 rfl rfl, zm4 77 rfl rfl⟩
set_option maxRecDepth 20000 in
theorem lk_X11_261 : ZL RX11 261 1 3 := ⟨by decide, by decide, zm1 226 rfl rfl⟩
set_option maxRecDepth 20000 in
theorem lk_X11_262 : ZV RX11 262 mX1_find 2 := ⟨kc_X1_find, zm4 88 rfl rfl, zm4 89 rfl rfl, zm4 90 rfl rfl⟩
set_option maxRecDepth 20000 in
theorem lk_X11_264 : ZV RX11 264 mX1_add 2 := ⟨kc_X1_add, zm4 92 rfl rfl, zm4 93 rfl rfl, zm4 94 rfl rfl⟩
set_option maxRecDepth 20000 in
theorem lk_X11_266 : ZV RX11 266 mX1_findLongest 0 := ⟨kc_X1_findLongest, zm4 104 rfl rfl, zm4 105 rfl rfl, zm4 106 rfl rfl⟩
set_option maxRecDepth 20000 in
theorem lk_X11_269 : ZL RX11 269 1 4 := ⟨by decide, by decide, zm1 228 rfl rfl⟩
set_option maxRecDepth 20000 in
theorem lk_X11_272 : ZL RX11 272 1 5 := ⟨by decide, by decide, zm1 230 rfl rfl⟩
set_option maxRecDepth 20000 in
theorem lk_X11_275 : ZL RX11 275 1 6 := ⟨by decide, by decide, zm1 232 rfl rfl⟩
set_option maxRecDepth 20000 in
theorem lk_X11_278 : ZL RX11 278 1 7 := ⟨by decide, by decide, zm1 234 rfl rfl⟩
set_option maxRecDepth 20000 in
theorem lk_X11_281 : ZV RX11 281 mX1_fewestLines 0 := ⟨kc_X1_fewestLines, zm4 131 rfl rfl, zm4 132 rfl rfl, zm4 133 rfl rfl⟩
set_option maxRecDepth 20000 in
theorem lk_X11_284 : ZV RX11 284 mX7_isLocked 0 := ⟨kc_X7_isLocked, zm3 160 rfl rfl, zm3 161 rfl rfl, zm3 162 rfl rfl⟩
set_option maxRecDepth 20000 in
theorem lk_X11_287 : ZL RX11 287 7 5 := ⟨by decide, by decide, zm1 125 rfl rfl⟩
set_option maxRecDepth 20000 in
theorem lk_X11_290 : ZL RX11 290 2 3 := ⟨by decide, by decide, zm2 22 rfl rfl⟩
set_option maxRecDepth 20000 in
theorem lk_X11_291 : ZV RX11 291 mX2_isKnockedAt 1 := ⟨kc_X2_isKnockedAt, zm4 158 rfl rfl, zm4 159 rfl rfl, zm4 160 rfl rfl⟩
set_option maxRecDepth 20000 in
theorem lk_X11_294 : ZV RX11 294 mX2_add 2 := ⟨kc_X2_add, zm4 162 rfl rfl, zm4 163 rfl rfl, zm4 164 rfl rfl⟩
set_option maxRecDepth 20000 in
theorem lk_X11_295 : ZV RX11 295 mX2_follow 3 := ⟨kc_X2_follow, zm4 174 rfl rfl, zm4 175 rfl rfl, zm4 176 rfl rfl⟩
set_option maxRecDepth 20000 in
theorem lk_X11_299 : ZV RX11 299 mX11_heard 2 := ⟨kc_X11_heard, zm4 206 rfl rfl, zm4 171 rfl rfl, zm4 172 rfl rfl⟩
set_option maxRecDepth 20000 in
theorem lk_X11_302 : ZV RX11 302 mX7_songOf 1 := ⟨kc_X7_songOf, zm4 207 rfl rfl, zm4 208 rfl rfl, zm4 209 rfl rfl⟩
set_option maxRecDepth 20000 in
theorem lk_X11_305 : ZV RX11 305 mX2_countUnseen 2 := ⟨kc_X2_countUnseen, zm4 216 rfl rfl, zm4 217 rfl rfl, zm4 218 rfl rfl⟩
set_option maxRecDepth 20000 in
theorem lk_X11_309 : ZV RX11 309 mX0_settle 0 := ⟨kc_X0_settle, zm4 225 rfl rfl, zm4 226 rfl rfl, zm4 227 rfl rfl⟩
set_option maxRecDepth 20000 in
theorem lk_X11_310 : ZV RX11 310 mX0_placeOf 2 := ⟨kc_X0_placeOf, zm5 37 rfl rfl, zm5 4 rfl rfl, zm5 5 rfl rfl⟩
set_option maxRecDepth 20000 in
theorem lk_X11_313 : ZV RX11 313 mX0_extentOf 1 := ⟨kc_X0_extentOf, zm5 42 rfl rfl, zm5 43 rfl rfl, zm5 44 rfl rfl⟩
set_option maxRecDepth 20000 in
theorem lk_X11_316 : Cond.methodLink RX11 316 Lib.Math.max.name ∈ zw := zm5 46 rfl rfl
set_option maxRecDepth 20000 in
theorem lk_X11_321 : ZL RX11 321 11 10 := ⟨by decide, by decide, zm2 216 rfl rfl⟩
set_option maxRecDepth 20000 in
theorem lk_X11_324 : ZV RX11 324 mX11_putOnTape 1 := ⟨kc_X11_putOnTape, zm5 51 rfl rfl, zm5 53 rfl rfl, zms 31 rfl⟩
set_option maxRecDepth 20000 in
theorem lk_X11_327 : ZV RX11 327 mX6_parse 2 := ⟨kc_X6_parse, zm5 59 rfl rfl, zm5 60 rfl rfl, zm5 61 rfl rfl⟩
set_option maxRecDepth 20000 in
theorem lk_X11_331 : ZL RX11 331 6 12 := ⟨by decide, by decide, zm2 174 rfl rfl⟩
set_option maxRecDepth 20000 in
theorem lk_X11_332 : ZL RX11 332 6 13 := ⟨by decide, by decide, zm2 176 rfl rfl⟩
set_option maxRecDepth 20000 in
theorem lk_X11_333 : ZL RX11 333 11 13 := ⟨by decide, by decide, zm2 219 rfl rfl⟩
set_option maxRecDepth 20000 in
theorem lk_X11_337 : ZV RX11 337 mX5_forgetMarks 0 := ⟨kc_X5_forgetMarks, zm5 195 rfl rfl, zm5 196 rfl rfl, zm5 197 rfl rfl⟩
set_option maxRecDepth 20000 in
theorem lk_X11_340 : ZL RX11 340 6 11 := ⟨by decide, by decide, zm2 172 rfl rfl⟩
set_option maxRecDepth 20000 in
theorem lk_X11_343 : ZV RX11 343 mX5_perform 1 := ⟨kc_X5_perform, zm5 207 rfl rfl, zm5 208 rfl rfl, zm5 209 rfl rfl⟩
set_option maxRecDepth 20000 in
theorem lk_X11_347 : ZL RX11 347 5 9 := ⟨by decide, by decide, zm2 55 rfl rfl⟩
set_option maxRecDepth 20000 in
theorem lk_X11_350 : ZL RX11 350 5 10 := ⟨by decide, by decide, zm2 57 rfl rfl⟩
set_option maxRecDepth 20000 in
theorem lk_X11_353 : ZV RX11 353 mX5_nameOfMark 1 := ⟨kc_X5_nameOfMark, zm6 45 rfl rfl, zm6 46 rfl rfl, zm6 47 rfl rfl⟩
set_option maxRecDepth 20000 in
theorem lk_X11_356 : ZL RX11 356 5 3 := ⟨by decide, by decide, zm2 47 rfl rfl⟩
set_option maxRecDepth 20000 in
theorem lk_X11_359 : ZL RX11 359 5 4 := ⟨by decide, by decide, zm2 49 rfl rfl⟩
set_option maxRecDepth 20000 in
theorem lk_X11_362 : ZL RX11 362 10 2 := ⟨by decide, by decide, zm1 43 rfl rfl⟩
set_option maxRecDepth 20000 in
theorem lk_X11_363 : ZV RX11 363 mX7_hasRoomFor 1 := ⟨kc_X7_hasRoomFor, zm3 156 rfl rfl, zm3 157 rfl rfl, zm3 158 rfl rfl⟩
set_option maxRecDepth 20000 in
theorem lk_X12_1 : Cond.methodLink RX12 1 Lib.objectInit ∈ zw := zm6 54 rfl rfl
set_option maxRecDepth 20000 in
theorem lk_X12_7 : ZL RX12 7 12 1 := ⟨by decide, by decide, zm6 57 rfl rfl⟩
set_option maxRecDepth 20000 in
theorem lk_X12_13 : ZL RX12 13 12 2 := ⟨by decide, by decide, zm6 58 rfl rfl⟩
set_option maxRecDepth 20000 in
theorem lk_X12_16 : ZL RX12 16 12 3 := ⟨by decide, by decide, zm6 59 rfl rfl⟩
set_option maxRecDepth 20000 in
theorem lk_X12_20 : ZL RX12 20 12 5 := ⟨by decide, by decide, zm6 61 rfl rfl⟩
set_option maxRecDepth 20000 in
theorem lk_X12_24 : ZL RX12 24 12 6 := ⟨by decide, by decide, zm6 62 rfl rfl⟩
set_option maxRecDepth 20000 in
theorem lk_X12_27 : ZL RX12 27 12 7 := ⟨by decide, by decide, zm6 63 rfl rfl⟩
set_option maxRecDepth 20000 in
theorem lk_X12_30 : ZL RX12 30 12 8 := ⟨by decide, by decide, zm6 64 rfl rfl⟩
set_option maxRecDepth 20000 in
theorem lk_X12_33 : ZL RX12 33 12 9 := ⟨by decide, by decide, zm6 65 rfl rfl⟩
set_option maxRecDepth 20000 in
theorem lk_X12_36 : ZL RX12 36 12 10 := ⟨by decide, by decide, zm6 66 rfl rfl⟩
set_option maxRecDepth 20000 in
theorem lk_X12_39 : ZL RX12 39 12 11 := ⟨by decide, by decide, zm6 67 rfl rfl⟩
set_option maxRecDepth 20000 in
theorem lk_X12_42 : ZL RX12 42 12 12 := ⟨by decide, by decide, zm6 68 rfl rfl⟩
set_option maxRecDepth 20000 in
theorem lk_X12_45 : ZL RX12 45 12 13 := ⟨by decide, by decide, zm6 69 rfl rfl⟩
set_option maxRecDepth 20000 in
theorem lk_X12_48 : ZL RX12 48 12 14 := ⟨by decide, by decide, zm6 70 rfl rfl⟩
set_option maxRecDepth 20000 in
theorem lk_X12_51 : ZL RX12 51 12 15 := ⟨by decide, by decide, zm6 71 rfl rfl⟩
set_option maxRecDepth 20000 in
theorem lk_X12_54 : ZL RX12 54 12 16 := ⟨by decide, by decide, zm6 72 rfl rfl⟩
set_option maxRecDepth 20000 in
theorem lk_X12_57 : ZL RX12 57 12 17 := ⟨by decide, by decide, zm6 73 rfl rfl⟩
set_option maxRecDepth 20000 in
theorem lk_X12_60 : ZL RX12 60 12 18 := ⟨by decide, by decide, zm6 74 rfl rfl⟩
set_option maxRecDepth 20000 in
theorem lk_X12_63 : ZL RX12 63 12 19 := ⟨by decide, by decide, zm6 75 rfl rfl⟩
set_option maxRecDepth 20000 in
theorem lk_X12_66 : ZL RX12 66 12 21 := ⟨by decide, by decide, zm6 77 rfl rfl⟩
set_option maxRecDepth 20000 in
theorem lk_X12_69 : ZL RX12 69 12 22 := ⟨by decide, by decide, zm6 78 rfl rfl⟩
set_option maxRecDepth 20000 in
theorem lk_X12_72 : ZL RX12 72 12 23 := ⟨by decide, by decide, zm6 79 rfl rfl⟩
set_option maxRecDepth 20000 in
theorem lk_X12_75 : ZL RX12 75 12 24 := ⟨by decide, by decide, zm6 80 rfl rfl⟩
set_option maxRecDepth 20000 in
theorem lk_X12_78 : ZL RX12 78 12 26 := ⟨by decide, by decide, zm6 82 rfl rfl⟩
set_option maxRecDepth 20000 in
theorem lk_X12_82 : ZL RX12 82 12 27 := ⟨by decide, by decide, zm6 83 rfl rfl⟩
set_option maxRecDepth 20000 in
theorem lk_X12_85 : ZL RX12 85 12 28 := ⟨by decide, by decide, zm6 84 rfl rfl⟩
set_option maxRecDepth 20000 in
theorem lk_X12_88 : Cond.constant RX12 88 (65536) ∈ zw := zm6 55 rfl rfl
set_option maxRecDepth 20000 in
theorem lk_X12_89 : ZL RX12 89 12 29 := ⟨by decide, by decide, zm6 85 rfl rfl⟩
set_option maxRecDepth 20000 in
theorem lk_X12_92 : ZL RX12 92 12 34 := ⟨by decide, by decide, zm6 90 rfl rfl⟩
set_option maxRecDepth 20000 in
theorem lk_X12_95 : ZL RX12 95 12 35 := ⟨by decide, by decide, zm6 91 rfl rfl⟩
set_option maxRecDepth 20000 in
theorem lk_X12_98 : ZL RX12 98 12 36 := ⟨by decide, by decide, zm6 92 rfl rfl⟩
set_option maxRecDepth 20000 in
theorem lk_X12_101 : ZL RX12 101 12 39 := ⟨by decide, by decide, zm6 95 rfl rfl⟩
set_option maxRecDepth 20000 in
theorem lk_X12_104 : ZL RX12 104 12 41 := ⟨by decide, by decide, zm6 97 rfl rfl⟩
set_option maxRecDepth 20000 in
theorem lk_X12_108 : ZL RX12 108 12 42 := ⟨by decide, by decide, zm6 98 rfl rfl⟩
set_option maxRecDepth 20000 in
theorem lk_X12_111 : ZL RX12 111 12 49 := ⟨by decide, by decide, zm6 105 rfl rfl⟩
set_option maxRecDepth 20000 in
theorem lk_X12_114 : ZL RX12 114 12 50 := ⟨by decide, by decide, zm6 106 rfl rfl⟩
set_option maxRecDepth 20000 in
theorem lk_X12_117 : ZL RX12 117 12 53 := ⟨by decide, by decide, zm6 109 rfl rfl⟩
set_option maxRecDepth 20000 in
theorem lk_X12_120 : ZL RX12 120 12 54 := ⟨by decide, by decide, zm6 110 rfl rfl⟩
set_option maxRecDepth 20000 in
theorem lk_X12_123 : ZL RX12 123 12 55 := ⟨by decide, by decide, zm6 111 rfl rfl⟩
set_option maxRecDepth 20000 in
theorem lk_X12_126 : ZL RX12 126 12 56 := ⟨by decide, by decide, zm6 112 rfl rfl⟩
set_option maxRecDepth 20000 in
theorem lk_X12_129 : ZL RX12 129 12 57 := ⟨by decide, by decide, zm6 113 rfl rfl⟩
set_option maxRecDepth 20000 in
theorem lk_X12_132 : ZL RX12 132 12 58 := ⟨by decide, by decide, zm6 114 rfl rfl⟩
set_option maxRecDepth 20000 in
theorem lk_X12_135 : ZL RX12 135 12 59 := ⟨by decide, by decide, zm6 115 rfl rfl⟩
set_option maxRecDepth 20000 in
theorem lk_X12_138 : ZL RX12 138 12 60 := ⟨by decide, by decide, zm6 116 rfl rfl⟩
set_option maxRecDepth 20000 in
theorem lk_X12_141 : ZL RX12 141 12 61 := ⟨by decide, by decide, zm6 117 rfl rfl⟩
set_option maxRecDepth 20000 in
theorem lk_X12_144 : ZL RX12 144 12 62 := ⟨by decide, by decide, zm6 118 rfl rfl⟩
set_option maxRecDepth 20000 in
theorem lk_X12_147 : ZL RX12 147 12 63 := ⟨by decide, by decide, zm6 119 rfl rfl⟩
set_option maxRecDepth 20000 in
theorem lk_X12_150 : ZL RX12 150 12 64 := ⟨by decide, by decide, zm6 120 rfl rfl⟩
set_option maxRecDepth 20000 in
theorem lk_X12_153 : ZL RX12 153 12 65 := ⟨by decide, by decide, zm6 121 rfl rfl⟩
set_option maxRecDepth 20000 in
theorem lk_X12_156 : ZL RX12 156 12 66 := ⟨by decide, by decide, zm6 122 rfl rfl⟩
set_option maxRecDepth 20000 in
theorem lk_X12_159 : ZL RX12 159 12 67 := ⟨by decide, by decide, zm6 123 rfl rfl⟩
set_option maxRecDepth 20000 in
theorem lk_X12_162 : ZL RX12 162 12 72 := ⟨by decide, by decide, zm6 128 rfl rfl⟩
set_option maxRecDepth 20000 in
theorem lk_X12_165 : ZL RX12 165 12 73 := ⟨by decide, by decide, zm6 129 rfl rfl⟩
set_option maxRecDepth 20000 in
theorem lk_X12_168 : ZL RX12 168 12 75 := ⟨by decide, by decide, zm6 131 rfl rfl⟩
set_option maxRecDepth 20000 in
theorem lk_X12_171 : ZL RX12 171 12 76 := ⟨by decide, by decide, zm6 132 rfl rfl⟩
set_option maxRecDepth 20000 in
theorem lk_X12_174 : ZL RX12 174 12 77 := ⟨by decide, by decide, zm6 133 rfl rfl⟩
set_option maxRecDepth 20000 in
theorem lk_X12_177 : ZL RX12 177 12 78 := ⟨by decide, by decide, zm6 134 rfl rfl⟩
set_option maxRecDepth 20000 in
theorem lk_X12_180 : ZL RX12 180 12 79 := ⟨by decide, by decide, zm6 135 rfl rfl⟩
set_option maxRecDepth 20000 in
theorem lk_X12_183 : ZL RX12 183 12 80 := ⟨by decide, by decide, zm6 136 rfl rfl⟩
set_option maxRecDepth 20000 in
theorem lk_X12_186 : ZL RX12 186 12 82 := ⟨by decide, by decide, zm6 138 rfl rfl⟩
set_option maxRecDepth 20000 in
theorem lk_X12_189 : ZL RX12 189 12 83 := ⟨by decide, by decide, zm6 139 rfl rfl⟩
set_option maxRecDepth 20000 in
theorem lk_X12_192 : ZL RX12 192 12 84 := ⟨by decide, by decide, zm6 140 rfl rfl⟩
set_option maxRecDepth 20000 in
theorem lk_X12_195 : ZL RX12 195 12 85 := ⟨by decide, by decide, zm6 141 rfl rfl⟩
set_option maxRecDepth 20000 in
theorem lk_X12_198 : ZL RX12 198 12 0 := ⟨by decide, by decide, zm6 56 rfl rfl⟩
set_option maxRecDepth 20000 in
theorem lk_X12_201 : ZT RX12 201 mX12_isTray 1 := ⟨kc_X12_isTray, zm7 83 rfl rfl, zm7 84 rfl rfl⟩
set_option maxRecDepth 20000 in
theorem lk_X12_205 : ZV RX12 205 mX12_is 1 := ⟨kc_X12_is, zm7 86 rfl rfl, zm7 88 rfl rfl, zms 59 rfl⟩
set_option maxRecDepth 20000 in
theorem lk_X12_208 : ZV RX12 208 mX12_wrongPlace 2 := ⟨kc_X12_wrongPlace, zm7 94 rfl rfl, zm7 96 rfl rfl, zms 60 rfl⟩
set_option maxRecDepth 20000 in
theorem lk_X12_212 : ZT RX12 212 mX12_cut 2 := ⟨kc_X12_cut, zm7 98 rfl rfl, zm7 99 rfl rfl⟩
set_option maxRecDepth 20000 in
theorem lk_X12_216 : Cond.constantLong RX12 216 (-1) ∈ zw := zm7 105 rfl rfl
set_option maxRecDepth 20000 in
theorem lk_X12_218 : ZL RX12 218 12 4 := ⟨by decide, by decide, zm6 60 rfl rfl⟩
set_option maxRecDepth 20000 in
theorem lk_X12_221 : ZV RX12 221 mX12_refuse 1 := ⟨kc_X12_refuse, zm7 114 rfl rfl, zm7 116 rfl rfl, zms 61 rfl⟩
set_option maxRecDepth 20000 in
theorem lk_X12_225 : Cond.constantLong RX12 225 (40) ∈ zw := zm7 118 rfl rfl
set_option maxRecDepth 20000 in
theorem lk_X12_227 : ZV RX12 227 mX12_gives 1 := ⟨kc_X12_gives, zm7 119 rfl rfl, zm7 121 rfl rfl, zms 62 rfl⟩
set_option maxRecDepth 20000 in
theorem lk_X12_230 : ZV RX12 230 mX12_isSong 1 := ⟨kc_X12_isSong, zm7 127 rfl rfl, zm7 129 rfl rfl, zms 63 rfl⟩
set_option maxRecDepth 20000 in
theorem lk_X12_233 : Cond.methodLink RX12 233 Lib.Math.max.name ∈ zw := zm7 131 rfl rfl
set_option maxRecDepth 20000 in
theorem lk_X12_238 : ZT RX12 238 mX12_isSide 1 := ⟨kc_X12_isSide, zm7 140 rfl rfl, zm7 141 rfl rfl⟩
set_option maxRecDepth 20000 in
theorem lk_X12_241 : ZV RX12 241 mX12_empty 1 := ⟨kc_X12_empty, zm7 143 rfl rfl, zm7 145 rfl rfl, zms 64 rfl⟩
set_option maxRecDepth 20000 in
theorem lk_X12_245 : ZT RX12 245 mX12_at 2 := ⟨kc_X12_at, zm7 155 rfl rfl, zm7 156 rfl rfl⟩
set_option maxRecDepth 20000 in
theorem lk_X12_248 : ZV RX12 248 mX12_puts 3 := ⟨kc_X12_puts, zm7 151 rfl rfl, zm7 153 rfl rfl, zms 65 rfl⟩
set_option maxRecDepth 20000 in
theorem lk_X12_252 : ZV RX12 252 mX12_isPart 2 := ⟨kc_X12_isPart, zm7 170 rfl rfl, zm7 172 rfl rfl, zms 66 rfl⟩
set_option maxRecDepth 20000 in
theorem lk_X12_256 : ZL RX12 256 12 20 := ⟨by decide, by decide, zm6 76 rfl rfl⟩
set_option maxRecDepth 20000 in
theorem lk_X12_260 : ZV RX12 260 mX12_raise 2 := ⟨kc_X12_raise, zm7 190 rfl rfl, zm7 192 rfl rfl, zms 70 rfl⟩
set_option maxRecDepth 20000 in
theorem lk_X12_264 : ZV RX12 264 mX12_push 1 := ⟨kc_X12_push, zm7 186 rfl rfl, zm7 188 rfl rfl, zms 69 rfl⟩
set_option maxRecDepth 20000 in
theorem lk_X12_267 : ZV RX12 267 mX12_stuck 1 := ⟨kc_X12_stuck, zm7 178 rfl rfl, zm7 180 rfl rfl, zms 67 rfl⟩
set_option maxRecDepth 20000 in
theorem lk_X12_270 : ZV RX12 270 mX12_spread 1 := ⟨kc_X12_spread, zm7 182 rfl rfl, zm7 184 rfl rfl, zms 68 rfl⟩
set_option maxRecDepth 20000 in
theorem lk_X12_273 : ZV RX12 273 mX12_roomOf 1 := ⟨kc_X12_roomOf, zm7 198 rfl rfl, zm7 200 rfl rfl, zms 71 rfl⟩
set_option maxRecDepth 20000 in
theorem lk_X12_276 : Cond.methodLink RX12 276 Lib.Math.min.name ∈ zw := zm7 214 rfl rfl
set_option maxRecDepth 20000 in
theorem lk_X12_279 : ZV RX12 279 mX12_isAhead 2 := ⟨kc_X12_isAhead, zm7 235 rfl rfl, zm7 237 rfl rfl, zms 74 rfl⟩
set_option maxRecDepth 20000 in
theorem lk_X12_282 : ZL RX12 282 12 25 := ⟨by decide, by decide, zm6 81 rfl rfl⟩
set_option maxRecDepth 20000 in
theorem lk_X12_285 : ZV RX12 285 mX12_choose 1 := ⟨kc_X12_choose, zm7 231 rfl rfl, zm7 233 rfl rfl, zms 73 rfl⟩
set_option maxRecDepth 20000 in
theorem lk_X12_288 : ZV RX12 288 mX12_orders 0 := ⟨kc_X12_orders, zm7 227 rfl rfl, zm7 229 rfl rfl, zms 72 rfl⟩
set_option maxRecDepth 20000 in
theorem lk_X12_292 : ZV RX12 292 mX12_ringOf 2 := ⟨kc_X12_ringOf, zm8 15 rfl rfl, zm8 17 rfl rfl, zms 75 rfl⟩
set_option maxRecDepth 20000 in
theorem lk_X12_295 : ZL RX12 295 12 30 := ⟨by decide, by decide, zm6 86 rfl rfl⟩
set_option maxRecDepth 20000 in
theorem lk_X12_298 : ZV RX12 298 mX12_hasClick 2 := ⟨kc_X12_hasClick, zm8 43 rfl rfl, zm8 45 rfl rfl, zms 78 rfl⟩
set_option maxRecDepth 20000 in
theorem lk_X12_301 : ZV RX12 301 mX12_lineFrom 3 := ⟨kc_X12_lineFrom, zm8 39 rfl rfl, zm8 41 rfl rfl, zms 77 rfl⟩
set_option maxRecDepth 20000 in
theorem lk_X12_305 : ZL RX12 305 12 31 := ⟨by decide, by decide, zm6 87 rfl rfl⟩
set_option maxRecDepth 20000 in
theorem lk_X12_308 : ZL RX12 308 12 32 := ⟨by decide, by decide, zm6 88 rfl rfl⟩
set_option maxRecDepth 20000 in
theorem lk_X12_311 : ZL RX12 311 12 33 := ⟨by decide, by decide, zm6 89 rfl rfl⟩
set_option maxRecDepth 20000 in
theorem lk_X12_314 : ZV RX12 314 mX12_findLine 0 := ⟨kc_X12_findLine, zm8 35 rfl rfl, zm8 37 rfl rfl, zms 76 rfl⟩
set_option maxRecDepth 20000 in
theorem lk_X12_318 : ZV RX12 318 mX12_through 2 := ⟨kc_X12_through, zm8 55 rfl rfl, zm8 57 rfl rfl, zms 79 rfl⟩
set_option maxRecDepth 20000 in
theorem lk_X12_321 : Cond.constant RX12 321 (1000000) ∈ zw := zm8 59 rfl rfl
set_option maxRecDepth 20000 in
theorem lk_X12_322 : ZL RX12 322 12 37 := ⟨by decide, by decide, zm6 93 rfl rfl⟩
set_option maxRecDepth 20000 in
theorem lk_X12_325 : ZV RX12 325 mX12_find 1 := ⟨kc_X12_find, zm8 72 rfl rfl, zm8 74 rfl rfl, zms 80 rfl⟩
set_option maxRecDepth 20000 in
theorem lk_X12_328 : ZL RX12 328 12 38 := ⟨by decide, by decide, zm6 94 rfl rfl⟩
set_option maxRecDepth 20000 in
theorem lk_X12_331 : ZV RX12 331 mX12_placeOf 2 := ⟨kc_X12_placeOf, zm8 96 rfl rfl, zm8 98 rfl rfl, zms 84 rfl⟩
set_option maxRecDepth 20000 in
theorem lk_X12_334 : Cond.methodLink RX12 334 Lib.Math.abs.name ∈ zw := zm8 100 rfl rfl
set_option maxRecDepth 20000 in
theorem lk_X12_337 : ZV RX12 337 mX12_fall 3 := ⟨kc_X12_fall, zm8 92 rfl rfl, zm8 94 rfl rfl, zms 83 rfl⟩
set_option maxRecDepth 20000 in
theorem lk_X12_340 : ZV RX12 340 mX12_behind 2 := ⟨kc_X12_behind, zm8 101 rfl rfl, zm8 103 rfl rfl, zms 85 rfl⟩
set_option maxRecDepth 20000 in
theorem lk_X12_343 : ZV RX12 343 mX12_play 2 := ⟨kc_X12_play, zm8 88 rfl rfl, zm8 90 rfl rfl, zms 82 rfl⟩
set_option maxRecDepth 20000 in
theorem lk_X12_346 : ZL RX12 346 12 40 := ⟨by decide, by decide, zm6 96 rfl rfl⟩
set_option maxRecDepth 20000 in
theorem lk_X12_349 : ZV RX12 349 mX12_listen 2 := ⟨kc_X12_listen, zm8 84 rfl rfl, zm8 86 rfl rfl, zms 81 rfl⟩
set_option maxRecDepth 20000 in
theorem lk_X12_352 : ZV RX12 352 mX12_besides 0 := ⟨kc_X12_besides, zm8 117 rfl rfl, zm8 119 rfl rfl, zms 86 rfl⟩
set_option maxRecDepth 20000 in
theorem lk_X12_355 : ZL RX12 355 12 43 := ⟨by decide, by decide, zm6 99 rfl rfl⟩
set_option maxRecDepth 20000 in
theorem lk_X12_358 : ZV RX12 358 mX12_four 1 := ⟨kc_X12_four, zm8 129 rfl rfl, zm8 131 rfl rfl, zms 87 rfl⟩
set_option maxRecDepth 20000 in
theorem lk_X12_361 : ZL RX12 361 12 44 := ⟨by decide, by decide, zm6 100 rfl rfl⟩
set_option maxRecDepth 20000 in
theorem lk_X12_364 : ZL RX12 364 12 47 := ⟨by decide, by decide, zm6 103 rfl rfl⟩
set_option maxRecDepth 20000 in
theorem lk_X12_367 : ZV RX12 367 mX12_sign 1 := ⟨kc_X12_sign, zm8 141 rfl rfl, zm8 143 rfl rfl, zms 89 rfl⟩
set_option maxRecDepth 20000 in
theorem lk_X12_370 : ZL RX12 370 12 46 := ⟨by decide, by decide, zm6 102 rfl rfl⟩
set_option maxRecDepth 20000 in
theorem lk_X12_373 : ZL RX12 373 12 48 := ⟨by decide, by decide, zm6 104 rfl rfl⟩
set_option maxRecDepth 20000 in
theorem lk_X12_376 : ZL RX12 376 12 45 := ⟨by decide, by decide, zm6 101 rfl rfl⟩
set_option maxRecDepth 20000 in
theorem lk_X12_379 : ZT RX12 379 mX12_isSmall 1 := ⟨kc_X12_isSmall, zm8 145 rfl rfl, zm8 146 rfl rfl⟩
set_option maxRecDepth 20000 in
theorem lk_X12_382 : ZT RX12 382 mX12_isDigit 1 := ⟨kc_X12_isDigit, zm8 148 rfl rfl, zm8 149 rfl rfl⟩
set_option maxRecDepth 20000 in
theorem lk_X12_385 : Cond.constant RX12 385 (100000) ∈ zw := zm8 151 rfl rfl
set_option maxRecDepth 20000 in
theorem lk_X12_386 : ZV RX12 386 mJ0_length_8abf5 0 := ⟨kc_J0_length_8abf5, zm8 169 rfl rfl, zm5 86 rfl rfl, zm5 87 rfl rfl⟩
set_option maxRecDepth 20000 in
theorem lk_X12_391 : ZV RX12 391 mJ0_charAt_5068e 1 := ⟨kc_J0_charAt_5068e, zm8 170 rfl rfl, zm5 96 rfl rfl, zm5 97 rfl rfl⟩
set_option maxRecDepth 20000 in
theorem lk_X12_395 : ZL RX12 395 12 51 := ⟨by decide, by decide, zm6 107 rfl rfl⟩
set_option maxRecDepth 20000 in
theorem lk_X12_398 : ZV RX12 398 mX12_isSign 1 := ⟨kc_X12_isSign, zm8 152 rfl rfl, zm8 154 rfl rfl, zms 90 rfl⟩
set_option maxRecDepth 20000 in
theorem lk_X12_401 : ZV RX12 401 mX12_fail 1 := ⟨kc_X12_fail, zm8 175 rfl rfl, zm8 177 rfl rfl, zms 95 rfl⟩
set_option maxRecDepth 20000 in
theorem lk_X12_404 : ZV RX12 404 mX12_next 0 := ⟨kc_X12_next, zm8 137 rfl rfl, zm8 139 rfl rfl, zms 88 rfl⟩
set_option maxRecDepth 20000 in
theorem lk_X12_407 : ZL RX12 407 12 71 := ⟨by decide, by decide, zm6 127 rfl rfl⟩
theorem lk_X12_410 : (RX12, 410, "side", 0) ∈ zstrs := by decide +kernel
set_option maxRecDepth 20000 in
theorem lk_X12_412 : ZV RX12 412 mX12_isWord 1 := ⟨kc_X12_isWord, zm8 165 rfl rfl, zm8 167 rfl rfl, zms 93 rfl⟩
theorem lk_X12_416 : (RX12, 416, "lead", 1) ∈ zstrs := by decide +kernel
theorem lk_X12_418 : (RX12, 418, "song", 2) ∈ zstrs := by decide +kernel
theorem lk_X12_420 : (RX12, 420, "lock", 3) ∈ zstrs := by decide +kernel
theorem lk_X12_422 : (RX12, 422, "mark", 4) ∈ zstrs := by decide +kernel
theorem lk_X12_424 : (RX12, 424, "again", 5) ∈ zstrs := by decide +kernel
theorem lk_X12_426 : (RX12, 426, "when", 6) ∈ zstrs := by decide +kernel
set_option maxRecDepth 20000 in
theorem lk_X12_428 : ZV RX12 428 mX12_kindHere 0 := ⟨kc_X12_kindHere, zm8 183 rfl rfl, zm8 185 rfl rfl, zms 97 rfl⟩
set_option maxRecDepth 20000 in
theorem lk_X12_431 : ZL RX12 431 12 70 := ⟨by decide, by decide, zm6 126 rfl rfl⟩
set_option maxRecDepth 20000 in
theorem lk_X12_434 : ZL RX12 434 12 74 := ⟨by decide, by decide, zm6 130 rfl rfl⟩
set_option maxRecDepth 20000 in
theorem lk_X12_437 : ZV RX12 437 mX12_set 3 := ⟨kc_X12_set, zm8 160 rfl rfl, zm8 162 rfl rfl, zms 92 rfl⟩
set_option maxRecDepth 20000 in
theorem lk_X12_440 : ZV RX12 440 mX12_wantName 0 := ⟨kc_X12_wantName, zm8 194 rfl rfl, zm8 196 rfl rfl, zms 98 rfl⟩
set_option maxRecDepth 20000 in
theorem lk_X12_443 : ZV RX12 443 mX12_tests 1 := ⟨kc_X12_tests, zm8 198 rfl rfl, zm8 200 rfl rfl, zms 99 rfl⟩
set_option maxRecDepth 20000 in
theorem lk_X12_446 : ZV RX12 446 mX12_wantNumber 2 := ⟨kc_X12_wantNumber, zm8 205 rfl rfl, zm8 207 rfl rfl, zms 100 rfl⟩
set_option maxRecDepth 20000 in
theorem lk_X12_449 : ZV RX12 449 mX12_options 1 := ⟨kc_X12_options, zm8 209 rfl rfl, zm8 211 rfl rfl, zms 101 rfl⟩
set_option maxRecDepth 20000 in
theorem lk_X12_452 : ZV RX12 452 mX12_want 1 := ⟨kc_X12_want, zm8 171 rfl rfl, zm8 173 rfl rfl, zms 94 rfl⟩
theorem lk_X12_455 : (RX12, 455, "parts", 13) ∈ zstrs := by decide +kernel
theorem lk_X12_456 : (RX12, 456, "room", 14) ∈ zstrs := by decide +kernel
theorem lk_X12_458 : (RX12, 458, "have", 12) ∈ zstrs := by decide +kernel
theorem lk_X12_460 : (RX12, 460, "from", 8) ∈ zstrs := by decide +kernel
theorem lk_X12_461 : (RX12, 461, "to", 9) ∈ zstrs := by decide +kernel
theorem lk_X12_463 : (RX12, 463, "soft", 10) ∈ zstrs := by decide +kernel
theorem lk_X12_464 : (RX12, 464, "fade", 11) ∈ zstrs := by decide +kernel
theorem lk_X12_465 : (RX12, 465, "else", 7) ∈ zstrs := by decide +kernel
set_option maxRecDepth 20000 in
theorem lk_X12_467 : ZV RX12 467 mX12_closes 0 := ⟨kc_X12_closes, zm8 156 rfl rfl, zm8 158 rfl rfl, zms 91 rfl⟩
set_option maxRecDepth 20000 in
theorem lk_X12_470 : ZV RX12 470 mX12_step 0 := ⟨kc_X12_step, zm8 179 rfl rfl, zm8 181 rfl rfl, zms 96 rfl⟩
set_option maxRecDepth 20000 in
theorem lk_X12_473 : ZL RX12 473 12 68 := ⟨by decide, by decide, zm6 124 rfl rfl⟩
set_option maxRecDepth 20000 in
theorem lk_X12_476 : ZL RX12 476 12 69 := ⟨by decide, by decide, zm6 125 rfl rfl⟩
set_option maxRecDepth 20000 in
theorem lk_X12_479 : ZL RX12 479 12 52 := ⟨by decide, by decide, zm6 108 rfl rfl⟩
set_option maxRecDepth 20000 in
theorem lk_X12_482 : ZL RX12 482 12 81 := ⟨by decide, by decide, zm6 137 rfl rfl⟩
set_option maxRecDepth 20000 in
theorem lk_X12_485 : ZV RX12 485 mX12_endOf 1 := ⟨kc_X12_endOf, zm8 233 rfl rfl, zm8 235 rfl rfl, zms 104 rfl⟩
set_option maxRecDepth 20000 in
theorem lk_X12_488 : ZV RX12 488 mX12_beginOf 1 := ⟨kc_X12_beginOf, zm8 237 rfl rfl, zm8 239 rfl rfl, zms 105 rfl⟩
set_option maxRecDepth 20000 in
theorem lk_X12_491 : ZV RX12 491 mX12_keep 1 := ⟨kc_X12_keep, zm8 225 rfl rfl, zm8 227 rfl rfl, zms 102 rfl⟩
set_option maxRecDepth 20000 in
theorem lk_X12_495 : ZV RX12 495 mX12_wrongStep 1 := ⟨kc_X12_wrongStep, zm8 229 rfl rfl, zm8 231 rfl rfl, zms 103 rfl⟩
set_option maxRecDepth 20000 in
theorem lk_X12_498 : ZV RX12 498 mX12_holds 1 := ⟨kc_X12_holds, zm9 1 rfl rfl, zm9 3 rfl rfl, zms 106 rfl⟩
set_option maxRecDepth 20000 in
theorem lk_X12_501 : ZV RX12 501 mX12_does 1 := ⟨kc_X12_does, zm9 5 rfl rfl, zm9 7 rfl rfl, zms 107 rfl⟩
set_option maxRecDepth 20000 in
theorem lk_X12_504 : ZV RX12 504 mX12_laysSong 1 := ⟨kc_X12_laysSong, zm9 9 rfl rfl, zm9 11 rfl rfl, zms 108 rfl⟩
set_option maxRecDepth 20000 in
theorem lk_J6_264 : Cond.constant RJ6 264 (65536) ∈ zw := zm4 142 rfl rfl
set_option maxRecDepth 20000 in
theorem lk_J6_265 : Cond.constant RJ6 265 (1431655765) ∈ zw := zm4 116 rfl rfl
set_option maxRecDepth 20000 in
theorem lk_J6_266 : Cond.constant RJ6 266 (858993459) ∈ zw := zm4 117 rfl rfl
set_option maxRecDepth 20000 in
theorem lk_J6_267 : Cond.constant RJ6 267 (252645135) ∈ zw := zm4 118 rfl rfl
set_option maxRecDepth 20000 in
theorem lk_J0_9 : Cond.fieldLink RJ0 9 "java/lang/String" "value" "[B" ∈ zw := zm9 22 rfl rfl
set_option maxRecDepth 20000 in
theorem lk_J0_335 : ZV RJ0 335 mJ0_coder_7d493 0 := ⟨kc_J0_coder_7d493, zm5 89 rfl rfl, zm5 90 rfl rfl, zm5 91 rfl rfl⟩
set_option maxRecDepth 20000 in
theorem lk_J0_492 : ZV RJ0 492 mJ0_isLatin1_aae02 0 := ⟨kc_J0_isLatin1_aae02, zm5 99 rfl rfl, zm5 100 rfl rfl, zm5 101 rfl rfl⟩
set_option maxRecDepth 20000 in
theorem lk_J0_495 : ZT RJ0 495 mJ1_charAt_3b067 2 := ⟨kc_J1_charAt_3b067, zm5 103 rfl rfl, zm5 104 rfl rfl⟩
set_option maxRecDepth 20000 in
theorem lk_J0_498 : ZT RJ0 498 mJ2_charAt_3b067 2 := ⟨kc_J2_charAt_3b067, zm5 114 rfl rfl, zm5 115 rfl rfl⟩
set_option maxRecDepth 20000 in
theorem lk_J0_38 : Cond.fieldLink RJ0 38 "java/lang/String" "COMPACT_STRINGS" "Z" ∈ zw := zm5 93 rfl rfl
set_option maxRecDepth 20000 in
theorem lk_J0_15 : Cond.fieldLink RJ0 15 "java/lang/String" "coder" "B" ∈ zw := zm9 23 rfl rfl
set_option maxRecDepth 20000 in
theorem lk_J0_1053 : Cond.fieldLink RJ0 1053 "jdk/internal/util/Preconditions" "SIOOBE_FORMATTER" "Ljava/util/function/BiFunction;" ∈ zw := zm5 109 rfl rfl
set_option maxRecDepth 20000 in
theorem lk_J0_1059 : ZT RJ0 1059 mJ3_checkIndex_8e157 3 := ⟨kc_J3_checkIndex_8e157, zm5 111 rfl rfl, zm5 112 rfl rfl⟩
set_option maxRecDepth 20000 in
theorem lk_J1_9 : ZT RJ1 9 mJ0_checkIndex_df160 2 := ⟨kc_J0_checkIndex_df160, zm5 106 rfl rfl, zm5 107 rfl rfl⟩
set_option maxRecDepth 20000 in
theorem lk_J2_44 : Cond.fieldLink RJ2 44 "java/lang/StringUTF16" "$assertionsDisabled" "Z" ∈ zw := zm5 127 rfl rfl
set_option maxRecDepth 20000 in
theorem lk_J2_48 : ZT RJ2 48 mJ2_length_9d52b 1 := ⟨kc_J2_length_9d52b, zm5 120 rfl rfl, zm5 121 rfl rfl⟩
set_option maxRecDepth 20000 in
theorem lk_J2_59 : Cond.fieldLink RJ2 59 "java/lang/StringUTF16" "HI_BYTE_SHIFT" "I" ∈ zw := zm5 129 rfl rfl
set_option maxRecDepth 20000 in
theorem lk_J2_63 : Cond.fieldLink RJ2 63 "java/lang/StringUTF16" "LO_BYTE_SHIFT" "I" ∈ zw := zm5 131 rfl rfl
set_option maxRecDepth 20000 in
theorem lk_J2_67 : ZT RJ2 67 mJ2_checkIndex_2214a 2 := ⟨kc_J2_checkIndex_2214a, zm5 117 rfl rfl, zm5 118 rfl rfl⟩
set_option maxRecDepth 20000 in
theorem lk_J2_71 : ZT RJ2 71 mJ2_getChar_3b067 2 := ⟨kc_J2_getChar_3b067, zm5 124 rfl rfl, zm5 125 rfl rfl⟩
set_option maxRecDepth 20000 in
theorem lk_J2_414 : ZT RJ2 414 mJ0_checkIndex_df160 2 := ⟨kc_J0_checkIndex_df160, zm5 123 rfl rfl, zm5 107 rfl rfl⟩
set_option maxRecDepth 20000 in
theorem ins_X0 : Cond.instantiable RX0 11 ∈ zw := zm1 150 rfl rfl
set_option maxRecDepth 20000 in
theorem ins_X1 : Cond.instantiable RX1 8 ∈ zw := zm1 217 rfl rfl
set_option maxRecDepth 20000 in
theorem ins_X2 : Cond.instantiable RX2 4 ∈ zw := zm2 13 rfl rfl
set_option maxRecDepth 20000 in
theorem ins_X3 : Cond.instantiable RX3 5 ∈ zw := zm1 192 rfl rfl
set_option maxRecDepth 20000 in
theorem ins_X4 : Cond.instantiable RX4 3 ∈ zw := zm1 81 rfl rfl
set_option maxRecDepth 20000 in
theorem ins_X5 : Cond.instantiable RX5 11 ∈ zw := zm2 33 rfl rfl
set_option maxRecDepth 20000 in
theorem ins_X6 : Cond.instantiable RX6 14 ∈ zw := zm2 82 rfl rfl
set_option maxRecDepth 20000 in
theorem ins_X7 : Cond.instantiable RX7 9 ∈ zw := zm1 104 rfl rfl
set_option maxRecDepth 20000 in
theorem ins_X8 : Cond.instantiable RX8 4 ∈ zw := zm1 53 rfl rfl
set_option maxRecDepth 20000 in
theorem ins_X9 : Cond.instantiable RX9 13 ∈ zw := zm2 89 rfl rfl
set_option maxRecDepth 20000 in
theorem ins_X10 : Cond.instantiable RX10 3 ∈ zw := zm1 32 rfl rfl
set_option maxRecDepth 20000 in
theorem ins_X11 : Cond.instantiable RX11 18 ∈ zw := zm1 23 rfl rfl
set_option maxRecDepth 20000 in
theorem ins_X12 : Cond.instantiable RX12 86 ∈ zw := zm6 50 rfl rfl
set_option maxRecDepth 20000 in
theorem acl_int : Cond.arrayClass .int ∈ zw := zm1 79 rfl rfl
set_option maxRecDepth 20000 in
theorem acl_long : Cond.arrayClass .long ∈ zw := zm1 51 rfl rfl
set_option maxRecDepth 20000 in
theorem acl_byte : Cond.arrayClass .byte ∈ zw := zm2 158 rfl rfl
set_option maxRecDepth 20000 in
theorem acl_boolean : Cond.arrayClass .boolean ∈ zw := zm1 190 rfl rfl
set_option maxRecDepth 20000 in
theorem obj_in : Cond.instanceMethod Lib.objectInit ∈ zw := zm1 28 rfl rfl
set_option maxRecDepth 20000 in
theorem obj_code : Cond.code Lib.objectInit ⟨#[0xb1]⟩ 1 none ∈ zw := zm1 29 rfl rfl
set_option maxRecDepth 20000 in
theorem mt_max_s : Cond.static Lib.Math.max.name ∈ zw := zm3 126 rfl rfl
set_option maxRecDepth 20000 in
theorem mt_max_c : Cond.code Lib.Math.max.name Lib.Math.max.code 2 (some .int) ∈ zw := zm3 127 (by decide +kernel) rfl
set_option maxRecDepth 20000 in
theorem mt_min_s : Cond.static Lib.Math.min.name ∈ zw := zm3 206 rfl rfl
set_option maxRecDepth 20000 in
theorem mt_min_c : Cond.code Lib.Math.min.name Lib.Math.min.code 2 (some .int) ∈ zw := zm3 207 (by decide +kernel) rfl
set_option maxRecDepth 20000 in
theorem mt_abs_s : Cond.static Lib.Math.abs.name ∈ zw := zm4 200 rfl rfl
set_option maxRecDepth 20000 in
theorem mt_abs_c : Cond.code Lib.Math.abs.name Lib.Math.abs.code 1 (some .int) ∈ zw := zm4 201 (by decide +kernel) rfl
set_option maxRecDepth 20000 in
theorem mt_ini : Cond.initialized "java/lang/Math" ∈ zw := zm1 16 rfl rfl
set_option maxRecDepth 20000 in
theorem ac_nat : Cond.native arraycopyName ∈ zw := zm3 90 rfl rfl
set_option maxRecDepth 20000 in
theorem ac_sta : Cond.static arraycopyName ∈ zw := zm3 89 rfl rfl
set_option maxRecDepth 20000 in
theorem ac_ini : Cond.initialized "java/lang/System" ∈ zw := zm1 15 rfl rfl
