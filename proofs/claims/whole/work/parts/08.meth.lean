/-! ===== printed: methods, their instructions, what their pools link ===== -/
theorem zm1 {w : Cond} (k : Nat) (h : tables_1_1[k]? = some w) (g : goodWord w = true) : w ∈ zw := by
  have h1 := List.mem_of_getElem? h
  exact List.mem_filter.mpr ⟨List.mem_append_right _ (show w ∈ tables_1_1 ++ (tables_1_2 ++ (tables_1_3 ++ (tables_1_4 ++ (tables_1_5 ++ (tables_1_6 ++ (tables_1_7 ++ (tables_1_8 ++ tables_1_9))))))) from List.mem_append_left _ h1), g⟩
theorem zm2 {w : Cond} (k : Nat) (h : tables_1_2[k]? = some w) (g : goodWord w = true) : w ∈ zw := by
  have h1 := List.mem_of_getElem? h
  exact List.mem_filter.mpr ⟨List.mem_append_right _ (show w ∈ tables_1_1 ++ (tables_1_2 ++ (tables_1_3 ++ (tables_1_4 ++ (tables_1_5 ++ (tables_1_6 ++ (tables_1_7 ++ (tables_1_8 ++ tables_1_9))))))) from List.mem_append_right _ (List.mem_append_left _ h1)), g⟩
theorem zm3 {w : Cond} (k : Nat) (h : tables_1_3[k]? = some w) (g : goodWord w = true) : w ∈ zw := by
  have h1 := List.mem_of_getElem? h
  exact List.mem_filter.mpr ⟨List.mem_append_right _ (show w ∈ tables_1_1 ++ (tables_1_2 ++ (tables_1_3 ++ (tables_1_4 ++ (tables_1_5 ++ (tables_1_6 ++ (tables_1_7 ++ (tables_1_8 ++ tables_1_9))))))) from List.mem_append_right _ (List.mem_append_right _ (List.mem_append_left _ h1))), g⟩
theorem zm4 {w : Cond} (k : Nat) (h : tables_1_4[k]? = some w) (g : goodWord w = true) : w ∈ zw := by
  have h1 := List.mem_of_getElem? h
  exact List.mem_filter.mpr ⟨List.mem_append_right _ (show w ∈ tables_1_1 ++ (tables_1_2 ++ (tables_1_3 ++ (tables_1_4 ++ (tables_1_5 ++ (tables_1_6 ++ (tables_1_7 ++ (tables_1_8 ++ tables_1_9))))))) from List.mem_append_right _ (List.mem_append_right _ (List.mem_append_right _ (List.mem_append_left _ h1)))), g⟩
theorem zm5 {w : Cond} (k : Nat) (h : tables_1_5[k]? = some w) (g : goodWord w = true) : w ∈ zw := by
  have h1 := List.mem_of_getElem? h
  exact List.mem_filter.mpr ⟨List.mem_append_right _ (show w ∈ tables_1_1 ++ (tables_1_2 ++ (tables_1_3 ++ (tables_1_4 ++ (tables_1_5 ++ (tables_1_6 ++ (tables_1_7 ++ (tables_1_8 ++ tables_1_9))))))) from List.mem_append_right _ (List.mem_append_right _ (List.mem_append_right _ (List.mem_append_right _ (List.mem_append_left _ h1))))), g⟩
theorem zm6 {w : Cond} (k : Nat) (h : tables_1_6[k]? = some w) (g : goodWord w = true) : w ∈ zw := by
  have h1 := List.mem_of_getElem? h
  exact List.mem_filter.mpr ⟨List.mem_append_right _ (show w ∈ tables_1_1 ++ (tables_1_2 ++ (tables_1_3 ++ (tables_1_4 ++ (tables_1_5 ++ (tables_1_6 ++ (tables_1_7 ++ (tables_1_8 ++ tables_1_9))))))) from List.mem_append_right _ (List.mem_append_right _ (List.mem_append_right _ (List.mem_append_right _ (List.mem_append_right _ (List.mem_append_left _ h1)))))), g⟩
theorem zm7 {w : Cond} (k : Nat) (h : tables_1_7[k]? = some w) (g : goodWord w = true) : w ∈ zw := by
  have h1 := List.mem_of_getElem? h
  exact List.mem_filter.mpr ⟨List.mem_append_right _ (show w ∈ tables_1_1 ++ (tables_1_2 ++ (tables_1_3 ++ (tables_1_4 ++ (tables_1_5 ++ (tables_1_6 ++ (tables_1_7 ++ (tables_1_8 ++ tables_1_9))))))) from List.mem_append_right _ (List.mem_append_right _ (List.mem_append_right _ (List.mem_append_right _ (List.mem_append_right _ (List.mem_append_right _ (List.mem_append_left _ h1))))))), g⟩
theorem zm8 {w : Cond} (k : Nat) (h : tables_1_8[k]? = some w) (g : goodWord w = true) : w ∈ zw := by
  have h1 := List.mem_of_getElem? h
  exact List.mem_filter.mpr ⟨List.mem_append_right _ (show w ∈ tables_1_1 ++ (tables_1_2 ++ (tables_1_3 ++ (tables_1_4 ++ (tables_1_5 ++ (tables_1_6 ++ (tables_1_7 ++ (tables_1_8 ++ tables_1_9))))))) from List.mem_append_right _ (List.mem_append_right _ (List.mem_append_right _ (List.mem_append_right _ (List.mem_append_right _ (List.mem_append_right _ (List.mem_append_right _ (List.mem_append_left _ h1)))))))), g⟩
theorem zm9 {w : Cond} (k : Nat) (h : tables_1_9[k]? = some w) (g : goodWord w = true) : w ∈ zw := by
  have h1 := List.mem_of_getElem? h
  exact List.mem_filter.mpr ⟨List.mem_append_right _ (show w ∈ tables_1_1 ++ (tables_1_2 ++ (tables_1_3 ++ (tables_1_4 ++ (tables_1_5 ++ (tables_1_6 ++ (tables_1_7 ++ (tables_1_8 ++ tables_1_9))))))) from List.mem_append_right _ (List.mem_append_right _ (List.mem_append_right _ (List.mem_append_right _ (List.mem_append_right _ (List.mem_append_right _ (List.mem_append_right _ (List.mem_append_right _ (h1))))))))), g⟩
set_option maxRecDepth 20000 in
theorem zms {y : MethodName} {n : Nat} (k : Nat) (h : lw_privs[k]? = some (y, n)) : Cond.selects y.cls y y ∈ zw := List.mem_filter.mpr ⟨List.mem_append_left _ (List.mem_map.mpr ⟨(y, n), List.mem_of_getElem? h, rfl⟩), rfl⟩
set_option maxRecDepth 20000 in
theorem ini_J0 : Cond.initialized RJ0 ∈ zw := zm1 18 rfl rfl
set_option maxRecDepth 20000 in
theorem ini_J1 : Cond.initialized RJ1 ∈ zw := zm1 19 rfl rfl
set_option maxRecDepth 20000 in
theorem ini_J10 : Cond.initialized RJ10 ∈ zw := zm1 15 rfl rfl
set_option maxRecDepth 20000 in
theorem ini_J2 : Cond.initialized RJ2 ∈ zw := zm1 21 rfl rfl
set_option maxRecDepth 20000 in
theorem ini_J3 : Cond.initialized RJ3 ∈ zw := zm1 20 rfl rfl
set_option maxRecDepth 20000 in
theorem ini_J6 : Cond.initialized RJ6 ∈ zw := zm1 17 rfl rfl
set_option maxRecDepth 20000 in
theorem ini_J7 : Cond.initialized RJ7 ∈ zw := zm1 11 rfl rfl
set_option maxRecDepth 20000 in
theorem ini_J9 : Cond.initialized RJ9 ∈ zw := zm1 16 rfl rfl
set_option maxRecDepth 20000 in
theorem ini_X0 : Cond.initialized RX0 ∈ zw := zm1 6 rfl rfl
set_option maxRecDepth 20000 in
theorem ini_X1 : Cond.initialized RX1 ∈ zw := zm1 8 rfl rfl
set_option maxRecDepth 20000 in
theorem ini_X10 : Cond.initialized RX10 ∈ zw := zm1 2 rfl rfl
set_option maxRecDepth 20000 in
theorem ini_X11 : Cond.initialized RX11 ∈ zw := zm1 1 rfl rfl
set_option maxRecDepth 20000 in
theorem ini_X12 : Cond.initialized RX12 ∈ zw := zm1 14 rfl rfl
set_option maxRecDepth 20000 in
theorem ini_X2 : Cond.initialized RX2 ∈ zw := zm1 9 rfl rfl
set_option maxRecDepth 20000 in
theorem ini_X3 : Cond.initialized RX3 ∈ zw := zm1 7 rfl rfl
set_option maxRecDepth 20000 in
theorem ini_X4 : Cond.initialized RX4 ∈ zw := zm1 4 rfl rfl
set_option maxRecDepth 20000 in
theorem ini_X5 : Cond.initialized RX5 ∈ zw := zm1 10 rfl rfl
set_option maxRecDepth 20000 in
theorem ini_X6 : Cond.initialized RX6 ∈ zw := zm1 12 rfl rfl
set_option maxRecDepth 20000 in
theorem ini_X7 : Cond.initialized RX7 ∈ zw := zm1 5 rfl rfl
set_option maxRecDepth 20000 in
theorem ini_X8 : Cond.initialized RX8 ∈ zw := zm1 3 rfl rfl
set_option maxRecDepth 20000 in
theorem ini_X9 : Cond.initialized RX9 ∈ zw := zm1 13 rfl rfl
abbrev mX0_init : ZM := (yX0_init, cX0_init, 4, none)
set_option maxRecDepth 20000 in
theorem kc_X0_init : ZK mX0_init 3 := ⟨zm1 153 rfl rfl, ini_X0, by decide +kernel, ⟨by decide +kernel, by decide +kernel, by decide +kernel⟩, by decide⟩
abbrev mX0_placeOf : ZM := (yX0_placeOf, cX0_placeOf, 3, some .int)
set_option maxRecDepth 20000 in
theorem kc_X0_placeOf : ZK mX0_placeOf 2 := ⟨zm5 6 rfl rfl, ini_X0, by decide +kernel, ⟨by decide +kernel, by decide +kernel, by decide +kernel⟩, by decide⟩
abbrev mX0_extentOf : ZM := (yX0_extentOf, cX0_extentOf, 3, some .int)
set_option maxRecDepth 20000 in
theorem kc_X0_extentOf : ZK mX0_extentOf 1 := ⟨zm5 45 rfl rfl, ini_X0, by decide +kernel, ⟨by decide +kernel, by decide +kernel, by decide +kernel⟩, by decide⟩
abbrev mX0_settle : ZM := (yX0_settle, cX0_settle, 2, some .boolean)
set_option maxRecDepth 20000 in
theorem kc_X0_settle : ZK mX0_settle 0 := ⟨zm4 228 rfl rfl, ini_X0, by decide +kernel, ⟨by decide +kernel, by decide +kernel, by decide +kernel⟩, by decide⟩
abbrev mX0_layOut : ZM := (yX0_layOut, cX0_layOut, 4, some .boolean)
set_option maxRecDepth 20000 in
theorem kc_X0_layOut : ZK mX0_layOut 0 := ⟨zm4 232 rfl rfl, ini_X0, by decide +kernel, ⟨by decide +kernel, by decide +kernel, by decide +kernel⟩, by decide⟩
abbrev mX0_addNewest : ZM := (yX0_addNewest, cX0_addNewest, 5, some .boolean)
set_option maxRecDepth 20000 in
theorem kc_X0_addNewest : ZK mX0_addNewest 2 := ⟨zm4 238 rfl rfl, ini_X0, by decide +kernel, ⟨by decide +kernel, by decide +kernel, by decide +kernel⟩, by decide⟩
abbrev mX0_askedFor : ZM := (yX0_askedFor, cX0_askedFor, 5, some .int)
set_option maxRecDepth 20000 in
theorem kc_X0_askedFor : ZK mX0_askedFor 2 := ⟨zm5 2 rfl rfl, ini_X0, by decide +kernel, ⟨by decide +kernel, by decide +kernel, by decide +kernel⟩, by decide⟩
abbrev mX0_edgeOf : ZM := (yX0_edgeOf, cX0_edgeOf, 3, some .int)
set_option maxRecDepth 20000 in
theorem kc_X0_edgeOf : ZK mX0_edgeOf 2 := ⟨zm5 10 rfl rfl, ini_X0, by decide +kernel, ⟨by decide +kernel, by decide +kernel, by decide +kernel⟩, by decide⟩
abbrev mX0_passOn : ZM := (yX0_passOn, cX0_passOn, 5, some .boolean)
set_option maxRecDepth 20000 in
theorem kc_X0_passOn : ZK mX0_passOn 2 := ⟨zm5 24 rfl rfl, ini_X0, by decide +kernel, ⟨by decide +kernel, by decide +kernel, by decide +kernel⟩, by decide⟩
abbrev mX0_liftBehind : ZM := (yX0_liftBehind, cX0_liftBehind, 4, some .boolean)
set_option maxRecDepth 20000 in
theorem kc_X0_liftBehind : ZK mX0_liftBehind 3 := ⟨zm5 36 rfl rfl, ini_X0, by decide +kernel, ⟨by decide +kernel, by decide +kernel, by decide +kernel⟩, by decide⟩
abbrev mX0_lift : ZM := (yX0_lift, cX0_lift, 5, some .boolean)
set_option maxRecDepth 20000 in
theorem kc_X0_lift : ZK mX0_lift 3 := ⟨zm5 28 rfl rfl, ini_X0, by decide +kernel, ⟨by decide +kernel, by decide +kernel, by decide +kernel⟩, by decide⟩
abbrev mX0_isKnown : ZM := (yX0_isKnown, cX0_isKnown, 3, some .boolean)
set_option maxRecDepth 20000 in
theorem kc_X0_isKnown : ZK mX0_isKnown 2 := ⟨zm5 32 rfl rfl, ini_X0, by decide +kernel, ⟨by decide +kernel, by decide +kernel, by decide +kernel⟩, by decide⟩
abbrev mX0_enqueue : ZM := (yX0_enqueue, cX0_enqueue, 2, none)
set_option maxRecDepth 20000 in
theorem kc_X0_enqueue : ZK mX0_enqueue 1 := ⟨zm5 15 rfl rfl, ini_X0, by decide +kernel, ⟨by decide +kernel, by decide +kernel, by decide +kernel⟩, by decide⟩
abbrev mX0_dequeue : ZM := (yX0_dequeue, cX0_dequeue, 2, some .int)
set_option maxRecDepth 20000 in
theorem kc_X0_dequeue : ZK mX0_dequeue 0 := ⟨zm5 20 rfl rfl, ini_X0, by decide +kernel, ⟨by decide +kernel, by decide +kernel, by decide +kernel⟩, by decide⟩
abbrev mX1_init : ZM := (yX1_init, cX1_init, 1, none)
set_option maxRecDepth 20000 in
theorem kc_X1_init : ZK mX1_init 0 := ⟨zm1 220 rfl rfl, ini_X1, by decide +kernel, ⟨by decide +kernel, by decide +kernel, by decide +kernel⟩, by decide⟩
abbrev mX1_find : ZM := (yX1_find, cX1_find, 4, some .int)
set_option maxRecDepth 20000 in
theorem kc_X1_find : ZK mX1_find 2 := ⟨zm4 91 rfl rfl, ini_X1, by decide +kernel, ⟨by decide +kernel, by decide +kernel, by decide +kernel⟩, by decide⟩
abbrev mX1_add : ZM := (yX1_add, cX1_add, 3, none)
set_option maxRecDepth 20000 in
theorem kc_X1_add : ZK mX1_add 2 := ⟨zm4 95 rfl rfl, ini_X1, by decide +kernel, ⟨by decide +kernel, by decide +kernel, by decide +kernel⟩, by decide⟩
abbrev mX1_findLongest : ZM := (yX1_findLongest, cX1_findLongest, 4, none)
set_option maxRecDepth 20000 in
theorem kc_X1_findLongest : ZK mX1_findLongest 0 := ⟨zm4 107 rfl rfl, ini_X1, by decide +kernel, ⟨by decide +kernel, by decide +kernel, by decide +kernel⟩, by decide⟩
abbrev mX1_isFirst : ZM := (yX1_isFirst, cX1_isFirst, 3, some .boolean)
set_option maxRecDepth 20000 in
theorem kc_X1_isFirst : ZK mX1_isFirst 2 := ⟨zm4 122 rfl rfl, ini_X1, by decide +kernel, ⟨by decide +kernel, by decide +kernel, by decide +kernel⟩, by decide⟩
abbrev mX1_walk : ZM := (yX1_walk, cX1_walk, 7, some .int)
set_option maxRecDepth 20000 in
theorem kc_X1_walk : ZK mX1_walk 3 := ⟨zm4 111 rfl rfl, ini_X1, by decide +kernel, ⟨by decide +kernel, by decide +kernel, by decide +kernel⟩, by decide⟩
abbrev mX1_fewestLines : ZM := (yX1_fewestLines, cX1_fewestLines, 3, some .int)
set_option maxRecDepth 20000 in
theorem kc_X1_fewestLines : ZK mX1_fewestLines 0 := ⟨zm4 134 rfl rfl, ini_X1, by decide +kernel, ⟨by decide +kernel, by decide +kernel, by decide +kernel⟩, by decide⟩
abbrev mX1_fewest : ZM := (yX1_fewest, cX1_fewest, 8, some .int)
set_option maxRecDepth 20000 in
theorem kc_X1_fewest : ZK mX1_fewest 4 := ⟨zm4 137 rfl rfl, ini_X1, by decide +kernel, ⟨by decide +kernel, by decide +kernel, by decide +kernel⟩, by decide⟩
abbrev mX1_isVain : ZM := (yX1_isVain, cX1_isVain, 7, some .boolean)
set_option maxRecDepth 20000 in
theorem kc_X1_isVain : ZK mX1_isVain 4 := ⟨zm4 145 rfl rfl, ini_X1, by decide +kernel, ⟨by decide +kernel, by decide +kernel, by decide +kernel⟩, by decide⟩
abbrev mX2_init : ZM := (yX2_init, cX2_init, 1, none)
set_option maxRecDepth 20000 in
theorem kc_X2_init : ZK mX2_init 0 := ⟨zm2 16 rfl rfl, ini_X2, by decide +kernel, ⟨by decide +kernel, by decide +kernel, by decide +kernel⟩, by decide⟩
abbrev mX2_isKnockedAt : ZM := (yX2_isKnockedAt, cX2_isKnockedAt, 3, some .boolean)
set_option maxRecDepth 20000 in
theorem kc_X2_isKnockedAt : ZK mX2_isKnockedAt 1 := ⟨zm4 161 rfl rfl, ini_X2, by decide +kernel, ⟨by decide +kernel, by decide +kernel, by decide +kernel⟩, by decide⟩
abbrev mX2_add : ZM := (yX2_add, cX2_add, 4, none)
set_option maxRecDepth 20000 in
theorem kc_X2_add : ZK mX2_add 2 := ⟨zm4 165 rfl rfl, ini_X2, by decide +kernel, ⟨by decide +kernel, by decide +kernel, by decide +kernel⟩, by decide⟩
abbrev mX2_countUnseen : ZM := (yX2_countUnseen, cX2_countUnseen, 5, some .int)
set_option maxRecDepth 20000 in
theorem kc_X2_countUnseen : ZK mX2_countUnseen 2 := ⟨zm4 219 rfl rfl, ini_X2, by decide +kernel, ⟨by decide +kernel, by decide +kernel, by decide +kernel⟩, by decide⟩
abbrev mX2_follow : ZM := (yX2_follow, cX2_follow, 8, some .int)
set_option maxRecDepth 20000 in
theorem kc_X2_follow : ZK mX2_follow 3 := ⟨zm4 177 rfl rfl, ini_X2, by decide +kernel, ⟨by decide +kernel, by decide +kernel, by decide +kernel⟩, by decide⟩
abbrev mX2_playOn : ZM := (yX2_playOn, cX2_playOn, 5, some .int)
set_option maxRecDepth 20000 in
theorem kc_X2_playOn : ZK mX2_playOn 3 := ⟨zm4 185 rfl rfl, ini_X2, by decide +kernel, ⟨by decide +kernel, by decide +kernel, by decide +kernel⟩, by decide⟩
abbrev mX2_partAhead : ZM := (yX2_partAhead, cX2_partAhead, 5, some .int)
set_option maxRecDepth 20000 in
theorem kc_X2_partAhead : ZK mX2_partAhead 3 := ⟨zm4 189 rfl rfl, ini_X2, by decide +kernel, ⟨by decide +kernel, by decide +kernel, by decide +kernel⟩, by decide⟩
abbrev mX2_fallen : ZM := (yX2_fallen, cX2_fallen, 11, some .int)
set_option maxRecDepth 20000 in
theorem kc_X2_fallen : ZK mX2_fallen 4 := ⟨zm4 194 rfl rfl, ini_X2, by decide +kernel, ⟨by decide +kernel, by decide +kernel, by decide +kernel⟩, by decide⟩
abbrev mX2_placeOf : ZM := (yX2_placeOf, cX2_placeOf, 4, some .int)
set_option maxRecDepth 20000 in
theorem kc_X2_placeOf : ZK mX2_placeOf 3 := ⟨zm4 198 rfl rfl, ini_X2, by decide +kernel, ⟨by decide +kernel, by decide +kernel, by decide +kernel⟩, by decide⟩
abbrev mX3_init : ZM := (yX3_init, cX3_init, 1, none)
set_option maxRecDepth 20000 in
theorem kc_X3_init : ZK mX3_init 0 := ⟨zm1 195 rfl rfl, ini_X3, by decide +kernel, ⟨by decide +kernel, by decide +kernel, by decide +kernel⟩, by decide⟩
abbrev mX3_sideIn : ZM := (yX3_sideIn, cX3_sideIn, 3, some .int)
set_option maxRecDepth 20000 in
theorem kc_X3_sideIn : ZK mX3_sideIn 2 := ⟨zm4 48 rfl rfl, ini_X3, by decide +kernel, ⟨by decide +kernel, by decide +kernel, by decide +kernel⟩, by decide⟩
abbrev mX3_songOn : ZM := (yX3_songOn, cX3_songOn, 5, some .int)
set_option maxRecDepth 20000 in
theorem kc_X3_songOn : ZK mX3_songOn 2 := ⟨zm4 61 rfl rfl, ini_X3, by decide +kernel, ⟨by decide +kernel, by decide +kernel, by decide +kernel⟩, by decide⟩
abbrev mX3_find : ZM := (yX3_find, cX3_find, 3, some .boolean)
set_option maxRecDepth 20000 in
theorem kc_X3_find : ZK mX3_find 2 := ⟨zm4 29 rfl rfl, ini_X3, by decide +kernel, ⟨by decide +kernel, by decide +kernel, by decide +kernel⟩, by decide⟩
abbrev mX3_putInSequence : ZM := (yX3_putInSequence, cX3_putInSequence, 4, none)
set_option maxRecDepth 20000 in
theorem kc_X3_putInSequence : ZK mX3_putInSequence 1 := ⟨zm4 33 rfl rfl, ini_X3, by decide +kernel, ⟨by decide +kernel, by decide +kernel, by decide +kernel⟩, by decide⟩
abbrev mX3_comesAhead : ZM := (yX3_comesAhead, cX3_comesAhead, 3, some .boolean)
set_option maxRecDepth 20000 in
theorem kc_X3_comesAhead : ZK mX3_comesAhead 3 := ⟨zm4 36 rfl rfl, ini_X3, by decide +kernel, ⟨by decide +kernel, by decide +kernel, by decide +kernel⟩, by decide⟩
abbrev mX3_chooseSides : ZM := (yX3_chooseSides, cX3_chooseSides, 4, none)
set_option maxRecDepth 20000 in
theorem kc_X3_chooseSides : ZK mX3_chooseSides 1 := ⟨zm4 40 rfl rfl, ini_X3, by decide +kernel, ⟨by decide +kernel, by decide +kernel, by decide +kernel⟩, by decide⟩
abbrev mX3_lossOf : ZM := (yX3_lossOf, cX3_lossOf, 8, some .int)
set_option maxRecDepth 20000 in
theorem kc_X3_lossOf : ZK mX3_lossOf 2 := ⟨zm4 44 rfl rfl, ini_X3, by decide +kernel, ⟨by decide +kernel, by decide +kernel, by decide +kernel⟩, by decide⟩
abbrev mX4_init : ZM := (yX4_init, cX4_init, 1, none)
set_option maxRecDepth 20000 in
theorem kc_X4_init : ZK mX4_init 0 := ⟨zm1 84 rfl rfl, ini_X4, by decide +kernel, ⟨by decide +kernel, by decide +kernel, by decide +kernel⟩, by decide⟩
abbrev mX4_change : ZM := (yX4_change, cX4_change, 3, none)
set_option maxRecDepth 20000 in
theorem kc_X4_change : ZK mX4_change 2 := ⟨zm3 135 rfl rfl, ini_X4, by decide +kernel, ⟨by decide +kernel, by decide +kernel, by decide +kernel⟩, by decide⟩
abbrev mX5_init : ZM := (yX5_init, cX5_init, 5, none)
set_option maxRecDepth 20000 in
theorem kc_X5_init : ZK mX5_init 3 := ⟨zm2 36 rfl rfl, ini_X5, by decide +kernel, ⟨by decide +kernel, by decide +kernel, by decide +kernel⟩, by decide⟩
abbrev mX5_forgetMarks : ZM := (yX5_forgetMarks, cX5_forgetMarks, 1, none)
set_option maxRecDepth 20000 in
theorem kc_X5_forgetMarks : ZK mX5_forgetMarks 0 := ⟨zm5 198 rfl rfl, ini_X5, by decide +kernel, ⟨by decide +kernel, by decide +kernel, by decide +kernel⟩, by decide⟩
abbrev mX5_nameOfMark : ZM := (yX5_nameOfMark, cX5_nameOfMark, 4, some .int)
set_option maxRecDepth 20000 in
theorem kc_X5_nameOfMark : ZK mX5_nameOfMark 1 := ⟨zm6 48 rfl rfl, ini_X5, by decide +kernel, ⟨by decide +kernel, by decide +kernel, by decide +kernel⟩, by decide⟩
abbrev mX5_perform : ZM := (yX5_perform, cX5_perform, 3, some .boolean)
set_option maxRecDepth 20000 in
theorem kc_X5_perform : ZK mX5_perform 1 := ⟨zm5 210 rfl rfl, ini_X5, by decide +kernel, ⟨by decide +kernel, by decide +kernel, by decide +kernel⟩, by decide⟩
abbrev mX5_swapMarks : ZM := (yX5_swapMarks, cX5_swapMarks, 3, none)
set_option maxRecDepth 20000 in
theorem kc_X5_swapMarks : ZK mX5_swapMarks 0 := ⟨zm5 220 rfl rfl, ini_X5, by decide +kernel, ⟨by decide +kernel, by decide +kernel, by decide +kernel⟩, by decide⟩
abbrev mX5_doSteps : ZM := (yX5_doSteps, cX5_doSteps, 4, none)
set_option maxRecDepth 20000 in
theorem kc_X5_doSteps : ZK mX5_doSteps 2 := ⟨zm5 225 rfl rfl, ini_X5, by decide +kernel, ⟨by decide +kernel, by decide +kernel, by decide +kernel⟩, by decide⟩
abbrev mX5_doStep : ZM := (yX5_doStep, cX5_doStep, 5, none)
set_option maxRecDepth 20000 in
theorem kc_X5_doStep : ZK mX5_doStep 2 := ⟨zm5 229 rfl rfl, ini_X5, by decide +kernel, ⟨by decide +kernel, by decide +kernel, by decide +kernel⟩, by decide⟩
abbrev mX5_wrongWith : ZM := (yX5_wrongWith, cX5_wrongWith, 3, some .int)
set_option maxRecDepth 20000 in
theorem kc_X5_wrongWith : ZK mX5_wrongWith 1 := ⟨zm5 233 rfl rfl, ini_X5, by decide +kernel, ⟨by decide +kernel, by decide +kernel, by decide +kernel⟩, by decide⟩
abbrev mX5_wrongWithLaying : ZM := (yX5_wrongWithLaying, cX5_wrongWithLaying, 3, some .int)
set_option maxRecDepth 20000 in
theorem kc_X5_wrongWithLaying : ZK mX5_wrongWithLaying 2 := ⟨zm5 237 rfl rfl, ini_X5, by decide +kernel, ⟨by decide +kernel, by decide +kernel, by decide +kernel⟩, by decide⟩
abbrev mX5_hasStretch : ZM := (yX5_hasStretch, cX5_hasStretch, 2, some .boolean)
set_option maxRecDepth 20000 in
theorem kc_X5_hasStretch : ZK mX5_hasStretch 1 := ⟨zm6 4 rfl rfl, ini_X5, by decide +kernel, ⟨by decide +kernel, by decide +kernel, by decide +kernel⟩, by decide⟩
abbrev mX5_startOf : ZM := (yX5_startOf, cX5_startOf, 2, some .int)
set_option maxRecDepth 20000 in
theorem kc_X5_startOf : ZK mX5_startOf 1 := ⟨zm6 8 rfl rfl, ini_X5, by decide +kernel, ⟨by decide +kernel, by decide +kernel, by decide +kernel⟩, by decide⟩
abbrev mX5_endOf : ZM := (yX5_endOf, cX5_endOf, 2, some .int)
set_option maxRecDepth 20000 in
theorem kc_X5_endOf : ZK mX5_endOf 1 := ⟨zm6 12 rfl rfl, ini_X5, by decide +kernel, ⟨by decide +kernel, by decide +kernel, by decide +kernel⟩, by decide⟩
abbrev mX5_holds : ZM := (yX5_holds, cX5_holds, 4, some .boolean)
set_option maxRecDepth 20000 in
theorem kc_X5_holds : ZK mX5_holds 1 := ⟨zm6 18 rfl rfl, ini_X5, by decide +kernel, ⟨by decide +kernel, by decide +kernel, by decide +kernel⟩, by decide⟩
abbrev mX5_doPlain : ZM := (yX5_doPlain, cX5_doPlain, 2, none)
set_option maxRecDepth 20000 in
theorem kc_X5_doPlain : ZK mX5_doPlain 1 := ⟨zm6 24 rfl rfl, ini_X5, by decide +kernel, ⟨by decide +kernel, by decide +kernel, by decide +kernel⟩, by decide⟩
abbrev mX5_setMark : ZM := (yX5_setMark, cX5_setMark, 2, none)
set_option maxRecDepth 20000 in
theorem kc_X5_setMark : ZK mX5_setMark 1 := ⟨zm6 36 rfl rfl, ini_X5, by decide +kernel, ⟨by decide +kernel, by decide +kernel, by decide +kernel⟩, by decide⟩
abbrev mX5_layStretch : ZM := (yX5_layStretch, cX5_layStretch, 6, none)
set_option maxRecDepth 20000 in
theorem kc_X5_layStretch : ZK mX5_layStretch 1 := ⟨zm6 29 rfl rfl, ini_X5, by decide +kernel, ⟨by decide +kernel, by decide +kernel, by decide +kernel⟩, by decide⟩
abbrev mX6_init : ZM := (yX6_init, cX6_init, 2, none)
set_option maxRecDepth 20000 in
theorem kc_X6_init : ZK mX6_init 0 := ⟨zm2 85 rfl rfl, ini_X6, by decide +kernel, ⟨by decide +kernel, by decide +kernel, by decide +kernel⟩, by decide⟩
abbrev mX6_parse : ZM := (yX6_parse, cX6_parse, 3, none)
set_option maxRecDepth 20000 in
theorem kc_X6_parse : ZK mX6_parse 2 := ⟨zm5 62 rfl rfl, ini_X6, by decide +kernel, ⟨by decide +kernel, by decide +kernel, by decide +kernel⟩, by decide⟩
abbrev mX6_advance : ZM := (yX6_advance, cX6_advance, 2, none)
set_option maxRecDepth 20000 in
theorem kc_X6_advance : ZK mX6_advance 0 := ⟨zm5 67 rfl rfl, ini_X6, by decide +kernel, ⟨by decide +kernel, by decide +kernel, by decide +kernel⟩, by decide⟩
abbrev mX6_isWord : ZM := (yX6_isWord, cX6_isWord, 3, some .boolean)
set_option maxRecDepth 20000 in
theorem kc_X6_isWord : ZK mX6_isWord 1 := ⟨zm5 84 rfl rfl, ini_X6, by decide +kernel, ⟨by decide +kernel, by decide +kernel, by decide +kernel⟩, by decide⟩
abbrev mX6_blame : ZM := (yX6_blame, cX6_blame, 2, none)
set_option maxRecDepth 20000 in
theorem kc_X6_blame : ZK mX6_blame 1 := ⟨zm5 146 rfl rfl, ini_X6, by decide +kernel, ⟨by decide +kernel, by decide +kernel, by decide +kernel⟩, by decide⟩
abbrev mX6_misplaced : ZM := (yX6_misplaced, cX6_misplaced, 1, none)
set_option maxRecDepth 20000 in
theorem kc_X6_misplaced : ZK mX6_misplaced 0 := ⟨zm5 142 rfl rfl, ini_X6, by decide +kernel, ⟨by decide +kernel, by decide +kernel, by decide +kernel⟩, by decide⟩
abbrev mX6_readSteps : ZM := (yX6_readSteps, cX6_readSteps, 6, some (.object "DiscCutter$Step"))
set_option maxRecDepth 20000 in
theorem kc_X6_readSteps : ZK mX6_readSteps 1 := ⟨zm5 71 rfl rfl, ini_X6, by decide +kernel, ⟨by decide +kernel, by decide +kernel, by decide +kernel⟩, by decide⟩
abbrev mX6_readBraces : ZM := (yX6_readBraces, cX6_readBraces, 3, some (.object "DiscCutter$Step"))
set_option maxRecDepth 20000 in
theorem kc_X6_readBraces : ZK mX6_readBraces 1 := ⟨zm5 159 rfl rfl, ini_X6, by decide +kernel, ⟨by decide +kernel, by decide +kernel, by decide +kernel⟩, by decide⟩
abbrev mX6_readStep : ZM := (yX6_readStep, cX6_readStep, 4, some (.object "DiscCutter$Step"))
set_option maxRecDepth 20000 in
theorem kc_X6_readStep : ZK mX6_readStep 1 := ⟨zm5 75 rfl rfl, ini_X6, by decide +kernel, ⟨by decide +kernel, by decide +kernel, by decide +kernel⟩, by decide⟩
abbrev mX6_stepKind : ZM := (yX6_stepKind, cX6_stepKind, 1, some .int)
set_option maxRecDepth 20000 in
theorem kc_X6_stepKind : ZK mX6_stepKind 0 := ⟨zm5 79 rfl rfl, ini_X6, by decide +kernel, ⟨by decide +kernel, by decide +kernel, by decide +kernel⟩, by decide⟩
abbrev mX6_greatestFor : ZM := (yX6_greatestFor, cX6_greatestFor, 1, some .int)
set_option maxRecDepth 20000 in
theorem kc_X6_greatestFor : ZK mX6_greatestFor 1 := ⟨zm5 182 rfl rfl, ini_X6, by decide +kernel, ⟨by decide +kernel, by decide +kernel, by decide +kernel⟩, by decide⟩
abbrev mX6_readOptions : ZM := (yX6_readOptions, cX6_readOptions, 3, none)
set_option maxRecDepth 20000 in
theorem kc_X6_readOptions : ZK mX6_readOptions 1 := ⟨zm5 186 rfl rfl, ini_X6, by decide +kernel, ⟨by decide +kernel, by decide +kernel, by decide +kernel⟩, by decide⟩
abbrev mX6_readOption : ZM := (yX6_readOption, cX6_readOption, 4, some .int)
set_option maxRecDepth 20000 in
theorem kc_X6_readOption : ZK mX6_readOption 3 := ⟨zm5 191 rfl rfl, ini_X6, by decide +kernel, ⟨by decide +kernel, by decide +kernel, by decide +kernel⟩, by decide⟩
abbrev mX6_readTest : ZM := (yX6_readTest, cX6_readTest, 2, none)
set_option maxRecDepth 20000 in
theorem kc_X6_readTest : ZK mX6_readTest 1 := ⟨zm5 167 rfl rfl, ini_X6, by decide +kernel, ⟨by decide +kernel, by decide +kernel, by decide +kernel⟩, by decide⟩
abbrev mX6_expect : ZM := (yX6_expect, cX6_expect, 2, none)
set_option maxRecDepth 20000 in
theorem kc_X6_expect : ZK mX6_expect 1 := ⟨zm5 163 rfl rfl, ini_X6, by decide +kernel, ⟨by decide +kernel, by decide +kernel, by decide +kernel⟩, by decide⟩
abbrev mX6_readNumber : ZM := (yX6_readNumber, cX6_readNumber, 4, some .int)
set_option maxRecDepth 20000 in
theorem kc_X6_readNumber : ZK mX6_readNumber 2 := ⟨zm5 154 rfl rfl, ini_X6, by decide +kernel, ⟨by decide +kernel, by decide +kernel, by decide +kernel⟩, by decide⟩
abbrev mX6_readName : ZM := (yX6_readName, cX6_readName, 2, some .int)
set_option maxRecDepth 20000 in
theorem kc_X6_readName : ZK mX6_readName 0 := ⟨zm5 172 rfl rfl, ini_X6, by decide +kernel, ⟨by decide +kernel, by decide +kernel, by decide +kernel⟩, by decide⟩
abbrev mX6_isName : ZM := (yX6_isName, cX6_isName, 3, some .boolean)
set_option maxRecDepth 20000 in
theorem kc_X6_isName : ZK mX6_isName 1 := ⟨zm5 176 rfl rfl, ini_X6, by decide +kernel, ⟨by decide +kernel, by decide +kernel, by decide +kernel⟩, by decide⟩
abbrev mX7_init : ZM := (yX7_init, cX7_init, 2, none)
set_option maxRecDepth 20000 in
theorem kc_X7_init : ZK mX7_init 1 := ⟨zm1 107 rfl rfl, ini_X7, by decide +kernel, ⟨by decide +kernel, by decide +kernel, by decide +kernel⟩, by decide⟩
abbrev mX7_empty : ZM := (yX7_empty, cX7_empty, 1, none)
set_option maxRecDepth 20000 in
theorem kc_X7_empty : ZK mX7_empty 0 := ⟨zm3 147 rfl rfl, ini_X7, by decide +kernel, ⟨by decide +kernel, by decide +kernel, by decide +kernel⟩, by decide⟩
abbrev mX7_isLocked : ZM := (yX7_isLocked, cX7_isLocked, 1, some .boolean)
set_option maxRecDepth 20000 in
theorem kc_X7_isLocked : ZK mX7_isLocked 0 := ⟨zm3 163 rfl rfl, ini_X7, by decide +kernel, ⟨by decide +kernel, by decide +kernel, by decide +kernel⟩, by decide⟩
abbrev mX7_hasRoomFor : ZM := (yX7_hasRoomFor, cX7_hasRoomFor, 2, some .boolean)
set_option maxRecDepth 20000 in
theorem kc_X7_hasRoomFor : ZK mX7_hasRoomFor 1 := ⟨zm3 159 rfl rfl, ini_X7, by decide +kernel, ⟨by decide +kernel, by decide +kernel, by decide +kernel⟩, by decide⟩
abbrev mX7_append : ZM := (yX7_append, cX7_append, 3, none)
set_option maxRecDepth 20000 in
theorem kc_X7_append : ZK mX7_append 2 := ⟨zm3 171 rfl rfl, ini_X7, by decide +kernel, ⟨by decide +kernel, by decide +kernel, by decide +kernel⟩, by decide⟩
abbrev mX7_appendLead : ZM := (yX7_appendLead, cX7_appendLead, 3, none)
set_option maxRecDepth 20000 in
theorem kc_X7_appendLead : ZK mX7_appendLead 1 := ⟨zm3 167 rfl rfl, ini_X7, by decide +kernel, ⟨by decide +kernel, by decide +kernel, by decide +kernel⟩, by decide⟩
abbrev mX7_appendSong : ZM := (yX7_appendSong, cX7_appendSong, 4, none)
set_option maxRecDepth 20000 in
theorem kc_X7_appendSong : ZK mX7_appendSong 2 := ⟨zm3 179 rfl rfl, ini_X7, by decide +kernel, ⟨by decide +kernel, by decide +kernel, by decide +kernel⟩, by decide⟩
abbrev mX7_copyFrom : ZM := (yX7_copyFrom, cX7_copyFrom, 2, none)
set_option maxRecDepth 20000 in
theorem kc_X7_copyFrom : ZK mX7_copyFrom 1 := ⟨zm5 214 rfl rfl, ini_X7, by decide +kernel, ⟨by decide +kernel, by decide +kernel, by decide +kernel⟩, by decide⟩
abbrev mX7_cap : ZM := (yX7_cap, cX7_cap, 4, some .int)
set_option maxRecDepth 20000 in
theorem kc_X7_cap : ZK mX7_cap 1 := ⟨zm4 17 rfl rfl, ini_X7, by decide +kernel, ⟨by decide +kernel, by decide +kernel, by decide +kernel⟩, by decide⟩
abbrev mX7_firstTooNear : ZM := (yX7_firstTooNear, cX7_firstTooNear, 4, some .int)
set_option maxRecDepth 20000 in
theorem kc_X7_firstTooNear : ZK mX7_firstTooNear 1 := ⟨zm3 204 rfl rfl, ini_X7, by decide +kernel, ⟨by decide +kernel, by decide +kernel, by decide +kernel⟩, by decide⟩
abbrev mX7_leastSoftening : ZM := (yX7_leastSoftening, cX7_leastSoftening, 2, some .int)
set_option maxRecDepth 20000 in
theorem kc_X7_leastSoftening : ZK mX7_leastSoftening 0 := ⟨zm4 9 rfl rfl, ini_X7, by decide +kernel, ⟨by decide +kernel, by decide +kernel, by decide +kernel⟩, by decide⟩
abbrev mX7_settle : ZM := (yX7_settle, cX7_settle, 2, some .boolean)
set_option maxRecDepth 20000 in
theorem kc_X7_settle : ZK mX7_settle 0 := ⟨zm3 200 rfl rfl, ini_X7, by decide +kernel, ⟨by decide +kernel, by decide +kernel, by decide +kernel⟩, by decide⟩
abbrev mX7_layOut : ZM := (yX7_layOut, cX7_layOut, 4, none)
set_option maxRecDepth 20000 in
theorem kc_X7_layOut : ZK mX7_layOut 0 := ⟨zm3 211 rfl rfl, ini_X7, by decide +kernel, ⟨by decide +kernel, by decide +kernel, by decide +kernel⟩, by decide⟩
abbrev mX7_placeBehind : ZM := (yX7_placeBehind, cX7_placeBehind, 2, some .int)
set_option maxRecDepth 20000 in
theorem kc_X7_placeBehind : ZK mX7_placeBehind 1 := ⟨zm3 215 rfl rfl, ini_X7, by decide +kernel, ⟨by decide +kernel, by decide +kernel, by decide +kernel⟩, by decide⟩
abbrev mX7_extent : ZM := (yX7_extent, cX7_extent, 1, some .int)
set_option maxRecDepth 20000 in
theorem kc_X7_extent : ZK mX7_extent 0 := ⟨zm3 224 rfl rfl, ini_X7, by decide +kernel, ⟨by decide +kernel, by decide +kernel, by decide +kernel⟩, by decide⟩
abbrev mX7_tightPart : ZM := (yX7_tightPart, cX7_tightPart, 4, some .int)
set_option maxRecDepth 20000 in
theorem kc_X7_tightPart : ZK mX7_tightPart 1 := ⟨zm3 232 rfl rfl, ini_X7, by decide +kernel, ⟨by decide +kernel, by decide +kernel, by decide +kernel⟩, by decide⟩
abbrev mX7_ringPlace : ZM := (yX7_ringPlace, cX7_ringPlace, 7, some .int)
set_option maxRecDepth 20000 in
theorem kc_X7_ringPlace : ZK mX7_ringPlace 2 := ⟨zm4 78 rfl rfl, ini_X7, by decide +kernel, ⟨by decide +kernel, by decide +kernel, by decide +kernel⟩, by decide⟩
abbrev mX7_songOf : ZM := (yX7_songOf, cX7_songOf, 2, some .int)
set_option maxRecDepth 20000 in
theorem kc_X7_songOf : ZK mX7_songOf 1 := ⟨zm4 210 rfl rfl, ini_X7, by decide +kernel, ⟨by decide +kernel, by decide +kernel, by decide +kernel⟩, by decide⟩
abbrev mX8_init : ZM := (yX8_init, cX8_init, 1, none)
set_option maxRecDepth 20000 in
theorem kc_X8_init : ZK mX8_init 0 := ⟨zm1 56 rfl rfl, ini_X8, by decide +kernel, ⟨by decide +kernel, by decide +kernel, by decide +kernel⟩, by decide⟩
abbrev mX8_has : ZM := (yX8_has, cX8_has, 2, some .boolean)
set_option maxRecDepth 20000 in
theorem kc_X8_has : ZK mX8_has 1 := ⟨zm3 115 rfl rfl, ini_X8, by decide +kernel, ⟨by decide +kernel, by decide +kernel, by decide +kernel⟩, by decide⟩
abbrev mX8_canRing : ZM := (yX8_canRing, cX8_canRing, 2, some .boolean)
set_option maxRecDepth 20000 in
theorem kc_X8_canRing : ZK mX8_canRing 1 := ⟨zm4 73 rfl rfl, ini_X8, by decide +kernel, ⟨by decide +kernel, by decide +kernel, by decide +kernel⟩, by decide⟩
abbrev mX8_add : ZM := (yX8_add, cX8_add, 6, some .int)
set_option maxRecDepth 20000 in
theorem kc_X8_add : ZK mX8_add 3 := ⟨zm3 103 rfl rfl, ini_X8, by decide +kernel, ⟨by decide +kernel, by decide +kernel, by decide +kernel⟩, by decide⟩
abbrev mX8_levelOf : ZM := (yX8_levelOf, cX8_levelOf, 3, some .int)
set_option maxRecDepth 20000 in
theorem kc_X8_levelOf : ZK mX8_levelOf 2 := ⟨zm3 124 rfl rfl, ini_X8, by decide +kernel, ⟨by decide +kernel, by decide +kernel, by decide +kernel⟩, by decide⟩
abbrev mX8_loudest : ZM := (yX8_loudest, cX8_loudest, 4, some .int)
set_option maxRecDepth 20000 in
theorem kc_X8_loudest : ZK mX8_loudest 1 := ⟨zm3 120 rfl rfl, ini_X8, by decide +kernel, ⟨by decide +kernel, by decide +kernel, by decide +kernel⟩, by decide⟩
abbrev mX9_init : ZM := (yX9_init, cX9_init, 1, none)
set_option maxRecDepth 20000 in
theorem kc_X9_init : ZK mX9_init 0 := ⟨zm2 92 rfl rfl, ini_X9, by decide +kernel, ⟨by decide +kernel, by decide +kernel, by decide +kernel⟩, by decide⟩
abbrev mX9_become : ZM := (yX9_become, cX9_become, 3, none)
set_option maxRecDepth 20000 in
theorem kc_X9_become : ZK mX9_become 2 := ⟨zm5 150 rfl rfl, ini_X9, by decide +kernel, ⟨by decide +kernel, by decide +kernel, by decide +kernel⟩, by decide⟩
abbrev mX10_init : ZM := (yX10_init, cX10_init, 1, none)
set_option maxRecDepth 20000 in
theorem kc_X10_init : ZK mX10_init 0 := ⟨zm1 35 rfl rfl, ini_X10, by decide +kernel, ⟨by decide +kernel, by decide +kernel, by decide +kernel⟩, by decide⟩
abbrev mX10_isMissing : ZM := (yX10_isMissing, cX10_isMissing, 1, some .boolean)
set_option maxRecDepth 20000 in
theorem kc_X10_isMissing : ZK mX10_isMissing 0 := ⟨zm3 62 rfl rfl, ini_X10, by decide +kernel, ⟨by decide +kernel, by decide +kernel, by decide +kernel⟩, by decide⟩
abbrev mX10_become : ZM := (yX10_become, cX10_become, 3, none)
set_option maxRecDepth 20000 in
theorem kc_X10_become : ZK mX10_become 2 := ⟨zm3 43 rfl rfl, ini_X10, by decide +kernel, ⟨by decide +kernel, by decide +kernel, by decide +kernel⟩, by decide⟩
abbrev mX10_put : ZM := (yX10_put, cX10_put, 4, none)
set_option maxRecDepth 20000 in
theorem kc_X10_put : ZK mX10_put 2 := ⟨zm3 66 rfl rfl, ini_X10, by decide +kernel, ⟨by decide +kernel, by decide +kernel, by decide +kernel⟩, by decide⟩
abbrev mX10_cut : ZM := (yX10_cut, cX10_cut, 3, some .long)
set_option maxRecDepth 20000 in
theorem kc_X10_cut : ZK mX10_cut 1 := ⟨zm3 71 rfl rfl, ini_X10, by decide +kernel, ⟨by decide +kernel, by decide +kernel, by decide +kernel⟩, by decide⟩
abbrev mX10_hasRow : ZM := (yX10_hasRow, cX10_hasRow, 3, some .boolean)
set_option maxRecDepth 20000 in
theorem kc_X10_hasRow : ZK mX10_hasRow 2 := ⟨zm3 87 rfl rfl, ini_X10, by decide +kernel, ⟨by decide +kernel, by decide +kernel, by decide +kernel⟩, by decide⟩
abbrev mX10_holdsLevels : ZM := (yX10_holdsLevels, cX10_holdsLevels, 3, some .boolean)
set_option maxRecDepth 20000 in
theorem kc_X10_holdsLevels : ZK mX10_holdsLevels 1 := ⟨zm3 98 rfl rfl, ini_X10, by decide +kernel, ⟨by decide +kernel, by decide +kernel, by decide +kernel⟩, by decide⟩
abbrev mX11_init : ZM := (yX11_init, cX11_init, 2, none)
set_option maxRecDepth 20000 in
theorem kc_X11_init : ZK mX11_init 0 := ⟨zm1 26 rfl rfl, ini_X11, by decide +kernel, ⟨by decide +kernel, by decide +kernel, by decide +kernel⟩, by decide⟩
abbrev mX11_status : ZM := (yX11_status, cX11_status, 1, some .int)
set_option maxRecDepth 20000 in
theorem kc_X11_status : ZK mX11_status 0 := ⟨zm3 24 rfl rfl, ini_X11, by decide +kernel, ⟨by decide +kernel, by decide +kernel, by decide +kernel⟩, by decide⟩
abbrev mX11_tray : ZM := (yX11_tray, cX11_tray, 4, some .boolean)
set_option maxRecDepth 20000 in
theorem kc_X11_tray : ZK mX11_tray 3 := ⟨zm3 28 rfl rfl, ini_X11, by decide +kernel, ⟨by decide +kernel, by decide +kernel, by decide +kernel⟩, by decide⟩
abbrev mX11_write : ZM := (yX11_write, cX11_write, 6, some .boolean)
set_option maxRecDepth 20000 in
theorem kc_X11_write : ZK mX11_write 3 := ⟨zm3 54 rfl rfl, ini_X11, by decide +kernel, ⟨by decide +kernel, by decide +kernel, by decide +kernel⟩, by decide⟩
abbrev mX11_read : ZM := (yX11_read, cX11_read, 4, some .long)
set_option maxRecDepth 20000 in
theorem kc_X11_read : ZK mX11_read 2 := ⟨zm3 75 rfl rfl, ini_X11, by decide +kernel, ⟨by decide +kernel, by decide +kernel, by decide +kernel⟩, by decide⟩
abbrev mX11_pour : ZM := (yX11_pour, cX11_pour, 8, some .boolean)
set_option maxRecDepth 20000 in
theorem kc_X11_pour : ZK mX11_pour 5 := ⟨zm3 83 rfl rfl, ini_X11, by decide +kernel, ⟨by decide +kernel, by decide +kernel, by decide +kernel⟩, by decide⟩
abbrev mX11_song : ZM := (yX11_song, cX11_song, 5, some .int)
set_option maxRecDepth 20000 in
theorem kc_X11_song : ZK mX11_song 3 := ⟨zm3 94 rfl rfl, ini_X11, by decide +kernel, ⟨by decide +kernel, by decide +kernel, by decide +kernel⟩, by decide⟩
abbrev mX11_told : ZM := (yX11_told, cX11_told, 3, some .int)
set_option maxRecDepth 20000 in
theorem kc_X11_told : ZK mX11_told 2 := ⟨zm3 111 rfl rfl, ini_X11, by decide +kernel, ⟨by decide +kernel, by decide +kernel, by decide +kernel⟩, by decide⟩
abbrev mX11_rules : ZM := (yX11_rules, cX11_rules, 3, some .boolean)
set_option maxRecDepth 20000 in
theorem kc_X11_rules : ZK mX11_rules 2 := ⟨zm3 131 rfl rfl, ini_X11, by decide +kernel, ⟨by decide +kernel, by decide +kernel, by decide +kernel⟩, by decide⟩
abbrev mX11_anew : ZM := (yX11_anew, cX11_anew, 2, some .boolean)
set_option maxRecDepth 20000 in
theorem kc_X11_anew : ZK mX11_anew 1 := ⟨zm3 139 rfl rfl, ini_X11, by decide +kernel, ⟨by decide +kernel, by decide +kernel, by decide +kernel⟩, by decide⟩
abbrev mX11_lead : ZM := (yX11_lead, cX11_lead, 4, some .boolean)
set_option maxRecDepth 20000 in
theorem kc_X11_lead : ZK mX11_lead 2 := ⟨zm3 151 rfl rfl, ini_X11, by decide +kernel, ⟨by decide +kernel, by decide +kernel, by decide +kernel⟩, by decide⟩
abbrev mX11_lay : ZM := (yX11_lay, cX11_lay, 4, some .boolean)
set_option maxRecDepth 20000 in
theorem kc_X11_lay : ZK mX11_lay 2 := ⟨zm3 175 rfl rfl, ini_X11, by decide +kernel, ⟨by decide +kernel, by decide +kernel, by decide +kernel⟩, by decide⟩
abbrev mX11_parts : ZM := (yX11_parts, cX11_parts, 2, some .int)
set_option maxRecDepth 20000 in
theorem kc_X11_parts : ZK mX11_parts 1 := ⟨zm3 184 rfl rfl, ini_X11, by decide +kernel, ⟨by decide +kernel, by decide +kernel, by decide +kernel⟩, by decide⟩
abbrev mX11_level : ZM := (yX11_level, cX11_level, 3, some .int)
set_option maxRecDepth 20000 in
theorem kc_X11_level : ZK mX11_level 2 := ⟨zm3 188 rfl rfl, ini_X11, by decide +kernel, ⟨by decide +kernel, by decide +kernel, by decide +kernel⟩, by decide⟩
abbrev mX11_place : ZM := (yX11_place, cX11_place, 3, some .int)
set_option maxRecDepth 20000 in
theorem kc_X11_place : ZK mX11_place 2 := ⟨zm3 196 rfl rfl, ini_X11, by decide +kernel, ⟨by decide +kernel, by decide +kernel, by decide +kernel⟩, by decide⟩
abbrev mX11_room : ZM := (yX11_room, cX11_room, 2, some .int)
set_option maxRecDepth 20000 in
theorem kc_X11_room : ZK mX11_room 1 := ⟨zm3 220 rfl rfl, ini_X11, by decide +kernel, ⟨by decide +kernel, by decide +kernel, by decide +kernel⟩, by decide⟩
abbrev mX11_tight : ZM := (yX11_tight, cX11_tight, 3, some .int)
set_option maxRecDepth 20000 in
theorem kc_X11_tight : ZK mX11_tight 2 := ⟨zm3 228 rfl rfl, ini_X11, by decide +kernel, ⟨by decide +kernel, by decide +kernel, by decide +kernel⟩, by decide⟩
abbrev mX11_cannot : ZM := (yX11_cannot, cX11_cannot, 2, some .int)
set_option maxRecDepth 20000 in
theorem kc_X11_cannot : ZK mX11_cannot 1 := ⟨zm4 0 rfl rfl, ini_X11, by decide +kernel, ⟨by decide +kernel, by decide +kernel, by decide +kernel⟩, by decide⟩
abbrev mX11_softer : ZM := (yX11_softer, cX11_softer, 2, some .int)
set_option maxRecDepth 20000 in
theorem kc_X11_softer : ZK mX11_softer 1 := ⟨zm4 5 rfl rfl, ini_X11, by decide +kernel, ⟨by decide +kernel, by decide +kernel, by decide +kernel⟩, by decide⟩
abbrev mX11_soften : ZM := (yX11_soften, cX11_soften, 3, some .int)
set_option maxRecDepth 20000 in
theorem kc_X11_soften : ZK mX11_soften 2 := ⟨zm4 13 rfl rfl, ini_X11, by decide +kernel, ⟨by decide +kernel, by decide +kernel, by decide +kernel⟩, by decide⟩
abbrev mX11_most : ZM := (yX11_most, cX11_most, 2, some .boolean)
set_option maxRecDepth 20000 in
theorem kc_X11_most : ZK mX11_most 1 := ⟨zm4 21 rfl rfl, ini_X11, by decide +kernel, ⟨by decide +kernel, by decide +kernel, by decide +kernel⟩, by decide⟩
abbrev mX11_order : ZM := (yX11_order, cX11_order, 1, some .int)
set_option maxRecDepth 20000 in
theorem kc_X11_order : ZK mX11_order 0 := ⟨zm4 25 rfl rfl, ini_X11, by decide +kernel, ⟨by decide +kernel, by decide +kernel, by decide +kernel⟩, by decide⟩
abbrev mX11_sideOf : ZM := (yX11_sideOf, cX11_sideOf, 2, some .int)
set_option maxRecDepth 20000 in
theorem kc_X11_sideOf : ZK mX11_sideOf 1 := ⟨zm4 52 rfl rfl, ini_X11, by decide +kernel, ⟨by decide +kernel, by decide +kernel, by decide +kernel⟩, by decide⟩
abbrev mX11_songAt : ZM := (yX11_songAt, cX11_songAt, 3, some .int)
set_option maxRecDepth 20000 in
theorem kc_X11_songAt : ZK mX11_songAt 2 := ⟨zm4 57 rfl rfl, ini_X11, by decide +kernel, ⟨by decide +kernel, by decide +kernel, by decide +kernel⟩, by decide⟩
abbrev mX11_press : ZM := (yX11_press, cX11_press, 3, some .boolean)
set_option maxRecDepth 20000 in
theorem kc_X11_press : ZK mX11_press 0 := ⟨zm4 65 rfl rfl, ini_X11, by decide +kernel, ⟨by decide +kernel, by decide +kernel, by decide +kernel⟩, by decide⟩
abbrev mX11_ring : ZM := (yX11_ring, cX11_ring, 3, some .int)
set_option maxRecDepth 20000 in
theorem kc_X11_ring : ZK mX11_ring 2 := ⟨zm4 69 rfl rfl, ini_X11, by decide +kernel, ⟨by decide +kernel, by decide +kernel, by decide +kernel⟩, by decide⟩
abbrev mX11_inTime : ZM := (yX11_inTime, cX11_inTime, 2, some .int)
set_option maxRecDepth 20000 in
theorem kc_X11_inTime : ZK mX11_inTime 1 := ⟨zm4 83 rfl rfl, ini_X11, by decide +kernel, ⟨by decide +kernel, by decide +kernel, by decide +kernel⟩, by decide⟩
abbrev mX11_click : ZM := (yX11_click, cX11_click, 3, some .boolean)
set_option maxRecDepth 20000 in
theorem kc_X11_click : ZK mX11_click 2 := ⟨zm4 87 rfl rfl, ini_X11, by decide +kernel, ⟨by decide +kernel, by decide +kernel, by decide +kernel⟩, by decide⟩
abbrev mX11_clean : ZM := (yX11_clean, cX11_clean, 1, some .boolean)
set_option maxRecDepth 20000 in
theorem kc_X11_clean : ZK mX11_clean 0 := ⟨zm4 99 rfl rfl, ini_X11, by decide +kernel, ⟨by decide +kernel, by decide +kernel, by decide +kernel⟩, by decide⟩
abbrev mX11_longest : ZM := (yX11_longest, cX11_longest, 1, some .int)
set_option maxRecDepth 20000 in
theorem kc_X11_longest : ZK mX11_longest 0 := ⟨zm4 103 rfl rfl, ini_X11, by decide +kernel, ⟨by decide +kernel, by decide +kernel, by decide +kernel⟩, by decide⟩
abbrev mX11_line : ZM := (yX11_line, cX11_line, 2, some .int)
set_option maxRecDepth 20000 in
theorem kc_X11_line : ZK mX11_line 1 := ⟨zm4 126 rfl rfl, ini_X11, by decide +kernel, ⟨by decide +kernel, by decide +kernel, by decide +kernel⟩, by decide⟩
abbrev mX11_cover : ZM := (yX11_cover, cX11_cover, 1, some .int)
set_option maxRecDepth 20000 in
theorem kc_X11_cover : ZK mX11_cover 0 := ⟨zm4 130 rfl rfl, ini_X11, by decide +kernel, ⟨by decide +kernel, by decide +kernel, by decide +kernel⟩, by decide⟩
abbrev mX11_lock : ZM := (yX11_lock, cX11_lock, 3, some .boolean)
set_option maxRecDepth 20000 in
theorem kc_X11_lock : ZK mX11_lock 2 := ⟨zm4 149 rfl rfl, ini_X11, by decide +kernel, ⟨by decide +kernel, by decide +kernel, by decide +kernel⟩, by decide⟩
abbrev mX11_locked : ZM := (yX11_locked, cX11_locked, 2, some .int)
set_option maxRecDepth 20000 in
theorem kc_X11_locked : ZK mX11_locked 1 := ⟨zm4 153 rfl rfl, ini_X11, by decide +kernel, ⟨by decide +kernel, by decide +kernel, by decide +kernel⟩, by decide⟩
abbrev mX11_knock : ZM := (yX11_knock, cX11_knock, 3, some .boolean)
set_option maxRecDepth 20000 in
theorem kc_X11_knock : ZK mX11_knock 2 := ⟨zm4 157 rfl rfl, ini_X11, by decide +kernel, ⟨by decide +kernel, by decide +kernel, by decide +kernel⟩, by decide⟩
abbrev mX11_still : ZM := (yX11_still, cX11_still, 1, some .boolean)
set_option maxRecDepth 20000 in
theorem kc_X11_still : ZK mX11_still 0 := ⟨zm4 169 rfl rfl, ini_X11, by decide +kernel, ⟨by decide +kernel, by decide +kernel, by decide +kernel⟩, by decide⟩
abbrev mX11_heard : ZM := (yX11_heard, cX11_heard, 3, some .int)
set_option maxRecDepth 20000 in
theorem kc_X11_heard : ZK mX11_heard 2 := ⟨zm4 173 rfl rfl, ini_X11, by decide +kernel, ⟨by decide +kernel, by decide +kernel, by decide +kernel⟩, by decide⟩
abbrev mX11_songHeard : ZM := (yX11_songHeard, cX11_songHeard, 4, some .int)
set_option maxRecDepth 20000 in
theorem kc_X11_songHeard : ZK mX11_songHeard 2 := ⟨zm4 205 rfl rfl, ini_X11, by decide +kernel, ⟨by decide +kernel, by decide +kernel, by decide +kernel⟩, by decide⟩
abbrev mX11_missed : ZM := (yX11_missed, cX11_missed, 2, some .int)
set_option maxRecDepth 20000 in
theorem kc_X11_missed : ZK mX11_missed 1 := ⟨zm4 215 rfl rfl, ini_X11, by decide +kernel, ⟨by decide +kernel, by decide +kernel, by decide +kernel⟩, by decide⟩
abbrev mX11_placeBeside : ZM := (yX11_placeBeside, cX11_placeBeside, 3, some .int)
set_option maxRecDepth 20000 in
theorem kc_X11_placeBeside : ZK mX11_placeBeside 2 := ⟨zm4 224 rfl rfl, ini_X11, by decide +kernel, ⟨by decide +kernel, by decide +kernel, by decide +kernel⟩, by decide⟩
abbrev mX11_roomBeside : ZM := (yX11_roomBeside, cX11_roomBeside, 1, some .int)
set_option maxRecDepth 20000 in
theorem kc_X11_roomBeside : ZK mX11_roomBeside 0 := ⟨zm5 41 rfl rfl, ini_X11, by decide +kernel, ⟨by decide +kernel, by decide +kernel, by decide +kernel⟩, by decide⟩
abbrev mX11_feed : ZM := (yX11_feed, cX11_feed, 6, some .int)
set_option maxRecDepth 20000 in
theorem kc_X11_feed : ZK mX11_feed 5 := ⟨zm5 50 rfl rfl, ini_X11, by decide +kernel, ⟨by decide +kernel, by decide +kernel, by decide +kernel⟩, by decide⟩
abbrev mX11_sheet : ZM := (yX11_sheet, cX11_sheet, 3, some .int)
set_option maxRecDepth 20000 in
theorem kc_X11_sheet : ZK mX11_sheet 1 := ⟨zm5 58 rfl rfl, ini_X11, by decide +kernel, ⟨by decide +kernel, by decide +kernel, by decide +kernel⟩, by decide⟩
abbrev mX11_fault : ZM := (yX11_fault, cX11_fault, 2, some .int)
set_option maxRecDepth 20000 in
theorem kc_X11_fault : ZK mX11_fault 1 := ⟨zm5 202 rfl rfl, ini_X11, by decide +kernel, ⟨by decide +kernel, by decide +kernel, by decide +kernel⟩, by decide⟩
abbrev mX11_run : ZM := (yX11_run, cX11_run, 1, some .int)
set_option maxRecDepth 20000 in
theorem kc_X11_run : ZK mX11_run 0 := ⟨zm5 206 rfl rfl, ini_X11, by decide +kernel, ⟨by decide +kernel, by decide +kernel, by decide +kernel⟩, by decide⟩
abbrev mX11_error : ZM := (yX11_error, cX11_error, 2, some .int)
set_option maxRecDepth 20000 in
theorem kc_X11_error : ZK mX11_error 1 := ⟨zm6 40 rfl rfl, ini_X11, by decide +kernel, ⟨by decide +kernel, by decide +kernel, by decide +kernel⟩, by decide⟩
abbrev mX11_mark : ZM := (yX11_mark, cX11_mark, 4, some .int)
set_option maxRecDepth 20000 in
theorem kc_X11_mark : ZK mX11_mark 2 := ⟨zm6 44 rfl rfl, ini_X11, by decide +kernel, ⟨by decide +kernel, by decide +kernel, by decide +kernel⟩, by decide⟩
abbrev mX11_accept : ZM := (yX11_accept, cX11_accept, 1, some .boolean)
set_option maxRecDepth 20000 in
theorem kc_X11_accept : ZK mX11_accept 0 := ⟨zm3 50 rfl rfl, ini_X11, by decide +kernel, ⟨by decide +kernel, by decide +kernel, by decide +kernel⟩, by decide⟩
abbrev mX11_refuse : ZM := (yX11_refuse, cX11_refuse, 2, some .boolean)
set_option maxRecDepth 20000 in
theorem kc_X11_refuse : ZK mX11_refuse 1 := ⟨zm3 39 rfl rfl, ini_X11, by decide +kernel, ⟨by decide +kernel, by decide +kernel, by decide +kernel⟩, by decide⟩
abbrev mX11_give : ZM := (yX11_give, cX11_give, 2, some .int)
set_option maxRecDepth 20000 in
theorem kc_X11_give : ZK mX11_give 1 := ⟨zm3 107 rfl rfl, ini_X11, by decide +kernel, ⟨by decide +kernel, by decide +kernel, by decide +kernel⟩, by decide⟩
abbrev mX11_giveNone : ZM := (yX11_giveNone, cX11_giveNone, 2, some .int)
set_option maxRecDepth 20000 in
theorem kc_X11_giveNone : ZK mX11_giveNone 1 := ⟨zm3 79 rfl rfl, ini_X11, by decide +kernel, ⟨by decide +kernel, by decide +kernel, by decide +kernel⟩, by decide⟩
abbrev mX11_giveIfAny : ZM := (yX11_giveIfAny, cX11_giveIfAny, 2, some .int)
set_option maxRecDepth 20000 in
theorem kc_X11_giveIfAny : ZK mX11_giveIfAny 1 := ⟨zm3 236 rfl rfl, ini_X11, by decide +kernel, ⟨by decide +kernel, by decide +kernel, by decide +kernel⟩, by decide⟩
abbrev mX11_within : ZM := (yX11_within, cX11_within, 3, some .boolean)
set_option maxRecDepth 20000 in
theorem kc_X11_within : ZK mX11_within 3 := ⟨zm3 35 rfl rfl, ini_X11, by decide +kernel, ⟨by decide +kernel, by decide +kernel, by decide +kernel⟩, by decide⟩
abbrev mX11_clear : ZM := (yX11_clear, cX11_clear, 2, none)
set_option maxRecDepth 20000 in
theorem kc_X11_clear : ZK mX11_clear 1 := ⟨zm4 180 rfl rfl, ini_X11, by decide +kernel, ⟨by decide +kernel, by decide +kernel, by decide +kernel⟩, by decide⟩
abbrev mX11_isTray : ZM := (yX11_isTray, cX11_isTray, 2, some .boolean)
set_option maxRecDepth 20000 in
theorem kc_X11_isTray : ZK mX11_isTray 1 := ⟨zm3 32 rfl rfl, ini_X11, by decide +kernel, ⟨by decide +kernel, by decide +kernel, by decide +kernel⟩, by decide⟩
abbrev mX11_isSide : ZM := (yX11_isSide, cX11_isSide, 2, some .boolean)
set_option maxRecDepth 20000 in
theorem kc_X11_isSide : ZK mX11_isSide 1 := ⟨zm3 143 rfl rfl, ini_X11, by decide +kernel, ⟨by decide +kernel, by decide +kernel, by decide +kernel⟩, by decide⟩
abbrev mX11_isPart : ZM := (yX11_isPart, cX11_isPart, 3, some .boolean)
set_option maxRecDepth 20000 in
theorem kc_X11_isPart : ZK mX11_isPart 2 := ⟨zm3 192 rfl rfl, ini_X11, by decide +kernel, ⟨by decide +kernel, by decide +kernel, by decide +kernel⟩, by decide⟩
abbrev mX11_whyNoNumber : ZM := (yX11_whyNoNumber, cX11_whyNoNumber, 3, some .int)
set_option maxRecDepth 20000 in
theorem kc_X11_whyNoNumber : ZK mX11_whyNoNumber 2 := ⟨zm3 58 rfl rfl, ini_X11, by decide +kernel, ⟨by decide +kernel, by decide +kernel, by decide +kernel⟩, by decide⟩
abbrev mX11_whyNotLaid : ZM := (yX11_whyNotLaid, cX11_whyNotLaid, 3, some .int)
set_option maxRecDepth 20000 in
theorem kc_X11_whyNotLaid : ZK mX11_whyNotLaid 2 := ⟨zm3 155 rfl rfl, ini_X11, by decide +kernel, ⟨by decide +kernel, by decide +kernel, by decide +kernel⟩, by decide⟩
abbrev mX11_putOnTape : ZM := (yX11_putOnTape, cX11_putOnTape, 3, none)
set_option maxRecDepth 20000 in
theorem kc_X11_putOnTape : ZK mX11_putOnTape 1 := ⟨zm5 54 rfl rfl, ini_X11, by decide +kernel, ⟨by decide +kernel, by decide +kernel, by decide +kernel⟩, by decide⟩
abbrev mX12_init : ZM := (yX12_init, cX12_init, 1, none)
set_option maxRecDepth 20000 in
theorem kc_X12_init : ZK mX12_init 0 := ⟨zm6 53 rfl rfl, ini_X12, by decide +kernel, ⟨by decide +kernel, by decide +kernel, by decide +kernel⟩, by decide⟩
abbrev mX12_status : ZM := (yX12_status, cX12_status, 1, some .int)
set_option maxRecDepth 20000 in
theorem kc_X12_status : ZK mX12_status 0 := ⟨zm7 78 rfl rfl, ini_X12, by decide +kernel, ⟨by decide +kernel, by decide +kernel, by decide +kernel⟩, by decide⟩
abbrev mX12_is : ZM := (yX12_is, cX12_is, 2, some .boolean)
set_option maxRecDepth 20000 in
theorem kc_X12_is : ZK mX12_is 1 := ⟨zm7 89 rfl rfl, ini_X12, by decide +kernel, ⟨by decide +kernel, by decide +kernel, by decide +kernel⟩, by decide⟩
abbrev mX12_refuse : ZM := (yX12_refuse, cX12_refuse, 2, some .int)
set_option maxRecDepth 20000 in
theorem kc_X12_refuse : ZK mX12_refuse 1 := ⟨zm7 117 rfl rfl, ini_X12, by decide +kernel, ⟨by decide +kernel, by decide +kernel, by decide +kernel⟩, by decide⟩
abbrev mX12_gives : ZM := (yX12_gives, cX12_gives, 2, some .int)
set_option maxRecDepth 20000 in
theorem kc_X12_gives : ZK mX12_gives 1 := ⟨zm7 122 rfl rfl, ini_X12, by decide +kernel, ⟨by decide +kernel, by decide +kernel, by decide +kernel⟩, by decide⟩
abbrev mX12_isTray : ZM := (yX12_isTray, cX12_isTray, 1, some .boolean)
set_option maxRecDepth 20000 in
theorem kc_X12_isTray : ZK mX12_isTray 1 := ⟨zm7 85 rfl rfl, ini_X12, by decide +kernel, ⟨by decide +kernel, by decide +kernel, by decide +kernel⟩, by decide⟩
abbrev mX12_cut : ZM := (yX12_cut, cX12_cut, 3, some .long)
set_option maxRecDepth 20000 in
theorem kc_X12_cut : ZK mX12_cut 2 := ⟨zm7 100 rfl rfl, ini_X12, by decide +kernel, ⟨by decide +kernel, by decide +kernel, by decide +kernel⟩, by decide⟩
abbrev mX12_tray : ZM := (yX12_tray, cX12_tray, 5, some .boolean)
set_option maxRecDepth 20000 in
theorem kc_X12_tray : ZK mX12_tray 3 := ⟨zm7 82 rfl rfl, ini_X12, by decide +kernel, ⟨by decide +kernel, by decide +kernel, by decide +kernel⟩, by decide⟩
abbrev mX12_wrongPlace : ZM := (yX12_wrongPlace, cX12_wrongPlace, 3, some .int)
set_option maxRecDepth 20000 in
theorem kc_X12_wrongPlace : ZK mX12_wrongPlace 2 := ⟨zm7 97 rfl rfl, ini_X12, by decide +kernel, ⟨by decide +kernel, by decide +kernel, by decide +kernel⟩, by decide⟩
abbrev mX12_write : ZM := (yX12_write, cX12_write, 6, some .boolean)
set_option maxRecDepth 20000 in
theorem kc_X12_write : ZK mX12_write 3 := ⟨zm7 93 rfl rfl, ini_X12, by decide +kernel, ⟨by decide +kernel, by decide +kernel, by decide +kernel⟩, by decide⟩
abbrev mX12_read : ZM := (yX12_read, cX12_read, 3, some .long)
set_option maxRecDepth 20000 in
theorem kc_X12_read : ZK mX12_read 2 := ⟨zm7 104 rfl rfl, ini_X12, by decide +kernel, ⟨by decide +kernel, by decide +kernel, by decide +kernel⟩, by decide⟩
abbrev mX12_pour : ZM := (yX12_pour, cX12_pour, 8, some .boolean)
set_option maxRecDepth 20000 in
theorem kc_X12_pour : ZK mX12_pour 5 := ⟨zm7 109 rfl rfl, ini_X12, by decide +kernel, ⟨by decide +kernel, by decide +kernel, by decide +kernel⟩, by decide⟩
abbrev mX12_isSong : ZM := (yX12_isSong, cX12_isSong, 2, some .boolean)
set_option maxRecDepth 20000 in
theorem kc_X12_isSong : ZK mX12_isSong 1 := ⟨zm7 130 rfl rfl, ini_X12, by decide +kernel, ⟨by decide +kernel, by decide +kernel, by decide +kernel⟩, by decide⟩
abbrev mX12_song : ZM := (yX12_song, cX12_song, 5, some .int)
set_option maxRecDepth 20000 in
theorem kc_X12_song : ZK mX12_song 3 := ⟨zm7 113 rfl rfl, ini_X12, by decide +kernel, ⟨by decide +kernel, by decide +kernel, by decide +kernel⟩, by decide⟩
abbrev mX12_told : ZM := (yX12_told, cX12_told, 5, some .int)
set_option maxRecDepth 20000 in
theorem kc_X12_told : ZK mX12_told 2 := ⟨zm7 126 rfl rfl, ini_X12, by decide +kernel, ⟨by decide +kernel, by decide +kernel, by decide +kernel⟩, by decide⟩
abbrev mX12_rules : ZM := (yX12_rules, cX12_rules, 3, some .boolean)
set_option maxRecDepth 20000 in
theorem kc_X12_rules : ZK mX12_rules 2 := ⟨zm7 135 rfl rfl, ini_X12, by decide +kernel, ⟨by decide +kernel, by decide +kernel, by decide +kernel⟩, by decide⟩
abbrev mX12_isSide : ZM := (yX12_isSide, cX12_isSide, 1, some .boolean)
set_option maxRecDepth 20000 in
theorem kc_X12_isSide : ZK mX12_isSide 1 := ⟨zm7 142 rfl rfl, ini_X12, by decide +kernel, ⟨by decide +kernel, by decide +kernel, by decide +kernel⟩, by decide⟩
abbrev mX12_at : ZM := (yX12_at, cX12_at, 2, some .int)
set_option maxRecDepth 20000 in
theorem kc_X12_at : ZK mX12_at 2 := ⟨zm7 157 rfl rfl, ini_X12, by decide +kernel, ⟨by decide +kernel, by decide +kernel, by decide +kernel⟩, by decide⟩
abbrev mX12_empty : ZM := (yX12_empty, cX12_empty, 2, none)
set_option maxRecDepth 20000 in
theorem kc_X12_empty : ZK mX12_empty 1 := ⟨zm7 146 rfl rfl, ini_X12, by decide +kernel, ⟨by decide +kernel, by decide +kernel, by decide +kernel⟩, by decide⟩
abbrev mX12_anew : ZM := (yX12_anew, cX12_anew, 2, some .boolean)
set_option maxRecDepth 20000 in
theorem kc_X12_anew : ZK mX12_anew 1 := ⟨zm7 139 rfl rfl, ini_X12, by decide +kernel, ⟨by decide +kernel, by decide +kernel, by decide +kernel⟩, by decide⟩
abbrev mX12_puts : ZM := (yX12_puts, cX12_puts, 4, none)
set_option maxRecDepth 20000 in
theorem kc_X12_puts : ZK mX12_puts 3 := ⟨zm7 154 rfl rfl, ini_X12, by decide +kernel, ⟨by decide +kernel, by decide +kernel, by decide +kernel⟩, by decide⟩
abbrev mX12_lead : ZM := (yX12_lead, cX12_lead, 4, some .boolean)
set_option maxRecDepth 20000 in
theorem kc_X12_lead : ZK mX12_lead 2 := ⟨zm7 150 rfl rfl, ini_X12, by decide +kernel, ⟨by decide +kernel, by decide +kernel, by decide +kernel⟩, by decide⟩
abbrev mX12_lay : ZM := (yX12_lay, cX12_lay, 4, some .boolean)
set_option maxRecDepth 20000 in
theorem kc_X12_lay : ZK mX12_lay 2 := ⟨zm7 161 rfl rfl, ini_X12, by decide +kernel, ⟨by decide +kernel, by decide +kernel, by decide +kernel⟩, by decide⟩
abbrev mX12_parts : ZM := (yX12_parts, cX12_parts, 2, some .int)
set_option maxRecDepth 20000 in
theorem kc_X12_parts : ZK mX12_parts 1 := ⟨zm7 165 rfl rfl, ini_X12, by decide +kernel, ⟨by decide +kernel, by decide +kernel, by decide +kernel⟩, by decide⟩
abbrev mX12_isPart : ZM := (yX12_isPart, cX12_isPart, 3, some .boolean)
set_option maxRecDepth 20000 in
theorem kc_X12_isPart : ZK mX12_isPart 2 := ⟨zm7 173 rfl rfl, ini_X12, by decide +kernel, ⟨by decide +kernel, by decide +kernel, by decide +kernel⟩, by decide⟩
abbrev mX12_level : ZM := (yX12_level, cX12_level, 3, some .int)
set_option maxRecDepth 20000 in
theorem kc_X12_level : ZK mX12_level 2 := ⟨zm7 169 rfl rfl, ini_X12, by decide +kernel, ⟨by decide +kernel, by decide +kernel, by decide +kernel⟩, by decide⟩
abbrev mX12_stuck : ZM := (yX12_stuck, cX12_stuck, 3, some .int)
set_option maxRecDepth 20000 in
theorem kc_X12_stuck : ZK mX12_stuck 1 := ⟨zm7 181 rfl rfl, ini_X12, by decide +kernel, ⟨by decide +kernel, by decide +kernel, by decide +kernel⟩, by decide⟩
abbrev mX12_raise : ZM := (yX12_raise, cX12_raise, 3, none)
set_option maxRecDepth 20000 in
theorem kc_X12_raise : ZK mX12_raise 2 := ⟨zm7 193 rfl rfl, ini_X12, by decide +kernel, ⟨by decide +kernel, by decide +kernel, by decide +kernel⟩, by decide⟩
abbrev mX12_push : ZM := (yX12_push, cX12_push, 3, none)
set_option maxRecDepth 20000 in
theorem kc_X12_push : ZK mX12_push 1 := ⟨zm7 189 rfl rfl, ini_X12, by decide +kernel, ⟨by decide +kernel, by decide +kernel, by decide +kernel⟩, by decide⟩
abbrev mX12_spread : ZM := (yX12_spread, cX12_spread, 3, none)
set_option maxRecDepth 20000 in
theorem kc_X12_spread : ZK mX12_spread 1 := ⟨zm7 185 rfl rfl, ini_X12, by decide +kernel, ⟨by decide +kernel, by decide +kernel, by decide +kernel⟩, by decide⟩
abbrev mX12_place : ZM := (yX12_place, cX12_place, 3, some .int)
set_option maxRecDepth 20000 in
theorem kc_X12_place : ZK mX12_place 2 := ⟨zm7 177 rfl rfl, ini_X12, by decide +kernel, ⟨by decide +kernel, by decide +kernel, by decide +kernel⟩, by decide⟩
abbrev mX12_roomOf : ZM := (yX12_roomOf, cX12_roomOf, 3, some .int)
set_option maxRecDepth 20000 in
theorem kc_X12_roomOf : ZK mX12_roomOf 1 := ⟨zm7 201 rfl rfl, ini_X12, by decide +kernel, ⟨by decide +kernel, by decide +kernel, by decide +kernel⟩, by decide⟩
abbrev mX12_room : ZM := (yX12_room, cX12_room, 2, some .int)
set_option maxRecDepth 20000 in
theorem kc_X12_room : ZK mX12_room 1 := ⟨zm7 197 rfl rfl, ini_X12, by decide +kernel, ⟨by decide +kernel, by decide +kernel, by decide +kernel⟩, by decide⟩
abbrev mX12_tight : ZM := (yX12_tight, cX12_tight, 5, some .int)
set_option maxRecDepth 20000 in
theorem kc_X12_tight : ZK mX12_tight 2 := ⟨zm7 205 rfl rfl, ini_X12, by decide +kernel, ⟨by decide +kernel, by decide +kernel, by decide +kernel⟩, by decide⟩
abbrev mX12_cannot : ZM := (yX12_cannot, cX12_cannot, 3, some .int)
set_option maxRecDepth 20000 in
theorem kc_X12_cannot : ZK mX12_cannot 1 := ⟨zm7 209 rfl rfl, ini_X12, by decide +kernel, ⟨by decide +kernel, by decide +kernel, by decide +kernel⟩, by decide⟩
abbrev mX12_softer : ZM := (yX12_softer, cX12_softer, 5, some .int)
set_option maxRecDepth 20000 in
theorem kc_X12_softer : ZK mX12_softer 1 := ⟨zm7 213 rfl rfl, ini_X12, by decide +kernel, ⟨by decide +kernel, by decide +kernel, by decide +kernel⟩, by decide⟩
abbrev mX12_soften : ZM := (yX12_soften, cX12_soften, 5, some .int)
set_option maxRecDepth 20000 in
theorem kc_X12_soften : ZK mX12_soften 2 := ⟨zm7 218 rfl rfl, ini_X12, by decide +kernel, ⟨by decide +kernel, by decide +kernel, by decide +kernel⟩, by decide⟩
abbrev mX12_most : ZM := (yX12_most, cX12_most, 2, some .boolean)
set_option maxRecDepth 20000 in
theorem kc_X12_most : ZK mX12_most 1 := ⟨zm7 222 rfl rfl, ini_X12, by decide +kernel, ⟨by decide +kernel, by decide +kernel, by decide +kernel⟩, by decide⟩
abbrev mX12_isAhead : ZM := (yX12_isAhead, cX12_isAhead, 5, some .boolean)
set_option maxRecDepth 20000 in
theorem kc_X12_isAhead : ZK mX12_isAhead 2 := ⟨zm7 238 rfl rfl, ini_X12, by decide +kernel, ⟨by decide +kernel, by decide +kernel, by decide +kernel⟩, by decide⟩
abbrev mX12_choose : ZM := (yX12_choose, cX12_choose, 6, some .int)
set_option maxRecDepth 20000 in
theorem kc_X12_choose : ZK mX12_choose 1 := ⟨zm7 234 rfl rfl, ini_X12, by decide +kernel, ⟨by decide +kernel, by decide +kernel, by decide +kernel⟩, by decide⟩
abbrev mX12_orders : ZM := (yX12_orders, cX12_orders, 4, some .boolean)
set_option maxRecDepth 20000 in
theorem kc_X12_orders : ZK mX12_orders 0 := ⟨zm7 230 rfl rfl, ini_X12, by decide +kernel, ⟨by decide +kernel, by decide +kernel, by decide +kernel⟩, by decide⟩
abbrev mX12_order : ZM := (yX12_order, cX12_order, 1, some .int)
set_option maxRecDepth 20000 in
theorem kc_X12_order : ZK mX12_order 0 := ⟨zm7 226 rfl rfl, ini_X12, by decide +kernel, ⟨by decide +kernel, by decide +kernel, by decide +kernel⟩, by decide⟩
abbrev mX12_sideOf : ZM := (yX12_sideOf, cX12_sideOf, 3, some .int)
set_option maxRecDepth 20000 in
theorem kc_X12_sideOf : ZK mX12_sideOf 1 := ⟨zm8 2 rfl rfl, ini_X12, by decide +kernel, ⟨by decide +kernel, by decide +kernel, by decide +kernel⟩, by decide⟩
abbrev mX12_songAt : ZM := (yX12_songAt, cX12_songAt, 3, some .int)
set_option maxRecDepth 20000 in
theorem kc_X12_songAt : ZK mX12_songAt 2 := ⟨zm8 6 rfl rfl, ini_X12, by decide +kernel, ⟨by decide +kernel, by decide +kernel, by decide +kernel⟩, by decide⟩
abbrev mX12_press : ZM := (yX12_press, cX12_press, 5, some .boolean)
set_option maxRecDepth 20000 in
theorem kc_X12_press : ZK mX12_press 0 := ⟨zm8 10 rfl rfl, ini_X12, by decide +kernel, ⟨by decide +kernel, by decide +kernel, by decide +kernel⟩, by decide⟩
abbrev mX12_ringOf : ZM := (yX12_ringOf, cX12_ringOf, 7, some .int)
set_option maxRecDepth 20000 in
theorem kc_X12_ringOf : ZK mX12_ringOf 2 := ⟨zm8 18 rfl rfl, ini_X12, by decide +kernel, ⟨by decide +kernel, by decide +kernel, by decide +kernel⟩, by decide⟩
abbrev mX12_ring : ZM := (yX12_ring, cX12_ring, 3, some .int)
set_option maxRecDepth 20000 in
theorem kc_X12_ring : ZK mX12_ring 2 := ⟨zm8 14 rfl rfl, ini_X12, by decide +kernel, ⟨by decide +kernel, by decide +kernel, by decide +kernel⟩, by decide⟩
abbrev mX12_inTime : ZM := (yX12_inTime, cX12_inTime, 2, some .int)
set_option maxRecDepth 20000 in
theorem kc_X12_inTime : ZK mX12_inTime 1 := ⟨zm8 22 rfl rfl, ini_X12, by decide +kernel, ⟨by decide +kernel, by decide +kernel, by decide +kernel⟩, by decide⟩
abbrev mX12_click : ZM := (yX12_click, cX12_click, 3, some .boolean)
set_option maxRecDepth 20000 in
theorem kc_X12_click : ZK mX12_click 2 := ⟨zm8 26 rfl rfl, ini_X12, by decide +kernel, ⟨by decide +kernel, by decide +kernel, by decide +kernel⟩, by decide⟩
abbrev mX12_clean : ZM := (yX12_clean, cX12_clean, 2, some .boolean)
set_option maxRecDepth 20000 in
theorem kc_X12_clean : ZK mX12_clean 0 := ⟨zm8 30 rfl rfl, ini_X12, by decide +kernel, ⟨by decide +kernel, by decide +kernel, by decide +kernel⟩, by decide⟩
abbrev mX12_hasClick : ZM := (yX12_hasClick, cX12_hasClick, 3, some .boolean)
set_option maxRecDepth 20000 in
theorem kc_X12_hasClick : ZK mX12_hasClick 2 := ⟨zm8 46 rfl rfl, ini_X12, by decide +kernel, ⟨by decide +kernel, by decide +kernel, by decide +kernel⟩, by decide⟩
abbrev mX12_lineFrom : ZM := (yX12_lineFrom, cX12_lineFrom, 5, some .int)
set_option maxRecDepth 20000 in
theorem kc_X12_lineFrom : ZK mX12_lineFrom 3 := ⟨zm8 42 rfl rfl, ini_X12, by decide +kernel, ⟨by decide +kernel, by decide +kernel, by decide +kernel⟩, by decide⟩
abbrev mX12_findLine : ZM := (yX12_findLine, cX12_findLine, 6, some .int)
set_option maxRecDepth 20000 in
theorem kc_X12_findLine : ZK mX12_findLine 0 := ⟨zm8 38 rfl rfl, ini_X12, by decide +kernel, ⟨by decide +kernel, by decide +kernel, by decide +kernel⟩, by decide⟩
abbrev mX12_longest : ZM := (yX12_longest, cX12_longest, 1, some .int)
set_option maxRecDepth 20000 in
theorem kc_X12_longest : ZK mX12_longest 0 := ⟨zm8 34 rfl rfl, ini_X12, by decide +kernel, ⟨by decide +kernel, by decide +kernel, by decide +kernel⟩, by decide⟩
abbrev mX12_line : ZM := (yX12_line, cX12_line, 3, some .int)
set_option maxRecDepth 20000 in
theorem kc_X12_line : ZK mX12_line 1 := ⟨zm8 50 rfl rfl, ini_X12, by decide +kernel, ⟨by decide +kernel, by decide +kernel, by decide +kernel⟩, by decide⟩
abbrev mX12_through : ZM := (yX12_through, cX12_through, 9, some .int)
set_option maxRecDepth 20000 in
theorem kc_X12_through : ZK mX12_through 2 := ⟨zm8 58 rfl rfl, ini_X12, by decide +kernel, ⟨by decide +kernel, by decide +kernel, by decide +kernel⟩, by decide⟩
abbrev mX12_cover : ZM := (yX12_cover, cX12_cover, 5, some .int)
set_option maxRecDepth 20000 in
theorem kc_X12_cover : ZK mX12_cover 0 := ⟨zm8 54 rfl rfl, ini_X12, by decide +kernel, ⟨by decide +kernel, by decide +kernel, by decide +kernel⟩, by decide⟩
abbrev mX12_lock : ZM := (yX12_lock, cX12_lock, 3, some .boolean)
set_option maxRecDepth 20000 in
theorem kc_X12_lock : ZK mX12_lock 2 := ⟨zm8 63 rfl rfl, ini_X12, by decide +kernel, ⟨by decide +kernel, by decide +kernel, by decide +kernel⟩, by decide⟩
abbrev mX12_locked : ZM := (yX12_locked, cX12_locked, 2, some .int)
set_option maxRecDepth 20000 in
theorem kc_X12_locked : ZK mX12_locked 1 := ⟨zm8 67 rfl rfl, ini_X12, by decide +kernel, ⟨by decide +kernel, by decide +kernel, by decide +kernel⟩, by decide⟩
abbrev mX12_knock : ZM := (yX12_knock, cX12_knock, 3, some .boolean)
set_option maxRecDepth 20000 in
theorem kc_X12_knock : ZK mX12_knock 2 := ⟨zm8 71 rfl rfl, ini_X12, by decide +kernel, ⟨by decide +kernel, by decide +kernel, by decide +kernel⟩, by decide⟩
abbrev mX12_still : ZM := (yX12_still, cX12_still, 1, some .boolean)
set_option maxRecDepth 20000 in
theorem kc_X12_still : ZK mX12_still 0 := ⟨zm8 79 rfl rfl, ini_X12, by decide +kernel, ⟨by decide +kernel, by decide +kernel, by decide +kernel⟩, by decide⟩
abbrev mX12_find : ZM := (yX12_find, cX12_find, 3, some .int)
set_option maxRecDepth 20000 in
theorem kc_X12_find : ZK mX12_find 1 := ⟨zm8 75 rfl rfl, ini_X12, by decide +kernel, ⟨by decide +kernel, by decide +kernel, by decide +kernel⟩, by decide⟩
abbrev mX12_placeOf : ZM := (yX12_placeOf, cX12_placeOf, 3, some .int)
set_option maxRecDepth 20000 in
theorem kc_X12_placeOf : ZK mX12_placeOf 2 := ⟨zm8 99 rfl rfl, ini_X12, by decide +kernel, ⟨by decide +kernel, by decide +kernel, by decide +kernel⟩, by decide⟩
abbrev mX12_fall : ZM := (yX12_fall, cX12_fall, 8, some .int)
set_option maxRecDepth 20000 in
theorem kc_X12_fall : ZK mX12_fall 3 := ⟨zm8 95 rfl rfl, ini_X12, by decide +kernel, ⟨by decide +kernel, by decide +kernel, by decide +kernel⟩, by decide⟩
abbrev mX12_behind : ZM := (yX12_behind, cX12_behind, 4, some .int)
set_option maxRecDepth 20000 in
theorem kc_X12_behind : ZK mX12_behind 2 := ⟨zm8 104 rfl rfl, ini_X12, by decide +kernel, ⟨by decide +kernel, by decide +kernel, by decide +kernel⟩, by decide⟩
abbrev mX12_play : ZM := (yX12_play, cX12_play, 6, some .int)
set_option maxRecDepth 20000 in
theorem kc_X12_play : ZK mX12_play 2 := ⟨zm8 91 rfl rfl, ini_X12, by decide +kernel, ⟨by decide +kernel, by decide +kernel, by decide +kernel⟩, by decide⟩
abbrev mX12_listen : ZM := (yX12_listen, cX12_listen, 3, some .int)
set_option maxRecDepth 20000 in
theorem kc_X12_listen : ZK mX12_listen 2 := ⟨zm8 87 rfl rfl, ini_X12, by decide +kernel, ⟨by decide +kernel, by decide +kernel, by decide +kernel⟩, by decide⟩
abbrev mX12_heard : ZM := (yX12_heard, cX12_heard, 4, some .int)
set_option maxRecDepth 20000 in
theorem kc_X12_heard : ZK mX12_heard 2 := ⟨zm8 83 rfl rfl, ini_X12, by decide +kernel, ⟨by decide +kernel, by decide +kernel, by decide +kernel⟩, by decide⟩
abbrev mX12_songHeard : ZM := (yX12_songHeard, cX12_songHeard, 4, some .int)
set_option maxRecDepth 20000 in
theorem kc_X12_songHeard : ZK mX12_songHeard 2 := ⟨zm8 108 rfl rfl, ini_X12, by decide +kernel, ⟨by decide +kernel, by decide +kernel, by decide +kernel⟩, by decide⟩
abbrev mX12_missed : ZM := (yX12_missed, cX12_missed, 5, some .int)
set_option maxRecDepth 20000 in
theorem kc_X12_missed : ZK mX12_missed 1 := ⟨zm8 112 rfl rfl, ini_X12, by decide +kernel, ⟨by decide +kernel, by decide +kernel, by decide +kernel⟩, by decide⟩
abbrev mX12_besides : ZM := (yX12_besides, cX12_besides, 2, some .boolean)
set_option maxRecDepth 20000 in
theorem kc_X12_besides : ZK mX12_besides 0 := ⟨zm8 120 rfl rfl, ini_X12, by decide +kernel, ⟨by decide +kernel, by decide +kernel, by decide +kernel⟩, by decide⟩
abbrev mX12_placeBeside : ZM := (yX12_placeBeside, cX12_placeBeside, 3, some .int)
set_option maxRecDepth 20000 in
theorem kc_X12_placeBeside : ZK mX12_placeBeside 2 := ⟨zm8 116 rfl rfl, ini_X12, by decide +kernel, ⟨by decide +kernel, by decide +kernel, by decide +kernel⟩, by decide⟩
abbrev mX12_roomBeside : ZM := (yX12_roomBeside, cX12_roomBeside, 3, some .int)
set_option maxRecDepth 20000 in
theorem kc_X12_roomBeside : ZK mX12_roomBeside 0 := ⟨zm8 124 rfl rfl, ini_X12, by decide +kernel, ⟨by decide +kernel, by decide +kernel, by decide +kernel⟩, by decide⟩
abbrev mX12_feed : ZM := (yX12_feed, cX12_feed, 6, some .int)
set_option maxRecDepth 20000 in
theorem kc_X12_feed : ZK mX12_feed 5 := ⟨zm8 128 rfl rfl, ini_X12, by decide +kernel, ⟨by decide +kernel, by decide +kernel, by decide +kernel⟩, by decide⟩
abbrev mX12_four : ZM := (yX12_four, cX12_four, 3, none)
set_option maxRecDepth 20000 in
theorem kc_X12_four : ZK mX12_four 1 := ⟨zm8 132 rfl rfl, ini_X12, by decide +kernel, ⟨by decide +kernel, by decide +kernel, by decide +kernel⟩, by decide⟩
abbrev mX12_sign : ZM := (yX12_sign, cX12_sign, 2, some .int)
set_option maxRecDepth 20000 in
theorem kc_X12_sign : ZK mX12_sign 1 := ⟨zm8 144 rfl rfl, ini_X12, by decide +kernel, ⟨by decide +kernel, by decide +kernel, by decide +kernel⟩, by decide⟩
abbrev mX12_isSmall : ZM := (yX12_isSmall, cX12_isSmall, 1, some .boolean)
set_option maxRecDepth 20000 in
theorem kc_X12_isSmall : ZK mX12_isSmall 1 := ⟨zm8 147 rfl rfl, ini_X12, by decide +kernel, ⟨by decide +kernel, by decide +kernel, by decide +kernel⟩, by decide⟩
abbrev mX12_isDigit : ZM := (yX12_isDigit, cX12_isDigit, 1, some .boolean)
set_option maxRecDepth 20000 in
theorem kc_X12_isDigit : ZK mX12_isDigit 1 := ⟨zm8 150 rfl rfl, ini_X12, by decide +kernel, ⟨by decide +kernel, by decide +kernel, by decide +kernel⟩, by decide⟩
abbrev mX12_next : ZM := (yX12_next, cX12_next, 2, none)
set_option maxRecDepth 20000 in
theorem kc_X12_next : ZK mX12_next 0 := ⟨zm8 140 rfl rfl, ini_X12, by decide +kernel, ⟨by decide +kernel, by decide +kernel, by decide +kernel⟩, by decide⟩
abbrev mX12_isWord : ZM := (yX12_isWord, cX12_isWord, 3, some .boolean)
set_option maxRecDepth 20000 in
theorem kc_X12_isWord : ZK mX12_isWord 1 := ⟨zm8 168 rfl rfl, ini_X12, by decide +kernel, ⟨by decide +kernel, by decide +kernel, by decide +kernel⟩, by decide⟩
abbrev mX12_isSign : ZM := (yX12_isSign, cX12_isSign, 2, some .boolean)
set_option maxRecDepth 20000 in
theorem kc_X12_isSign : ZK mX12_isSign 1 := ⟨zm8 155 rfl rfl, ini_X12, by decide +kernel, ⟨by decide +kernel, by decide +kernel, by decide +kernel⟩, by decide⟩
abbrev mX12_fail : ZM := (yX12_fail, cX12_fail, 2, some .boolean)
set_option maxRecDepth 20000 in
theorem kc_X12_fail : ZK mX12_fail 1 := ⟨zm8 178 rfl rfl, ini_X12, by decide +kernel, ⟨by decide +kernel, by decide +kernel, by decide +kernel⟩, by decide⟩
abbrev mX12_want : ZM := (yX12_want, cX12_want, 2, some .boolean)
set_option maxRecDepth 20000 in
theorem kc_X12_want : ZK mX12_want 1 := ⟨zm8 174 rfl rfl, ini_X12, by decide +kernel, ⟨by decide +kernel, by decide +kernel, by decide +kernel⟩, by decide⟩
abbrev mX12_wantNumber : ZM := (yX12_wantNumber, cX12_wantNumber, 4, some .int)
set_option maxRecDepth 20000 in
theorem kc_X12_wantNumber : ZK mX12_wantNumber 2 := ⟨zm8 208 rfl rfl, ini_X12, by decide +kernel, ⟨by decide +kernel, by decide +kernel, by decide +kernel⟩, by decide⟩
abbrev mX12_wantName : ZM := (yX12_wantName, cX12_wantName, 5, some .int)
set_option maxRecDepth 20000 in
theorem kc_X12_wantName : ZK mX12_wantName 0 := ⟨zm8 197 rfl rfl, ini_X12, by decide +kernel, ⟨by decide +kernel, by decide +kernel, by decide +kernel⟩, by decide⟩
abbrev mX12_set : ZM := (yX12_set, cX12_set, 4, none)
set_option maxRecDepth 20000 in
theorem kc_X12_set : ZK mX12_set 3 := ⟨zm8 163 rfl rfl, ini_X12, by decide +kernel, ⟨by decide +kernel, by decide +kernel, by decide +kernel⟩, by decide⟩
abbrev mX12_kindHere : ZM := (yX12_kindHere, cX12_kindHere, 1, some .int)
set_option maxRecDepth 20000 in
theorem kc_X12_kindHere : ZK mX12_kindHere 0 := ⟨zm8 186 rfl rfl, ini_X12, by decide +kernel, ⟨by decide +kernel, by decide +kernel, by decide +kernel⟩, by decide⟩
abbrev mX12_step : ZM := (yX12_step, cX12_step, 4, some .boolean)
set_option maxRecDepth 20000 in
theorem kc_X12_step : ZK mX12_step 0 := ⟨zm8 182 rfl rfl, ini_X12, by decide +kernel, ⟨by decide +kernel, by decide +kernel, by decide +kernel⟩, by decide⟩
abbrev mX12_tests : ZM := (yX12_tests, cX12_tests, 4, none)
set_option maxRecDepth 20000 in
theorem kc_X12_tests : ZK mX12_tests 1 := ⟨zm8 201 rfl rfl, ini_X12, by decide +kernel, ⟨by decide +kernel, by decide +kernel, by decide +kernel⟩, by decide⟩
abbrev mX12_options : ZM := (yX12_options, cX12_options, 4, none)
set_option maxRecDepth 20000 in
theorem kc_X12_options : ZK mX12_options 1 := ⟨zm8 212 rfl rfl, ini_X12, by decide +kernel, ⟨by decide +kernel, by decide +kernel, by decide +kernel⟩, by decide⟩
abbrev mX12_closes : ZM := (yX12_closes, cX12_closes, 2, some .boolean)
set_option maxRecDepth 20000 in
theorem kc_X12_closes : ZK mX12_closes 0 := ⟨zm8 159 rfl rfl, ini_X12, by decide +kernel, ⟨by decide +kernel, by decide +kernel, by decide +kernel⟩, by decide⟩
abbrev mX12_sheet : ZM := (yX12_sheet, cX12_sheet, 4, some .int)
set_option maxRecDepth 20000 in
theorem kc_X12_sheet : ZK mX12_sheet 1 := ⟨zm8 136 rfl rfl, ini_X12, by decide +kernel, ⟨by decide +kernel, by decide +kernel, by decide +kernel⟩, by decide⟩
abbrev mX12_fault : ZM := (yX12_fault, cX12_fault, 2, some .int)
set_option maxRecDepth 20000 in
theorem kc_X12_fault : ZK mX12_fault 1 := ⟨zm8 220 rfl rfl, ini_X12, by decide +kernel, ⟨by decide +kernel, by decide +kernel, by decide +kernel⟩, by decide⟩
abbrev mX12_keep : ZM := (yX12_keep, cX12_keep, 3, none)
set_option maxRecDepth 20000 in
theorem kc_X12_keep : ZK mX12_keep 1 := ⟨zm8 228 rfl rfl, ini_X12, by decide +kernel, ⟨by decide +kernel, by decide +kernel, by decide +kernel⟩, by decide⟩
abbrev mX12_wrongStep : ZM := (yX12_wrongStep, cX12_wrongStep, 3, some .int)
set_option maxRecDepth 20000 in
theorem kc_X12_wrongStep : ZK mX12_wrongStep 1 := ⟨zm8 232 rfl rfl, ini_X12, by decide +kernel, ⟨by decide +kernel, by decide +kernel, by decide +kernel⟩, by decide⟩
abbrev mX12_beginOf : ZM := (yX12_beginOf, cX12_beginOf, 2, some .int)
set_option maxRecDepth 20000 in
theorem kc_X12_beginOf : ZK mX12_beginOf 1 := ⟨zm9 0 rfl rfl, ini_X12, by decide +kernel, ⟨by decide +kernel, by decide +kernel, by decide +kernel⟩, by decide⟩
abbrev mX12_endOf : ZM := (yX12_endOf, cX12_endOf, 2, some .int)
set_option maxRecDepth 20000 in
theorem kc_X12_endOf : ZK mX12_endOf 1 := ⟨zm8 236 rfl rfl, ini_X12, by decide +kernel, ⟨by decide +kernel, by decide +kernel, by decide +kernel⟩, by decide⟩
abbrev mX12_laysSong : ZM := (yX12_laysSong, cX12_laysSong, 6, none)
set_option maxRecDepth 20000 in
theorem kc_X12_laysSong : ZK mX12_laysSong 1 := ⟨zm9 12 rfl rfl, ini_X12, by decide +kernel, ⟨by decide +kernel, by decide +kernel, by decide +kernel⟩, by decide⟩
abbrev mX12_holds : ZM := (yX12_holds, cX12_holds, 3, some .boolean)
set_option maxRecDepth 20000 in
theorem kc_X12_holds : ZK mX12_holds 1 := ⟨zm9 4 rfl rfl, ini_X12, by decide +kernel, ⟨by decide +kernel, by decide +kernel, by decide +kernel⟩, by decide⟩
abbrev mX12_run : ZM := (yX12_run, cX12_run, 8, some .int)
set_option maxRecDepth 20000 in
theorem kc_X12_run : ZK mX12_run 0 := ⟨zm8 224 rfl rfl, ini_X12, by decide +kernel, ⟨by decide +kernel, by decide +kernel, by decide +kernel⟩, by decide⟩
abbrev mX12_does : ZM := (yX12_does, cX12_does, 3, none)
set_option maxRecDepth 20000 in
theorem kc_X12_does : ZK mX12_does 1 := ⟨zm9 8 rfl rfl, ini_X12, by decide +kernel, ⟨by decide +kernel, by decide +kernel, by decide +kernel⟩, by decide⟩
abbrev mX12_error : ZM := (yX12_error, cX12_error, 2, some .int)
set_option maxRecDepth 20000 in
theorem kc_X12_error : ZK mX12_error 1 := ⟨zm9 16 rfl rfl, ini_X12, by decide +kernel, ⟨by decide +kernel, by decide +kernel, by decide +kernel⟩, by decide⟩
abbrev mX12_mark : ZM := (yX12_mark, cX12_mark, 5, some .int)
set_option maxRecDepth 20000 in
theorem kc_X12_mark : ZK mX12_mark 2 := ⟨zm9 20 rfl rfl, ini_X12, by decide +kernel, ⟨by decide +kernel, by decide +kernel, by decide +kernel⟩, by decide⟩
abbrev mJ6_numberOfTrailingZeros_0f7a4 : ZM := (yJ6_numberOfTrailingZeros_0f7a4, cJ6_numberOfTrailingZeros_0f7a4, 2, some .int)
set_option maxRecDepth 20000 in
theorem kc_J6_numberOfTrailingZeros_0f7a4 : ZK mJ6_numberOfTrailingZeros_0f7a4 1 := ⟨zm4 141 rfl rfl, ini_J6, by decide +kernel, ⟨by decide +kernel, by decide +kernel, by decide +kernel⟩, by decide⟩
abbrev mJ6_bitCount_0f7a4 : ZM := (yJ6_bitCount_0f7a4, cJ6_bitCount_0f7a4, 1, some .int)
set_option maxRecDepth 20000 in
theorem kc_J6_bitCount_0f7a4 : ZK mJ6_bitCount_0f7a4 1 := ⟨zm4 115 rfl rfl, ini_J6, by decide +kernel, ⟨by decide +kernel, by decide +kernel, by decide +kernel⟩, by decide⟩
abbrev mJ0_length_8abf5 : ZM := (yJ0_length_8abf5, cJ0_length_8abf5, 1, some .int)
set_option maxRecDepth 20000 in
theorem kc_J0_length_8abf5 : ZK mJ0_length_8abf5 0 := ⟨zm5 88 rfl rfl, ini_J0, by decide +kernel, ⟨by decide +kernel, by decide +kernel, by decide +kernel⟩, by decide⟩
abbrev mJ0_charAt_5068e : ZM := (yJ0_charAt_5068e, cJ0_charAt_5068e, 2, some .char)
set_option maxRecDepth 20000 in
theorem kc_J0_charAt_5068e : ZK mJ0_charAt_5068e 1 := ⟨zm5 98 rfl rfl, ini_J0, by decide +kernel, ⟨by decide +kernel, by decide +kernel, by decide +kernel⟩, by decide⟩
abbrev mJ0_coder_7d493 : ZM := (yJ0_coder_7d493, cJ0_coder_7d493, 1, some .byte)
set_option maxRecDepth 20000 in
theorem kc_J0_coder_7d493 : ZK mJ0_coder_7d493 0 := ⟨zm5 92 rfl rfl, ini_J0, by decide +kernel, ⟨by decide +kernel, by decide +kernel, by decide +kernel⟩, by decide⟩
abbrev mJ0_isLatin1_aae02 : ZM := (yJ0_isLatin1_aae02, cJ0_isLatin1_aae02, 1, some .boolean)
set_option maxRecDepth 20000 in
theorem kc_J0_isLatin1_aae02 : ZK mJ0_isLatin1_aae02 0 := ⟨zm5 102 rfl rfl, ini_J0, by decide +kernel, ⟨by decide +kernel, by decide +kernel, by decide +kernel⟩, by decide⟩
abbrev mJ0_checkIndex_df160 : ZM := (yJ0_checkIndex_df160, cJ0_checkIndex_df160, 2, none)
set_option maxRecDepth 20000 in
theorem kc_J0_checkIndex_df160 : ZK mJ0_checkIndex_df160 2 := ⟨zm5 108 rfl rfl, ini_J0, by decide +kernel, ⟨by decide +kernel, by decide +kernel, by decide +kernel⟩, by decide⟩
abbrev mJ1_charAt_3b067 : ZM := (yJ1_charAt_3b067, cJ1_charAt_3b067, 2, some .char)
set_option maxRecDepth 20000 in
theorem kc_J1_charAt_3b067 : ZK mJ1_charAt_3b067 2 := ⟨zm5 105 rfl rfl, ini_J1, by decide +kernel, ⟨by decide +kernel, by decide +kernel, by decide +kernel⟩, by decide⟩
abbrev mJ2_getChar_3b067 : ZM := (yJ2_getChar_3b067, cJ2_getChar_3b067, 2, some .char)
set_option maxRecDepth 20000 in
theorem kc_J2_getChar_3b067 : ZK mJ2_getChar_3b067 2 := ⟨zm5 126 rfl rfl, ini_J2, by decide +kernel, ⟨by decide +kernel, by decide +kernel, by decide +kernel⟩, by decide⟩
abbrev mJ2_length_9d52b : ZM := (yJ2_length_9d52b, cJ2_length_9d52b, 1, some .int)
set_option maxRecDepth 20000 in
theorem kc_J2_length_9d52b : ZK mJ2_length_9d52b 1 := ⟨zm5 122 rfl rfl, ini_J2, by decide +kernel, ⟨by decide +kernel, by decide +kernel, by decide +kernel⟩, by decide⟩
abbrev mJ2_charAt_3b067 : ZM := (yJ2_charAt_3b067, cJ2_charAt_3b067, 2, some .char)
set_option maxRecDepth 20000 in
theorem kc_J2_charAt_3b067 : ZK mJ2_charAt_3b067 2 := ⟨zm5 116 rfl rfl, ini_J2, by decide +kernel, ⟨by decide +kernel, by decide +kernel, by decide +kernel⟩, by decide⟩
abbrev mJ2_checkIndex_2214a : ZM := (yJ2_checkIndex_2214a, cJ2_checkIndex_2214a, 2, none)
set_option maxRecDepth 20000 in
theorem kc_J2_checkIndex_2214a : ZK mJ2_checkIndex_2214a 2 := ⟨zm5 119 rfl rfl, ini_J2, by decide +kernel, ⟨by decide +kernel, by decide +kernel, by decide +kernel⟩, by decide⟩
abbrev mJ7_fill_d0a16 : ZM := (yJ7_fill_d0a16, cJ7_fill_d0a16, 5, none)
set_option maxRecDepth 20000 in
theorem kc_J7_fill_d0a16 : ZK mJ7_fill_d0a16 2 := ⟨zm3 46 rfl rfl, ini_J7, by decide +kernel, ⟨by decide +kernel, by decide +kernel, by decide +kernel⟩, by decide⟩
abbrev mJ7_fill_53178 : ZM := (yJ7_fill_53178, cJ7_fill_53178, 4, none)
set_option maxRecDepth 20000 in
theorem kc_J7_fill_53178 : ZK mJ7_fill_53178 2 := ⟨zm2 42 rfl rfl, ini_J7, by decide +kernel, ⟨by decide +kernel, by decide +kernel, by decide +kernel⟩, by decide⟩
abbrev mJ3_checkIndex_8e157 : ZM := (yJ3_checkIndex_8e157, cJ3_checkIndex_8e157, 3, some .int)
set_option maxRecDepth 20000 in
theorem kc_J3_checkIndex_8e157 : ZK mJ3_checkIndex_8e157 3 := ⟨zm5 113 rfl rfl, ini_J3, by decide +kernel, ⟨by decide +kernel, by decide +kernel, by decide +kernel⟩, by decide⟩
