/-! ===== rules: arrays, new cells ===== -/
theorem ft0 (j : Nat) : ftc (tyX0 j) ≠ 5 := by
  unfold tyX0
  split <;> decide
theorem ft1 (j : Nat) : ftc (tyX1 j) ≠ 5 := by
  unfold tyX1
  split <;> decide
theorem ft2 (j : Nat) : ftc (tyX2 j) ≠ 5 := by
  unfold tyX2
  split <;> decide
theorem ft3 (j : Nat) : ftc (tyX3 j) ≠ 5 := by
  unfold tyX3
  split <;> decide
theorem ft4 (j : Nat) : ftc (tyX4 j) ≠ 5 := by
  unfold tyX4
  split <;> decide
theorem ft5 (j : Nat) : ftc (tyX5 j) ≠ 5 := by
  unfold tyX5
  split <;> decide
theorem ft6 (j : Nat) : ftc (tyX6 j) ≠ 5 := by
  unfold tyX6
  split <;> decide
theorem ft7 (j : Nat) : ftc (tyX7 j) ≠ 5 := by
  unfold tyX7
  split <;> decide
theorem ft8 (j : Nat) : ftc (tyX8 j) ≠ 5 := by
  unfold tyX8
  split <;> decide
theorem ft9 (j : Nat) : ftc (tyX9 j) ≠ 5 := by
  unfold tyX9
  split <;> decide
theorem ft10 (j : Nat) : ftc (tyX10 j) ≠ 5 := by
  unfold tyX10
  split <;> decide
theorem ft11 (j : Nat) : ftc (tyX11 j) ≠ 5 := by
  unfold tyX11
  split <;> decide
theorem ft12 (j : Nat) : ftc (tyX12 j) ≠ 5 := by
  unfold tyX12
  split <;> decide
theorem ft_all {ci : Nat} (h : ci < 13) (j : Nat) : ftc (zty ci j) ≠ 5 := by
  match ci, h with
  | 0, _ => exact ft0 j | 1, _ => exact ft1 j | 2, _ => exact ft2 j | 3, _ => exact ft3 j | 4, _ => exact ft4 j | 5, _ => exact ft5 j | 6, _ => exact ft6 j | 7, _ => exact ft7 j | 8, _ => exact ft8 j | 9, _ => exact ft9 j | 10, _ => exact ft10 j | 11, _ => exact ft11 j | 12, _ => exact ft12 j
theorem fv_def {G : ZG} {t : FieldType} (h : ftc t ≠ 5) : defaultValue t = fv G (ftc t) 0 none := by
  cases t <;> first | rfl | (exact absurd rfl h)
section ZY
variable {G : ZG} {M : ZM} {d bc bs pc : Nat} {L S : List AV} {A : AH} {K : Option AV → AH → Prop}
theorem zclamp {i : Int} (h : zv (vi i)) : (Int32.ofInt i).toNatClampNeg = i.toNat := by
  show (Int32.ofInt i).toInt.toNat = i.toNat
  rw [zt h]
theorem zvp {i : Int} {n : Nat} (h : zv (vi i)) (h1 : 0 ≤ i) (h2 : i < n) : vp_in (Int32.ofInt i) n := by
  rw [vp_in_iff, zt h]
  exact ⟨h1, h2⟩
theorem zvpi {i : Int} {n : Nat} (h : zv (vi i)) (h1 : 0 ≤ i) (h2 : i < n) : ¬ (Int32.ofInt i < 0 ∨ n ≤ (Int32.ofInt i).toNatClampNeg) := zvp h h1 h2
theorem Z_iald {o n : Nat} {i : Int} (hd : decode M.2.1 pc = .ok (.iaload, 1)) (ho : A.1[o]? = some (.inr (0, n))) (hi : 0 ≤ i ∧ i < n) (kk : Z G M d bc bs (pc + 1) L (vi (A.2.1 o i.toNat) :: S) A K) : Z G M d bc bs pc L (vi i :: vr (some o) :: S) A K := by
  intro p l e R s m args below meth c H locs cells slots ls mc ms A0 hC hX hH hA hS hl hL hSt hc hs
  have hir := (zin_cons.mp hSt).1
  have h1 : zr 0 (A.2.1 o i.toNat) := by
    have h1 := hH.2.1 o i.toNat
    unfold zc at h1
    rw [ho] at h1
    exact h1
  have hr : zv (vi (A.2.1 o i.toNat)) := h1
  rw [List.map_cons, List.map_cons, cv_rf, adr_of hH ho]
  refine va_iald hC.1 hC.2.1 hX.1 hH.1 o 0 (zws_get ho) rfl (zvp hir hi.1 hi.2) hd ?_
  rw [zclamp hir]
  exact kk p l e R s m args below meth c H locs cells slots ls mc ms A0 hC hX hH hA hS hl hL (zin_cons.mpr ⟨hr, (zin_cons.mp (zin_cons.mp hSt).2).2⟩) hc hs
theorem Z_iast {o n : Nat} {i x : Int} (hd : decode M.2.1 pc = .ok (.iastore, 1)) (ho : A.1[o]? = some (.inr (0, n))) (hi : 0 ≤ i ∧ i < n) (kk : Z G M d bc bs (pc + 1) L S (hset A o i.toNat x) K) : Z G M d bc bs pc L (vi x :: vi i :: vr (some o) :: S) A K := by
  intro p l e R s m args below meth c H locs cells slots ls mc ms A0 hC hX hH hA hS hl hL hSt hc hs
  have hxr := (zin_cons.mp hSt).1
  have hir := (zin_cons.mp (zin_cons.mp hSt).2).1
  have hS2 := (zin_cons.mp (zin_cons.mp (zin_cons.mp hSt).2).2).2
  rw [List.map_cons, List.map_cons, List.map_cons, cv_rf, adr_of hH ho]
  have he := zws_get (G := G) ho
  have hD := zD (G := G) hA
  refine W.iast hC.1 hC.2.1 (hH.1 o _ he) ((hX.1.2 0 _ rfl).1 n (fun j => .int (Int32.ofInt (A.2.1 o j)))) (fun q => by cases q) (by show ¬ (Int32.ofInt i < 0 ∨ (arrV _ _ _).slots.size ≤ _); rw [arrV_size]; exact zvpi hir hi.1 hi.2) rfl rfl hd fun H1 eq1 z oq => ?_
  refine kk p l e R s m args below meth c H1 _ cells slots ls mc ms A0 hC hX (hset_hp ho hH.2.1 (fun h => by rw [z]; exact hH.2.2.1 h) hH.2.2.2 (by unfold zc; rw [ho]; exact hxr) rfl (hH.1.set hD he ?_ oq)) hA (hS.put z oq (hD.2 o _ he)) hl hL hS2 hc hs
  show H1[G.1 + o]? = some (vp_cell _ (zar G (hset A o i.toNat x) 0 n o))
  rw [eq1, zclamp hir]
  show some ((vp_cell _ (n, _)).setSlot _ _) = some (vp_cell _ (n, _))
  rw [vp_cell_i, vp_cell_i, arrV_store]
  congr 2
  funext q
  by_cases hq : q = i.toNat
  · subst hq
    simp [updV, hset]
    try rfl
  · simp [updV, hset, hq]
theorem Z_lald {o n : Nat} {i : Int} (hd : decode M.2.1 pc = .ok (.laload, 1)) (ho : A.1[o]? = some (.inr (1, n))) (hi : 0 ≤ i ∧ i < n) (kk : Z G M d bc bs (pc + 1) L (vl (A.2.1 o i.toNat) :: S) A K) : Z G M d bc bs pc L (vi i :: vr (some o) :: S) A K := by
  intro p l e R s m args below meth c H locs cells slots ls mc ms A0 hC hX hH hA hS hl hL hSt hc hs
  have hir := (zin_cons.mp hSt).1
  have h1 : zr 1 (A.2.1 o i.toNat) := by
    have h1 := hH.2.1 o i.toNat
    unfold zc at h1
    rw [ho] at h1
    exact h1
  have hr : zv (vl (A.2.1 o i.toNat)) := h1
  rw [List.map_cons, List.map_cons, cv_rf, adr_of hH ho]
  refine va_lald hC.1 hC.2.1 hX.1 hH.1 o 1 (zws_get ho) rfl (zvp hir hi.1 hi.2) hd ?_
  rw [zclamp hir]
  exact kk p l e R s m args below meth c H locs cells slots ls mc ms A0 hC hX hH hA hS hl hL (zin_cons.mpr ⟨hr, (zin_cons.mp (zin_cons.mp hSt).2).2⟩) hc hs
theorem Z_last {o n : Nat} {i x : Int} (hd : decode M.2.1 pc = .ok (.lastore, 1)) (ho : A.1[o]? = some (.inr (1, n))) (hi : 0 ≤ i ∧ i < n) (kk : Z G M d bc bs (pc + 1) L S (hset A o i.toNat x) K) : Z G M d bc bs pc L (vl x :: vi i :: vr (some o) :: S) A K := by
  intro p l e R s m args below meth c H locs cells slots ls mc ms A0 hC hX hH hA hS hl hL hSt hc hs
  have hxr := (zin_cons.mp hSt).1
  have hir := (zin_cons.mp (zin_cons.mp hSt).2).1
  have hS2 := (zin_cons.mp (zin_cons.mp (zin_cons.mp hSt).2).2).2
  rw [List.map_cons, List.map_cons, List.map_cons, cv_rf, adr_of hH ho]
  have he := zws_get (G := G) ho
  have hD := zD (G := G) hA
  refine W.last hC.1 hC.2.1 (hH.1 o _ he) ((hX.1.2 1 _ rfl).1 n (fun j => .long (Int64.ofInt (A.2.1 o j)))) (fun q => by cases q) (by show ¬ (Int32.ofInt i < 0 ∨ (arrV _ _ _).slots.size ≤ _); rw [arrV_size]; exact zvpi hir hi.1 hi.2) rfl rfl hd fun H1 eq1 z oq => ?_
  refine kk p l e R s m args below meth c H1 _ cells slots ls mc ms A0 hC hX (hset_hp ho hH.2.1 (fun h => by rw [z]; exact hH.2.2.1 h) hH.2.2.2 (by unfold zc; rw [ho]; exact hxr) rfl (hH.1.set hD he ?_ oq)) hA (hS.put z oq (hD.2 o _ he)) hl hL hS2 hc hs
  show H1[G.1 + o]? = some (vp_cell _ (zar G (hset A o i.toNat x) 1 n o))
  rw [eq1, zclamp hir]
  show some ((vp_cell _ (n, _)).setSlot _ _) = some (vp_cell _ (n, _))
  rw [vp_cell_l, vp_cell_l, arrV_store]
  congr 2
  funext q
  by_cases hq : q = i.toNat
  · subst hq
    simp [updV, hset]
    try rfl
  · simp [updV, hset, hq]
theorem Z_bald {o n : Nat} {i : Int} (hd : decode M.2.1 pc = .ok (.baload, 1)) (ho : A.1[o]? = some (.inr (2, n))) (hi : 0 ≤ i ∧ i < n) (kk : Z G M d bc bs (pc + 1) L (vi (A.2.1 o i.toNat) :: S) A K) : Z G M d bc bs pc L (vi i :: vr (some o) :: S) A K := by
  intro p l e R s m args below meth c H locs cells slots ls mc ms A0 hC hX hH hA hS hl hL hSt hc hs
  have hir := (zin_cons.mp hSt).1
  have h1 : zr 2 (A.2.1 o i.toNat) := by
    have h1 := hH.2.1 o i.toNat
    unfold zc at h1
    rw [ho] at h1
    exact h1
  have hr : zv (vi (A.2.1 o i.toNat)) := zv_vi.mpr ⟨by have := h1.1; omega, by have := h1.2; omega⟩
  rw [List.map_cons, List.map_cons, cv_rf, adr_of hH ho]
  refine va_bald hC.1 hC.2.1 hX.1 hH.1 o 2 (zws_get ho) rfl (zvp hir hi.1 hi.2) hd ?_
  rw [zclamp hir]
  exact kk p l e R s m args below meth c H locs cells slots ls mc ms A0 hC hX hH hA hS hl hL (zin_cons.mpr ⟨hr, (zin_cons.mp (zin_cons.mp hSt).2).2⟩) hc hs
theorem Z_bast {o n : Nat} {i x : Int} (hd : decode M.2.1 pc = .ok (.bastore, 1)) (ho : A.1[o]? = some (.inr (2, n))) (hi : 0 ≤ i ∧ i < n) (hx : -128 ≤ x ∧ x ≤ 127) (kk : Z G M d bc bs (pc + 1) L S (hset A o i.toNat x) K) : Z G M d bc bs pc L (vi x :: vi i :: vr (some o) :: S) A K := by
  intro p l e R s m args below meth c H locs cells slots ls mc ms A0 hC hX hH hA hS hl hL hSt hc hs
  have hxr := (zin_cons.mp hSt).1
  have hir := (zin_cons.mp (zin_cons.mp hSt).2).1
  have hn : narrow .byte (.int (Int32.ofInt x)) = .int (Int32.ofInt x) := by
    show Value.int (Int32.ofInt x).toInt8.toInt32 = _
    congr 1
    apply Int32.toInt_inj.1
    rw [Int8.toInt_toInt32, Int32.toInt_toInt8, zt hxr]
    exact Int.bmod_eq_of_le (by omega) (by omega)
  have hS2 := (zin_cons.mp (zin_cons.mp (zin_cons.mp hSt).2).2).2
  rw [List.map_cons, List.map_cons, List.map_cons, cv_rf, adr_of hH ho]
  have he := zws_get (G := G) ho
  have hD := zD (G := G) hA
  refine W.bast hC.1 hC.2.1 (hH.1 o _ he) ((hX.1.2 2 _ rfl).1 n (fun j => .int (Int32.ofInt (A.2.1 o j)))) (fun q => by cases q) (by show ¬ (Int32.ofInt i < 0 ∨ (arrV _ _ _).slots.size ≤ _); rw [arrV_size]; exact zvpi hir hi.1 hi.2) rfl rfl hd fun H1 eq1 z oq => ?_
  rw [hn] at eq1
  refine kk p l e R s m args below meth c H1 _ cells slots ls mc ms A0 hC hX (hset_hp ho hH.2.1 (fun h => by rw [z]; exact hH.2.2.1 h) hH.2.2.2 (by unfold zc; rw [ho]; exact hx) rfl (hH.1.set hD he ?_ oq)) hA (hS.put z oq (hD.2 o _ he)) hl hL hS2 hc hs
  show H1[G.1 + o]? = some (vp_cell _ (zar G (hset A o i.toNat x) 2 n o))
  rw [eq1, zclamp hir]
  show some ((vp_cell _ (n, _)).setSlot _ _) = some (vp_cell _ (n, _))
  rw [vp_cell_i, vp_cell_i, arrV_store]
  congr 2
  funext q
  by_cases hq : q = i.toNat
  · subst hq
    simp [updV, hset]
    try rfl
  · simp [updV, hset, hq]
theorem Z_zald {o n : Nat} {i : Int} (hd : decode M.2.1 pc = .ok (.baload, 1)) (ho : A.1[o]? = some (.inr (3, n))) (hi : 0 ≤ i ∧ i < n) (kk : Z G M d bc bs (pc + 1) L (vi (A.2.1 o i.toNat) :: S) A K) : Z G M d bc bs pc L (vi i :: vr (some o) :: S) A K := by
  intro p l e R s m args below meth c H locs cells slots ls mc ms A0 hC hX hH hA hS hl hL hSt hc hs
  have hir := (zin_cons.mp hSt).1
  have h1 : zr 3 (A.2.1 o i.toNat) := by
    have h1 := hH.2.1 o i.toNat
    unfold zc at h1
    rw [ho] at h1
    exact h1
  have hr : zv (vi (A.2.1 o i.toNat)) := zv_vi.mpr ⟨by have := h1.1; omega, by have := h1.2; omega⟩
  rw [List.map_cons, List.map_cons, cv_rf, adr_of hH ho]
  refine va_zald hC.1 hC.2.1 hX.1 hH.1 o 3 (zws_get ho) rfl (zvp hir hi.1 hi.2) hd ?_
  rw [zclamp hir]
  exact kk p l e R s m args below meth c H locs cells slots ls mc ms A0 hC hX hH hA hS hl hL (zin_cons.mpr ⟨hr, (zin_cons.mp (zin_cons.mp hSt).2).2⟩) hc hs
theorem Z_zast {o n : Nat} {i x : Int} (hd : decode M.2.1 pc = .ok (.bastore, 1)) (ho : A.1[o]? = some (.inr (3, n))) (hi : 0 ≤ i ∧ i < n) (hx : x = 0 ∨ x = 1) (kk : Z G M d bc bs (pc + 1) L S (hset A o i.toNat x) K) : Z G M d bc bs pc L (vi x :: vi i :: vr (some o) :: S) A K := by
  intro p l e R s m args below meth c H locs cells slots ls mc ms A0 hC hX hH hA hS hl hL hSt hc hs
  have hxr := (zin_cons.mp hSt).1
  have hir := (zin_cons.mp (zin_cons.mp hSt).2).1
  have hn : narrow .boolean (.int (Int32.ofInt x)) = .int (Int32.ofInt x) := by rcases hx with rfl | rfl <;> rfl
  have hS2 := (zin_cons.mp (zin_cons.mp (zin_cons.mp hSt).2).2).2
  rw [List.map_cons, List.map_cons, List.map_cons, cv_rf, adr_of hH ho]
  have he := zws_get (G := G) ho
  have hD := zD (G := G) hA
  refine W.zast hC.1 hC.2.1 (hH.1 o _ he) ((hX.1.2 3 _ rfl).1 n (fun j => .int (Int32.ofInt (A.2.1 o j)))) (fun q => by cases q) (by show ¬ (Int32.ofInt i < 0 ∨ (arrV _ _ _).slots.size ≤ _); rw [arrV_size]; exact zvpi hir hi.1 hi.2) rfl rfl hd fun H1 eq1 z oq => ?_
  rw [hn] at eq1
  refine kk p l e R s m args below meth c H1 _ cells slots ls mc ms A0 hC hX (hset_hp ho hH.2.1 (fun h => by rw [z]; exact hH.2.2.1 h) hH.2.2.2 (by unfold zc; rw [ho]; exact by rcases hx with rfl | rfl <;> exact ⟨by decide, by decide⟩) rfl (hH.1.set hD he ?_ oq)) hA (hS.put z oq (hD.2 o _ he)) hl hL hS2 hc hs
  show H1[G.1 + o]? = some (vp_cell _ (zar G (hset A o i.toNat x) 3 n o))
  rw [eq1, zclamp hir]
  show some ((vp_cell _ (n, _)).setSlot _ _) = some (vp_cell _ (n, _))
  rw [vp_cell_i, vp_cell_i, arrV_store]
  congr 2
  funext q
  by_cases hq : q = i.toNat
  · subst hq
    simp [updV, hset]
    try rfl
  · simp [updV, hset, hq]
theorem Z_aald {o t n : Nat} {i : Int} (hd : decode M.2.1 pc = .ok (.aaload, 1)) (ho : A.1[o]? = some (.inr (t, n))) (ht : t = 4 ∨ t = 5 ∨ t = 6) (hi : 0 ≤ i ∧ i < n) (kk : Z G M d bc bs (pc + 1) L (vr (A.2.2.1 o i.toNat) :: S) A K) : Z G M d bc bs pc L (vi i :: vr (some o) :: S) A K := by
  intro p l e R s m args below meth c H locs cells slots ls mc ms A0 hC hX hH hA hS hl hL hSt hc hs
  have hir := (zin_cons.mp hSt).1
  rw [List.map_cons, List.map_cons, cv_rf, adr_of hH ho]
  have w := kk p l e R s m args below meth c H locs cells slots ls mc ms A0 hC hX hH hA hS hl hL (zin_cons.mpr ⟨trivial, (zin_cons.mp (zin_cons.mp hSt).2).2⟩) hc hs
  rcases ht with rfl | rfl | rfl
  · refine va_aldq hC.1 hC.2.1 hX.1 hH.1 o 4 (zws_get ho) rfl (zvp hir hi.1 hi.2) hd ?_
    rw [zclamp hir]
    exact w
  · refine va_aldq hC.1 hC.2.1 hX.1 hH.1 o 5 (zws_get ho) rfl (zvp hir hi.1 hi.2) hd ?_
    rw [zclamp hir]
    exact w
  · refine va_aldq hC.1 hC.2.1 hX.1 hH.1 o 6 (zws_get ho) rfl (zvp hir hi.1 hi.2) hd ?_
    rw [zclamp hir]
    exact w
/-- the class of an array's elements -/
def zel (t : Nat) : Nat := match t with
  | 4 => 10
  | 5 => 7
  | _ => 9
theorem Z_aast {o t n v : Nat} {i : Int} (hd : decode M.2.1 pc = .ok (.aastore, 1)) (ho : A.1[o]? = some (.inr (t, n))) (ht : t = 4 ∨ t = 5 ∨ t = 6) (hv : A.1[v]? = some (.inl (zel t))) (hi : 0 ≤ i ∧ i < n) (kk : Z G M d bc bs (pc + 1) L S (rset A o i.toNat (some v)) K) : Z G M d bc bs pc L (vr (some v) :: vi i :: vr (some o) :: S) A K := by
  intro p l e R s m args below meth c H locs cells slots ls mc ms A0 hC hX hH hA hS hl hL hSt hc hs
  have hir := (zin_cons.mp (zin_cons.mp hSt).2).1
  have hS2 := (zin_cons.mp (zin_cons.mp (zin_cons.mp hSt).2).2).2
  rw [List.map_cons, List.map_cons, List.map_cons, cv_rf, cv_rf, adr_of hH ho, adr_of hH hv]
  have he := zws_get (G := G) ho
  have hev := zws_get (G := G) hv
  have hD := zD (G := G) hA
  have go : ∀ (cA : ClassId) (C : String) (ci : Nat), zel t = ci → (ztys G)[t]? = some (cA, .object C) → vwCl[ci]? = some (C, zT ci, zN ci) → ze G A (.inr (t, n)) o = .inl (cA, n, .inr (.inr (.inr (.inr (fun k => (A.2.2.1 o k).map (adr G)))))) → (∀ B : AH, ze G B (.inr (t, n)) o = .inl (cA, n, .inr (.inr (.inr (.inr (fun k => (B.2.2.1 o k).map (adr G))))))) → W p l e R s m args below meth c H locs cells slots (MQ below (ZQ G A0 K) args s mc ms (zA G A0)) (F0 m pc ls (.ref (G.1 + v) :: .int (Int32.ofInt i) :: .ref (G.1 + o) :: S.map (cv G))) := by
    intro cA C ci hci hty hcl hze hzB
    rw [hci] at hev
    rw [hze] at he
    have hcl0 := hX.1.1 ci _ hcl
    obtain ⟨r', hr', cellV, g1, g2, g3, -⟩ := hH.1 v _ hev
    have hcls := hcl0.2
    obtain ⟨kA, comp, k1, k2, k3, -⟩ := (hX.1.2 t _ hty).2
    have hcomp : comp = G.2.1.1 ci := Option.some.inj (k3.symm.trans hcls.1)
    subst hcomp
    obtain ⟨kC, hkC, -⟩ := hcls.2
    have hlt : (Int32.ofInt i).toNatClampNeg < n := by rw [zclamp hir]; omega
    have h0 : ¬ Int32.ofInt i < 0 := fun q => zvpi hir hi.1 hi.2 (Or.inl q)
    refine W.aast hC.1 hC.2.1 (hH.1 o _ he) (fun q h => by cases h) (fun h => by cases h) k1 k2 rfl hkC ⟨h0, by show _ < (arrV _ _ _).slots.size; rw [arrV_size]; exact hlt⟩ g1 (fun q h => by rw [g3] at h; cases h) (by rw [g2]; exact hkC) (by rw [g2]; exact va_assign hcls) rfl rfl hd fun H1 eq1 z oq => ?_
    refine kk p l e R s m args below meth c H1 _ cells slots ls mc ms A0 hC hX (rset_hp (va := ze G (rset A o i.toNat (some v)) (.inr (t, n)) o) ho hH.2.1 (fun h => by rw [z]; exact hH.2.2.1 h) hH.2.2.2 rfl (hH.1.set hD he ?_ oq)) hA (hS.put z oq (hD.2 o _ he)) hl hL hS2 hc hs
    show va_at G.2.1 vwCl (G.1 + o, ze G (rset A o i.toNat (some v)) (.inr (t, n)) o) H1
    rw [hzB]
    show H1[G.1 + o]? = some (vp_cell _ _)
    rw [eq1, zclamp hir]
    show some ((vp_cell _ (n, _)).setSlot _ _) = _
    rw [vp_cell_q, vp_cell_q, arrV_store]
    congr 2
    funext q
    by_cases hq : q = i.toNat
    · subst hq
      simp [updV, rset, va_rf, adr_of hH hv]
    · simp [updV, rset, hq]
  rcases ht with rfl | rfl | rfl
  · exact go _ _ 10 rfl rfl rfl rfl (fun _ => rfl)
  · exact go _ _ 7 rfl rfl rfl rfl (fun _ => rfl)
  · exact go _ _ 9 rfl rfl rfl rfl (fun _ => rfl)
theorem Z_alen {o t n : Nat} (hd : decode M.2.1 pc = .ok (.arraylength, 1)) (ho : A.1[o]? = some (.inr (t, n))) (ht : t < 7) (hn : n ≤ 2147483647) (kk : Z G M d bc bs (pc + 1) L (vi n :: S) A K) : Z G M d bc bs pc L (vr (some o) :: S) A K := by
  intro p l e R s m args below meth c H locs cells slots ls mc ms A0 hC hX hH hA hS hl hL hSt hc hs
  rw [List.map_cons, cv_rf, adr_of hH ho]
  have w := kk p l e R s m args below meth c H locs cells slots ls mc ms A0 hC hX hH hA hS hl hL (zin_cons.mpr ⟨zv_vi.mpr ⟨by omega, by omega⟩, (zin_cons.mp hSt).2⟩) hc hs
  have hty : (ztys G)[t]? = some (G.2.2.1 t, ((ztys G)[t]?.getD (0, .int)).2) := by
    match t, ht with
    | 0, _ => rfl | 1, _ => rfl | 2, _ => rfl | 3, _ => rfl | 4, _ => rfl | 5, _ => rfl | 6, _ => rfl
  refine va_alen hC.1 hC.2.1 hX.1 hH.1 o t (zws_get ho) hty ?_ hd w
  show Int32.ofNat (zar G A t n o).1 = Int32.ofInt n
  have : (zar G A t n o).1 = n := by
    match t, ht with
    | 0, _ => rfl | 1, _ => rfl | 2, _ => rfl | 3, _ => rfl | 4, _ => rfl | 5, _ => rfl | 6, _ => rfl
  rw [this]
  exact Int32.toInt_inj.1 (by rw [zt ⟨by omega, by omega⟩, Int32.toInt_ofNat_of_lt (by omega)])
/-- a new cell -/
def hnew (A : AH) (t : ZS) : AH := (A.1 ++ [t], (fun i j => if i = A.1.length then 0 else A.2.1 i j), (fun i j => if i = A.1.length then none else A.2.2.1 i j), A.2.2.2)
theorem hnew_ze {i : Nat} {t u : ZS} (h : i ≠ A.1.length) : ze G (hnew A t) u i = ze G A u i := by
  cases u with
  | inl ci => simp [ze, zfs, hnew, h]
  | inr q =>
    obtain ⟨t, n⟩ := q
    unfold ze zar
    simp [hnew, h]
theorem hnew_zws {t : ZS} : zws G (hnew A t) = zws G A ++ [(G.1 + A.1.length, ze G (hnew A t) t A.1.length)] := by
  apply List.ext_getElem?
  intro i
  by_cases hi : i < A.1.length
  · rw [List.getElem?_append_left (by rw [zws_len]; exact hi)]
    unfold zws
    rw [List.getElem?_mapIdx, List.getElem?_mapIdx]
    show Option.map _ (A.1 ++ [t])[i]? = _
    rw [List.getElem?_append_left hi]
    cases A.1[i]? with
    | none => rfl
    | some u => simp [hnew_ze (show i ≠ A.1.length by omega)]
  · rw [List.getElem?_append_right (by rw [zws_len]; omega), zws_len]
    unfold zws
    rw [List.getElem?_mapIdx]
    show Option.map _ (A.1 ++ [t])[i]? = _
    rw [List.getElem?_append_right (by omega)]
    by_cases e : i = A.1.length
    · subst e
      simp
    · rw [List.getElem?_eq_none (by simp; omega), List.getElem?_eq_none (by simp; omega)]
      rfl
theorem zr0 (c : Nat) : zr c 0 := by
  match c with
  | 0 => exact ⟨by decide, by decide⟩
  | 1 => exact ⟨by decide, by decide⟩
  | 2 => exact ⟨by decide, by decide⟩
  | 3 => exact ⟨by decide, by decide⟩
  | n + 4 => exact trivial
theorem hnew_hp {t : ZS} {H H1 : Heap} {A0 : AH} (hH : Hp G A H) (ho : A.2.2.2 = true) (hn : A.1.length < 1000000) (hz : H1.size = H.size + 1) (ok : ∀ q : Nat, q < H.size → H1[q]? = H[q]?) (hat : va_at G.2.1 vwCl (G.1 + A.1.length, ze G (hnew A t) t A.1.length) H1) : Hp G (hnew A t) H1 := by
  refine ⟨?_, fun i j => ?_, fun _ => ?_, by simp [hnew]; omega⟩
  · rw [hnew_zws]
    refine (hH.1.kept (fun k x hx => ok x.1 (hH.1 k x hx).lt)).app (fun k x hx => ?_)
    have hk : k < 1 := (List.getElem?_eq_some_iff.mp hx).1
    rw [show k = 0 by omega] at hx
    cases hx
    exact hat
  · by_cases e : i = A.1.length
    · subst e
      have : (hnew A t).2.1 A.1.length j = 0 := by simp [hnew]
      rw [this]
      exact zr0 _
    · have h1 : (hnew A t).2.1 i j = A.2.1 i j := by simp [hnew, e]
      rw [h1]
      have h2 := hH.2.1 i j
      unfold zc at h2 ⊢
      by_cases hi : i < A.1.length
      · show zr (match (A.1 ++ [t])[i]? with | some (.inl ci) => ftc (zty ci j) | some (.inr q) => q.1 | none => 5) _
        rw [List.getElem?_append_left hi]
        exact h2
      · show zr (match (A.1 ++ [t])[i]? with | some (.inl ci) => ftc (zty ci j) | some (.inr q) => q.1 | none => 5) _
        rw [List.getElem?_eq_none (by simp; omega)]
        exact trivial
  · rw [hz, hH.2.2.1 ho]
    simp [hnew]
    omega
theorem hnew_af {A0 : AH} {t : ZS} (hA : Af A0 A) (ho : A.2.2.2 = true) : Af A0 (hnew A t) := by
  refine ⟨hA.1, fun h => ?_, ?_⟩
  · have h : A.2.2.2 = false := h
    rw [ho] at h
    cases h
  · have := hA.2.2
    simp [hnew]
    omega
theorem hnew_S {A0 : AH} {H0 H H1 : Heap} {locs : List Loc} (hS : va_S (zA G A0) H0 H locs) (hz : H1.size = H.size + 1) (ok : ∀ q : Nat, q < H.size → H1[q]? = H[q]?) : va_S (zA G A0) H0 H1 locs := ⟨Nat.le_trans hS.1 (by omega), fun q h1 h2 => (ok q (Nat.lt_of_lt_of_le h1 hS.1)).trans (hS.2.1 q h1 h2), hS.2.2⟩
theorem Z_new {idx ci : Nat} {bc1 bs1 : Nat} (hd : decode M.2.1 pc = .ok (.new idx, 3)) (hci : ci < 13) (h1 : Cond.classLink M.1.cls idx (zR ci) ∈ zw) (h2 : Cond.instantiable (zR ci) (zN ci) ∈ zw) (h3 : Cond.initialized (zR ci) ∈ zw) (ho : A.2.2.2 = true) (hn : A.1.length < 1000000) (e1 : bc1 + 1 = bc) (e2 : bs1 + zN ci = bs)
    (kk : Z G M d bc1 bs1 (pc + 3) L (vr (some A.1.length) :: S) (hnew A (.inl ci)) K) : Z G M d bc bs pc L S A K := by
  intro p l e R s m args below meth c H locs cells slots ls mc ms A0 hC hX hH hA hS hl hL hSt hc hs
  have hts := hC.2.2.2.2.1
  have hKn := hX.1.1 ci _ (zk_cl hci)
  have hR : R = zroom d mc ms := hC.2.2.2.2.2.2.2.2
  have hsz := hH.2.2.1 ho
  refine W.newcK hC.1 hC.2.1 hC.2.2.2.1 (hts _ h1) (hts _ h2) (hts _ h3) rfl hd (by rw [hR]; show cells + 1 ≤ mc; omega) (by rw [hR]; show slots + zN ci ≤ ms; omega) hKn.2.1 hsz fun H1 kC hkC q1 z1 o1 => ?_
  have o1 : ∀ q : Nat, q < H.size → H1[q]? = H[q]? := fun q hq => o1 q (by omega)
  have z1 : H1.size = H.size + 1 := by omega
  have hat : va_at G.2.1 vwCl (G.1 + A.1.length, ze G (hnew A (.inl ci)) (.inl ci) A.1.length) H1 := by
    refine ⟨_, zk_cl hci, (u_born (zty ci) hts (zk_in hci) hKn hkC q1 (zk_ty hci)).to (fun j hj => ?_)⟩
    show defaultValue (zty ci j) = vp_V (zfs G (hnew A (.inl ci)) ci A.1.length) j
    unfold vp_V
    rw [List.getD_eq_getElem?_getD, zfs_get hj]
    have ha : (hnew A (.inl ci)).2.1 A.1.length j = 0 := by simp [hnew]
    have hb : (hnew A (.inl ci)).2.2.1 A.1.length j = none := by simp [hnew]
    rw [ha, hb]
    exact fv_def (ft_all hci j)
  have w := kk p l e R s m args below meth c H1 locs (cells + 1) (slots + zN ci) ls mc ms A0 hC hX (hnew_hp (A0 := A0) hH ho hn z1 o1 hat) (hnew_af hA ho) (hnew_S hS z1 o1) hl hL (zin_cons.mpr ⟨trivial, hSt⟩) (by omega) (by omega)
  rw [List.map_cons, cv_rf] at w
  have ha : adr G A.1.length = G.1 + A.1.length := by unfold adr; rw [if_pos hn]
  rw [ha] at w
  exact w
theorem Z_newa {atype : ArrayType} {t N bc1 bs1 : Nat} {n : Int} (hd : decode M.2.1 pc = .ok (.newarray atype, 2)) (ht : t < 4) (hat : (ztys G)[t]? = some (G.2.2.1 t, newarray.typeOf atype)) (hw : Cond.arrayClass (newarray.typeOf atype) ∈ zw) (ho : A.2.2.2 = true) (hn : A.1.length < 1000000) (hN : n = (N : Int)) (hb : N ≤ 65536) (e1 : bc1 + 1 = bc) (e2 : bs1 + N = bs)
    (kk : Z G M d bc1 bs1 (pc + 2) L (vr (some A.1.length) :: S) (hnew A (.inr (t, N))) K) : Z G M d bc bs pc L (vi n :: S) A K := by
  intro p l e R s m args below meth c H locs cells slots ls mc ms A0 hC hX hH hA hS hl hL hSt hc hs
  have hts := hC.2.2.2.2.1
  have hR : R = zroom d mc ms := hC.2.2.2.2.2.2.2.2
  have hsz := hH.2.2.1 ho
  have hnr := (zin_cons.mp hSt).1
  have hcl : (Int32.ofInt n).toNatClampNeg = N := by rw [zclamp hnr]; omega
  have hcb : componentBytes (newarray.typeOf atype) ≤ 8 := by cases atype <;> decide
  refine va_newaK hC.1 hC.2.1 (hts _ hw) rfl hd rfl (fun h => by have h1 : Int32.ofInt n < Int32.ofInt 0 := h; rw [zlt hnr z0] at h1; omega) hcl (Nat.le_trans (Nat.mul_le_mul hb hcb) (by decide)) (by rw [hR]; show cells + 1 ≤ mc; omega) (by rw [hR]; show slots + N ≤ ms; omega) hsz fun H1 cA q1 z1 o1 hAr hNm => ?_
  have o1 : ∀ q : Nat, q < H.size → H1[q]? = H[q]? := fun q hq => o1 q (by omega)
  have z1 : H1.size = H.size + 1 := by omega
  have hcA : cA = G.2.2.1 t := by
    have h1 := (hX.1.2 t _ hat).2
    have h2 : s.vm.findClass ("[" ++ (newarray.typeOf atype).toString) = some (G.2.2.1 t) := by cases atype <;> exact h1
    exact Option.some.inj (hNm.symm.trans h2)
  subst hcA
  have hata : va_at G.2.1 vwCl (G.1 + A.1.length, ze G (hnew A (.inr (t, N))) (.inr (t, N)) A.1.length) H1 := by
    show H1[G.1 + A.1.length]? = some (vp_cell (G.2.2.1 t) (zar G (hnew A (.inr (t, N))) t N A.1.length))
    rw [q1]
    have hz : ∀ j, (hnew A (.inr (t, N))).2.1 A.1.length j = 0 := fun j => by simp [hnew]
    match t, ht, hat with
    | 0, _, hat =>
      have : newarray.typeOf atype = .int := by injection hat with h1; injection h1 with h2 h3; exact h3.symm
      rw [this]; unfold zar; simp only [hz]; rfl
    | 1, _, hat =>
      have : newarray.typeOf atype = .long := by injection hat with h1; injection h1 with h2 h3; exact h3.symm
      rw [this]; unfold zar; simp only [hz]; rfl
    | 2, _, hat =>
      have : newarray.typeOf atype = .byte := by injection hat with h1; injection h1 with h2 h3; exact h3.symm
      rw [this]; unfold zar; simp only [hz]; rfl
    | 3, _, hat =>
      have : newarray.typeOf atype = .boolean := by injection hat with h1; injection h1 with h2 h3; exact h3.symm
      rw [this]; unfold zar; simp only [hz]; rfl
  have w := kk p l e R s m args below meth c H1 locs (cells + 1) (slots + N) ls mc ms A0 hC hX (hnew_hp (A0 := A0) hH ho hn z1 o1 hata) (hnew_af hA ho) (hnew_S hS z1 o1) hl hL (zin_cons.mpr ⟨trivial, (zin_cons.mp hSt).2⟩) (by omega) (by omega)
  rw [List.map_cons, cv_rf] at w
  have ha : adr G A.1.length = G.1 + A.1.length := by unfold adr; rw [if_pos hn]
  rw [ha] at w
  exact w
theorem zov {s : State} {H : Heap} {t : Nat} (ht : t = 4 ∨ t = 5 ∨ t = 6) (hX : Cx G s H) : va_AO (zR (zel t)) s := by
  rcases ht with rfl | rfl | rfl
  · exact hX.2.1.1
  · exact hX.2.1.2.1
  · exact hX.2.1.2.2
theorem Z_newq {idx t N bc1 bs1 : Nat} {n : Int} (hd : decode M.2.1 pc = .ok (.anewarray idx, 3)) (ht : t = 4 ∨ t = 5 ∨ t = 6) (hw : Cond.classLink M.1.cls idx (zR (zel t)) ∈ zw) (ho : A.2.2.2 = true) (hn : A.1.length < 1000000) (hN : n = (N : Int)) (hb : N ≤ 65536) (e1 : bc1 + 1 = bc) (e2 : bs1 + N = bs)
    (kk : Z G M d bc1 bs1 (pc + 3) L (vr (some A.1.length) :: S) (hnew A (.inr (t, N))) K) : Z G M d bc bs pc L (vi n :: S) A K := by
  intro p l e R s m args below meth c H locs cells slots ls mc ms A0 hC hX hH hA hS hl hL hSt hc hs
  have hts := hC.2.2.2.2.1
  have hR : R = zroom d mc ms := hC.2.2.2.2.2.2.2.2
  have hsz := hH.2.2.1 ho
  have hnr := (zin_cons.mp hSt).1
  have hcl : (Int32.ofInt n).toNatClampNeg = N := by rw [zclamp hnr]; omega
  have hov : va_AO (zR (zel t)) s := zov ht hX
  have hty : (ztys G)[t]? = some (G.2.2.1 t, .object (zR (zel t))) := by rcases ht with rfl | rfl | rfl <;> rfl
  refine W.anew hC.1 hC.2.1 hC.2.2.2.1 (hts _ hw) (va_AO.use hov) rfl hd rfl (fun h => by have h1 : Int32.ofInt n < Int32.ofInt 0 := h; rw [zlt hnr z0] at h1; omega) (by rw [hcl]; omega) (by rw [hR]; show cells + 1 ≤ mc; omega) (by rw [hR, hcl]; show slots + N ≤ ms; omega) fun cA kA comp f1 f2 f3 f4 => ?_
  rw [hcl]
  generalize hH1 : H.push ({ cls := cA, slots := Array.replicate N .null, vm := .none } : Cell) = H1
  have z1 : H1.size = H.size + 1 := by rw [← hH1, Array.size_push]
  have q1 : H1[H.size]? = some (arrV cA N (fun _ => .null)) := by rw [← hH1, Array.getElem?_push_size, ← arrV_new]
  have o1 : ∀ q : Nat, q < H.size → H1[q]? = H[q]? := fun q hq => by rw [← hH1, Array.getElem?_push, if_neg (Nat.ne_of_lt hq)]
  have hcA : cA = G.2.2.1 t := by
    obtain ⟨kA2, comp2, k1, k2, k3, k4⟩ := (hX.1.2 t _ hty).2
    first | exact Option.some.inj (f1.symm.trans k4) | exact Option.some.inj (f4.symm.trans k4)
  subst hcA
  have hata : va_at G.2.1 vwCl (G.1 + A.1.length, ze G (hnew A (.inr (t, N))) (.inr (t, N)) A.1.length) H1 := by
    have hz : ∀ j, (hnew A (.inr (t, N))).2.2.1 A.1.length j = none := fun j => by simp [hnew]
    have hg : ∀ cA0, cA0 = G.2.2.1 t → (∀ B : AH, ze G B (.inr (t, N)) A.1.length = .inl (cA0, N, .inr (.inr (.inr (.inr (fun k => (B.2.2.1 A.1.length k).map (adr G))))))) → va_at G.2.1 vwCl (G.1 + A.1.length, ze G (hnew A (.inr (t, N))) (.inr (t, N)) A.1.length) H1 := by
      intro cA0 hc0 hB
      rw [hB]
      show H1[G.1 + A.1.length]? = some (vp_cell _ _)
      rw [← hsz, q1, hc0, vp_cell_q]
      simp only [hz]
      rfl
    rcases ht with rfl | rfl | rfl
    · exact hg _ rfl (fun _ => rfl)
    · exact hg _ rfl (fun _ => rfl)
    · exact hg _ rfl (fun _ => rfl)
  have w := kk p l e R s m args below meth c H1 locs (cells + 1) (slots + N) ls mc ms A0 hC hX (hnew_hp (A0 := A0) hH ho hn z1 o1 hata) (hnew_af hA ho) (hnew_S hS z1 o1) hl hL (zin_cons.mpr ⟨trivial, (zin_cons.mp hSt).2⟩) (by omega) (by omega)
  rw [List.map_cons, cv_rf] at w
  have ha : adr G A.1.length = G.1 + A.1.length := by unfold adr; rw [if_pos hn]
  rw [ha, ← hsz] at w
  exact w
end ZY
