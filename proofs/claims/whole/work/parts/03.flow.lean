section ZF
variable {G : ZG} {M : ZM} {d bc bs pc : Nat} {L S : List AV} {A : AH} {K : Option AV → AH → Prop}
theorem cv_vr {r : Option Nat} : cv G (vr r) = va_rf (r.map (adr G)) := rfl
theorem cv_nl : cv G (vr none) = .null := rfl
theorem cv_rf {j : Nat} : cv G (vr (some j)) = .ref (adr G j) := rfl
theorem cv_cat1 {v : AV} (h : isl v = false) : (cv G v).category = 1 := by
  match v, h with
  | .inl x, _ => rfl
  | .inr (.inr (.inl none)), _ => rfl
  | .inr (.inr (.inl (some _))), _ => rfl
  | .inr (.inr (.inr _)), _ => rfl
theorem cv_cat2 {v : AV} (h : isl v = true) : (cv G v).category = 2 := by
  match v, h with
  | .inr (.inl x), _ => rfl
theorem cv_cat {v : AV} : ((cv G v).category == 2) = isl v := by
  cases h : isl v with
  | false => rw [cv_cat1 h]; rfl
  | true => rw [cv_cat2 h]; rfl
theorem zv_vr {r : Option Nat} : zv (vr r) := trivial
theorem Z_null (hd : decode M.2.1 pc = .ok (.aconst_null, 1)) (k : Z G M d bc bs (pc + 1) L (vr none :: S) A K) : Z G M d bc bs pc L S A K :=
  Z.st k (fun _ h => zin_cons.mpr ⟨trivial, h⟩) (fun _ _ _ _ _ _ _ _ _ _ _ _ _ _ _ _ hx hb _ _ w => lv_null hx hb hd w)
theorem Z_aload_n {i : Fin 4} {r : Option Nat} (hd : decode M.2.1 pc = .ok (.aload_n i, 1)) (hl : L[(i : Nat)]? = some (vr r)) (k : Z G M d bc bs (pc + 1) L (vr r :: S) A K) : Z G M d bc bs pc L S A K := by
  refine Z.st k (fun h1 h => zin_cons.mpr ⟨trivial, h⟩) (fun _ _ _ _ _ _ _ _ _ _ _ _ _ _ _ _ hx hb _ q w => ?_)
  have hq := q ((i : Nat), cv G (vr r)) (zl_mem.mpr ⟨_, hl, rfl, rfl⟩)
  cases r with
  | none => exact lv_aload_nN hx hb hd rfl hq w
  | some j => exact lv_aload_n hx hb hd rfl hq w
theorem Z_aload {i : Nat} {r : Option Nat} (hd : decode M.2.1 pc = .ok (.aload i, 2)) (hl : L[i]? = some (vr r)) (k : Z G M d bc bs (pc + 2) L (vr r :: S) A K) : Z G M d bc bs pc L S A K := by
  refine Z.st k (fun h1 h => zin_cons.mpr ⟨trivial, h⟩) (fun _ _ _ _ _ _ _ _ _ _ _ _ _ _ _ _ hx hb _ q w => ?_)
  have hq := q (i, cv G (vr r)) (zl_mem.mpr ⟨_, hl, rfl, rfl⟩)
  cases r with
  | none => exact lv_aloadN hx hb hd hq w
  | some j => exact lv_aload hx hb hd hq w
theorem Z_dup {v : AV} (hd : decode M.2.1 pc = .ok (.dup, 1)) (hv : isl v = false) (k : Z G M d bc bs (pc + 1) L (v :: v :: S) A K) : Z G M d bc bs pc L (v :: S) A K :=
  Z.st k (fun _ h => zin_cons.mpr ⟨(zin_cons.mp h).1, h⟩) (fun _ _ _ _ _ _ _ _ _ _ _ _ _ _ _ _ hx hb _ _ w => lv_dup hx hb hd (cv_cat1 hv) w)
theorem Z_dup2 {v u : AV} (hd : decode M.2.1 pc = .ok (.dup2, 1)) (hv : isl v = false) (hu : isl u = false) (k : Z G M d bc bs (pc + 1) L (v :: u :: v :: u :: S) A K) : Z G M d bc bs pc L (v :: u :: S) A K :=
  Z.st k (fun _ h => zin_cons.mpr ⟨(zin_cons.mp h).1, zin_cons.mpr ⟨(zin_cons.mp (zin_cons.mp h).2).1, h⟩⟩) (fun _ _ _ _ _ _ _ _ _ _ _ _ _ _ _ _ hx hb _ _ w => lv_dup2_11 hx hb hd (cv_cat1 hv) (cv_cat1 hu) w)
theorem Z_pop {v : AV} (hd : decode M.2.1 pc = .ok (.pop, 1)) (hv : isl v = false) (k : Z G M d bc bs (pc + 1) L S A K) : Z G M d bc bs pc L (v :: S) A K :=
  Z.st k (fun _ h => (zin_cons.mp h).2) (fun _ _ _ _ _ _ _ _ _ _ _ _ _ _ _ _ hx hb _ _ w => lv_pop hx hb hd (cv_cat1 hv) w)
def zcmp (x y : Int) : Int := if y < x then 1 else if x = y then 0 else -1
theorem zcmp_of {x y : Int} (hx : -9223372036854775808 ≤ x ∧ x ≤ 9223372036854775807) (hy : -9223372036854775808 ≤ y ∧ y ≤ 9223372036854775807) : lg_cmp (Int64.ofInt x) (Int64.ofInt y) = Int32.ofInt (zcmp x y) := by
  have e1 : (Int64.ofInt y < Int64.ofInt x) = (y < x) := by rw [Int64.lt_iff_toInt_lt, ztl hx, ztl hy]
  have e2 : (Int64.ofInt x = Int64.ofInt y) = (x = y) := by rw [← Int64.toInt_inj, ztl hx, ztl hy]
  unfold lg_cmp zcmp
  by_cases h1 : y < x
  · simp [e1, h1]
  · by_cases h2 : x = y
    · simp [e1, h1, e2, h2]
    · simp [e1, h1, e2, h2]
theorem zcmp_r (x y : Int) : -2147483648 ≤ zcmp x y ∧ zcmp x y ≤ 2147483647 := by
  unfold zcmp
  split
  · omega
  · split <;> omega
theorem Z_lcmp {x y : Int} (hd : decode M.2.1 pc = .ok (.lcmp, 1)) (k : Z G M d bc bs (pc + 1) L (vi (zcmp x y) :: S) A K) : Z G M d bc bs pc L (vl y :: vl x :: S) A K :=
  Z.st k (fun _ h => zin_cons.mpr ⟨zcmp_r x y, (zin_cons.mp (zin_cons.mp h).2).2⟩) (fun _ _ _ _ _ _ _ _ _ _ _ _ _ _ _ _ hx hb hz _ w => W.lcmp hx hb hd (by rw [zcmp_of (zin_cons.mp (zin_cons.mp hz).2).1 (zin_cons.mp hz).1]; exact w))
/-- the place ahead holds no long -/
def zok (L : List AV) (i : Nat) : Bool := match i with
  | 0 => true
  | j + 1 => match L[j]? with
    | some v => !isl v
    | none => true
theorem zl_set {L : List AV} {v : AV} {i : Nat} {nL : Nat} {ls' : Array Slot} (hp : zok L i = true)
    (h : lv_has ls' nL ((i, cv G v) :: (zl G L).filter (fun q => !(q.1 == i) && !(q.1 + 1 == i && q.2.category == 2)))) : lv_has ls' nL (zl G (L.set i v)) := by
  refine ⟨h.1, h.2.1, fun q hq => ?_⟩
  obtain ⟨w, h1, h2, h3⟩ := zl_mem.mp hq
  apply h.2.2
  by_cases e : q.1 = i
  · have hlt : i < L.length := by
      have := (List.getElem?_eq_some_iff.mp h1).1
      rw [List.length_set] at this
      omega
    rw [e, List.getElem?_set_self hlt] at h1
    cases h1
    obtain ⟨q1, q2⟩ := q
    cases e; cases h3
    exact List.mem_cons_self
  · rw [List.getElem?_set_ne (Ne.symm e)] at h1
    refine List.mem_cons_of_mem _ (List.mem_filter.mpr ⟨zl_mem.mpr ⟨w, h1, h2, h3⟩, ?_⟩)
    rw [h3, cv_cat]
    cases i with
    | zero => simp [e]
    | succ j =>
      by_cases e2 : q.1 = j
      · subst e2
        have hp : (match L[q.1]? with | some v => !isl v | none => true) = true := hp
        rw [h1] at hp
        simp at hp
        simp [e, hp]
      · simp [e, e2]
theorem zl_set2 {L : List AV} {v : AV} {i : Nat} {nL : Nat} {ls' : Array Slot} (hp : zok L i = true)
    (h : lv_has ls' nL ((i, cv G v) :: (zl G L).filter (fun q => !(q.1 == i) && (!(q.1 == i + 1) && !(q.1 + 1 == i && q.2.category == 2))))) : lv_has ls' nL (zl G ((L.set i v).set (i + 1) vu)) := by
  refine ⟨h.1, h.2.1, fun q hq => ?_⟩
  obtain ⟨w, h1, h2, h3⟩ := zl_mem.mp hq
  apply h.2.2
  by_cases e1 : q.1 = i + 1
  · have hlt : i + 1 < ((L.set i v)).length := by
      have := (List.getElem?_eq_some_iff.mp h1).1
      rw [List.length_set] at this
      omega
    rw [e1, List.getElem?_set_self hlt] at h1
    cases h1
    cases h2
  · rw [List.getElem?_set_ne (Ne.symm e1)] at h1
    by_cases e : q.1 = i
    · have hlt : i < L.length := by
        have := (List.getElem?_eq_some_iff.mp h1).1
        rw [List.length_set] at this
        omega
      rw [e, List.getElem?_set_self hlt] at h1
      cases h1
      obtain ⟨q1, q2⟩ := q
      cases e; cases h3
      exact List.mem_cons_self
    · rw [List.getElem?_set_ne (Ne.symm e)] at h1
      refine List.mem_cons_of_mem _ (List.mem_filter.mpr ⟨zl_mem.mpr ⟨w, h1, h2, h3⟩, ?_⟩)
      rw [h3, cv_cat]
      cases i with
      | zero => simp [e, e1]
      | succ j =>
        by_cases e2 : q.1 = j
        · subst e2
          have hp : (match L[q.1]? with | some v => !isl v | none => true) = true := hp
          rw [h1] at hp
          simp at hp
          simp [e, e1, hp]
        · simp [e, e1, e2]
theorem Z_istore_n {i : Fin 4} {x : Int} (hd : decode M.2.1 pc = .ok (.istore_n i, 1)) (hi : (i : Nat) < M.2.2.1) (hp : zok L i = true) (k : Z G M d bc bs (pc + 1) (L.set i (vi x)) S A K) : Z G M d bc bs pc L (vi x :: S) A K := by
  intro p l e R s m args below meth c H locs cells slots ls mc ms A0 hC hX hH hA hS hl hL hSt hc hs
  exact lv_istore_n hC.1 hC.2.1 hd rfl hl hi rfl (fun ls1 hl1 => k p l e R s m args below meth c H locs cells slots ls1 mc ms A0 hC hX hH hA hS (zl_set hp hl1) (zin_set hL (zin_cons.mp hSt).1) (zin_cons.mp hSt).2 hc hs)
theorem Z_istore {i : Nat} {x : Int} (hd : decode M.2.1 pc = .ok (.istore i, 2)) (hi : i < M.2.2.1) (hp : zok L i = true) (k : Z G M d bc bs (pc + 2) (L.set i (vi x)) S A K) : Z G M d bc bs pc L (vi x :: S) A K := by
  intro p l e R s m args below meth c H locs cells slots ls mc ms A0 hC hX hH hA hS hl hL hSt hc hs
  exact lv_istore hC.1 hC.2.1 hd hl hi rfl (fun ls1 hl1 => k p l e R s m args below meth c H locs cells slots ls1 mc ms A0 hC hX hH hA hS (zl_set hp hl1) (zin_set hL (zin_cons.mp hSt).1) (zin_cons.mp hSt).2 hc hs)
theorem Z_lstore_n {i : Fin 4} {x : Int} (hd : decode M.2.1 pc = .ok (.lstore_n i, 1)) (hi : (i : Nat) + 1 < M.2.2.1) (hp : zok L i = true) (k : Z G M d bc bs (pc + 1) ((L.set i (vl x)).set (i + 1) vu) S A K) : Z G M d bc bs pc L (vl x :: S) A K := by
  intro p l e R s m args below meth c H locs cells slots ls mc ms A0 hC hX hH hA hS hl hL hSt hc hs
  exact lv_lstore_n hC.1 hC.2.1 hd rfl hl hi rfl (fun ls1 hl1 => k p l e R s m args below meth c H locs cells slots ls1 mc ms A0 hC hX hH hA hS (zl_set2 hp hl1) (zin_set (zin_set hL (zin_cons.mp hSt).1) trivial) (zin_cons.mp hSt).2 hc hs)
theorem Z_lstore {i : Nat} {x : Int} (hd : decode M.2.1 pc = .ok (.lstore i, 2)) (hi : i + 1 < M.2.2.1) (hp : zok L i = true) (k : Z G M d bc bs (pc + 2) ((L.set i (vl x)).set (i + 1) vu) S A K) : Z G M d bc bs pc L (vl x :: S) A K := by
  intro p l e R s m args below meth c H locs cells slots ls mc ms A0 hC hX hH hA hS hl hL hSt hc hs
  exact lv_lstore hC.1 hC.2.1 hd hl hi rfl (fun ls1 hl1 => k p l e R s m args below meth c H locs cells slots ls1 mc ms A0 hC hX hH hA hS (zl_set2 hp hl1) (zin_set (zin_set hL (zin_cons.mp hSt).1) trivial) (zin_cons.mp hSt).2 hc hs)
theorem Z_astore_n {i : Fin 4} {r : Option Nat} (hd : decode M.2.1 pc = .ok (.astore_n i, 1)) (hi : (i : Nat) < M.2.2.1) (hp : zok L i = true) (k : Z G M d bc bs (pc + 1) (L.set i (vr r)) S A K) : Z G M d bc bs pc L (vr r :: S) A K := by
  intro p l e R s m args below meth c H locs cells slots ls mc ms A0 hC hX hH hA hS hl hL hSt hc hs
  cases r with
  | none => exact lv_astore_nN hC.1 hC.2.1 hd rfl hl hi rfl (fun ls1 hl1 => k p l e R s m args below meth c H locs cells slots ls1 mc ms A0 hC hX hH hA hS (zl_set hp hl1) (zin_set hL (zin_cons.mp hSt).1) (zin_cons.mp hSt).2 hc hs)
  | some j => exact lv_astore_n hC.1 hC.2.1 hd rfl hl hi rfl (fun ls1 hl1 => k p l e R s m args below meth c H locs cells slots ls1 mc ms A0 hC hX hH hA hS (zl_set hp hl1) (zin_set hL (zin_cons.mp hSt).1) (zin_cons.mp hSt).2 hc hs)
theorem Z_astore {i : Nat} {r : Option Nat} (hd : decode M.2.1 pc = .ok (.astore i, 2)) (hi : i < M.2.2.1) (hp : zok L i = true) (k : Z G M d bc bs (pc + 2) (L.set i (vr r)) S A K) : Z G M d bc bs pc L (vr r :: S) A K := by
  intro p l e R s m args below meth c H locs cells slots ls mc ms A0 hC hX hH hA hS hl hL hSt hc hs
  cases r with
  | none => exact lv_astoreN hC.1 hC.2.1 hd hl hi rfl (fun ls1 hl1 => k p l e R s m args below meth c H locs cells slots ls1 mc ms A0 hC hX hH hA hS (zl_set hp hl1) (zin_set hL (zin_cons.mp hSt).1) (zin_cons.mp hSt).2 hc hs)
  | some j => exact lv_astore hC.1 hC.2.1 hd hl hi rfl (fun ls1 hl1 => k p l e R s m args below meth c H locs cells slots ls1 mc ms A0 hC hX hH hA hS (zl_set hp hl1) (zin_set hL (zin_cons.mp hSt).1) (zin_cons.mp hSt).2 hc hs)
theorem Z_iinc {i : Nat} {n x : Int} (hd : decode M.2.1 pc = .ok (.iinc i n, 3)) (hl0 : L[i]? = some (vi x)) (hi : i < M.2.2.1) (hr : -2147483648 ≤ x + n ∧ x + n ≤ 2147483647) (hp : zok L i = true) (k : Z G M d bc bs (pc + 3) (L.set i (vi (x + n))) S A K) : Z G M d bc bs pc L S A K := by
  intro p l e R s m args below meth c H locs cells slots ls mc ms A0 hC hX hH hA hS hl hL hSt hc hs
  obtain ⟨j, hj⟩ := List.getElem?_of_mem (zl_mem.mpr ⟨_, hl0, rfl, rfl⟩ : (i, cv G (vi x)) ∈ zl G L)
  exact lv_iinc (v := Int32.ofInt (x + n)) hC.1 hC.2.1 hd hl hj (by rw [Int32.ofInt_add]) hi rfl (fun ls1 hl1 => k p l e R s m args below meth c H locs cells slots ls1 mc ms A0 hC hX hH hA hS (zl_set (v := vi (x + n)) hp hl1) (zin_set hL hr) hSt hc hs)
/-- a step that goes one of two ways -/
theorem Z.br {n tgt : Nat} {S' : List AV} {P : Prop} (kt : P → Z G M d bc bs tgt L S' A K) (kf : ¬ P → Z G M d bc bs (pc + n) L S' A K) (hz : zin S → zin S')
    (h : ∀ (p : Program) (l : Launch) (e : Env) (R : Room) (s : State) (m : MethodId) (args : Array Value) (below : List Frame) (meth : Method) (c : Code) (H : Heap) (locs : List Loc) (cells slots : Nat) (ls : Array Slot) (Q : State → Prop), p.tables.exec = Jvm.exec → c.code = M.2.1 → zin S →
      (P → W p l e R s m args below meth c H locs cells slots Q (F0 m tgt ls (S'.map (cv G)))) → (¬ P → W p l e R s m args below meth c H locs cells slots Q (F0 m (pc + n) ls (S'.map (cv G)))) → W p l e R s m args below meth c H locs cells slots Q (F0 m pc ls (S.map (cv G)))) : Z G M d bc bs pc L S A K := by
  intro p l e R s m args below meth c H locs cells slots ls mc ms A0 hC hX hH hA hS hl hL hSt hc hs
  exact h p l e R s m args below meth c H locs cells slots ls _ hC.1 hC.2.1 hSt (fun q => kt q p l e R s m args below meth c H locs cells slots ls mc ms A0 hC hX hH hA hS hl hL (hz hSt) hc hs) (fun q => kf q p l e R s m args below meth c H locs cells slots ls mc ms A0 hC hX hH hA hS hl hL (hz hSt) hc hs)
theorem zlt {x y : Int} (hx : zv (vi x)) (hy : zv (vi y)) : (Int32.ofInt x < Int32.ofInt y) = (x < y) := by rw [Int32.lt_iff_toInt_lt, zt hx, zt hy]
theorem zle {x y : Int} (hx : zv (vi x)) (hy : zv (vi y)) : (Int32.ofInt x ≤ Int32.ofInt y) = (x ≤ y) := by rw [Int32.le_iff_toInt_le, zt hx, zt hy]
theorem zeq {x y : Int} (hx : zv (vi x)) (hy : zv (vi y)) : (Int32.ofInt x = Int32.ofInt y) = (x = y) := by rw [← Int32.toInt_inj, zt hx, zt hy]
theorem z0 : zv (vi 0) := zv_vi.mpr ⟨by decide, by decide⟩
theorem Z_icmp_eq {x y off : Int} {tgt : Nat} (hd : decode M.2.1 pc = .ok (.if_icmp .eq off, 3)) (ht : (pc : Int) + off = (tgt : Int)) (kt : x = y → Z G M d bc bs tgt L S A K) (kf : ¬ x = y → Z G M d bc bs (pc + 3) L S A K) : Z G M d bc bs pc L (vi y :: vi x :: S) A K := by
  refine Z.br (P := x = y) kt (fun q => kf q) (fun h => (zin_cons.mp (zin_cons.mp h).2).2) (fun _ _ _ _ _ _ _ _ _ _ _ _ _ _ _ _ hx hb hz w1 w2 => ?_)
  have hx0 := (zin_cons.mp (zin_cons.mp hz).2).1
  have hy0 := (zin_cons.mp hz).1
  exact lv_icmp_eq hx hb hd ht (fun q => w1 (by rw [← zeq hx0 hy0]; exact q)) (fun q => w2 (by rw [← zeq hx0 hy0]; exact q))
theorem Z_if_eq {x off : Int} {tgt : Nat} (hd : decode M.2.1 pc = .ok (.ifCond .eq off, 3)) (ht : (pc : Int) + off = (tgt : Int)) (kt : x = 0 → Z G M d bc bs tgt L S A K) (kf : ¬ x = 0 → Z G M d bc bs (pc + 3) L S A K) : Z G M d bc bs pc L (vi x :: S) A K := by
  refine Z.br (P := x = 0) kt (fun q => kf q) (fun h => (zin_cons.mp h).2) (fun _ _ _ _ _ _ _ _ _ _ _ _ _ _ _ _ hx hb hz w1 w2 => ?_)
  have hx0 := (zin_cons.mp hz).1
  exact lv_if_eq hx hb hd ht (fun q => w1 (by rw [← zeq hx0 z0]; exact q)) (fun q => w2 (by rw [← zeq hx0 z0]; exact q))
theorem Z_icmp_ne {x y off : Int} {tgt : Nat} (hd : decode M.2.1 pc = .ok (.if_icmp .ne off, 3)) (ht : (pc : Int) + off = (tgt : Int)) (kt : ¬ x = y → Z G M d bc bs tgt L S A K) (kf : x = y → Z G M d bc bs (pc + 3) L S A K) : Z G M d bc bs pc L (vi y :: vi x :: S) A K := by
  refine Z.br (P := ¬ x = y) kt (fun q => kf (Decidable.not_not.mp q)) (fun h => (zin_cons.mp (zin_cons.mp h).2).2) (fun _ _ _ _ _ _ _ _ _ _ _ _ _ _ _ _ hx hb hz w1 w2 => ?_)
  have hx0 := (zin_cons.mp (zin_cons.mp hz).2).1
  have hy0 := (zin_cons.mp hz).1
  exact lv_icmp_ne hx hb hd ht (fun q => w1 (by rw [← zeq hx0 hy0]; exact q)) (fun q => w2 (by rw [← zeq hx0 hy0]; exact not_not_intro q))
theorem Z_if_ne {x off : Int} {tgt : Nat} (hd : decode M.2.1 pc = .ok (.ifCond .ne off, 3)) (ht : (pc : Int) + off = (tgt : Int)) (kt : ¬ x = 0 → Z G M d bc bs tgt L S A K) (kf : x = 0 → Z G M d bc bs (pc + 3) L S A K) : Z G M d bc bs pc L (vi x :: S) A K := by
  refine Z.br (P := ¬ x = 0) kt (fun q => kf (Decidable.not_not.mp q)) (fun h => (zin_cons.mp h).2) (fun _ _ _ _ _ _ _ _ _ _ _ _ _ _ _ _ hx hb hz w1 w2 => ?_)
  have hx0 := (zin_cons.mp hz).1
  exact lv_if_ne hx hb hd ht (fun q => w1 (by rw [← zeq hx0 z0]; exact q)) (fun q => w2 (by rw [← zeq hx0 z0]; exact not_not_intro q))
theorem Z_icmp_lt {x y off : Int} {tgt : Nat} (hd : decode M.2.1 pc = .ok (.if_icmp .lt off, 3)) (ht : (pc : Int) + off = (tgt : Int)) (kt : x < y → Z G M d bc bs tgt L S A K) (kf : y ≤ x → Z G M d bc bs (pc + 3) L S A K) : Z G M d bc bs pc L (vi y :: vi x :: S) A K := by
  refine Z.br (P := x < y) kt (fun q => kf (by omega)) (fun h => (zin_cons.mp (zin_cons.mp h).2).2) (fun _ _ _ _ _ _ _ _ _ _ _ _ _ _ _ _ hx hb hz w1 w2 => ?_)
  have hx0 := (zin_cons.mp (zin_cons.mp hz).2).1
  have hy0 := (zin_cons.mp hz).1
  exact lv_icmp_lt hx hb hd ht (fun q => w1 (by rw [← zlt hx0 hy0]; exact q)) (fun q => w2 (by rw [← zlt hx0 hy0]; exact q))
theorem Z_if_lt {x off : Int} {tgt : Nat} (hd : decode M.2.1 pc = .ok (.ifCond .lt off, 3)) (ht : (pc : Int) + off = (tgt : Int)) (kt : x < 0 → Z G M d bc bs tgt L S A K) (kf : 0 ≤ x → Z G M d bc bs (pc + 3) L S A K) : Z G M d bc bs pc L (vi x :: S) A K := by
  refine Z.br (P := x < 0) kt (fun q => kf (by omega)) (fun h => (zin_cons.mp h).2) (fun _ _ _ _ _ _ _ _ _ _ _ _ _ _ _ _ hx hb hz w1 w2 => ?_)
  have hx0 := (zin_cons.mp hz).1
  exact lv_if_lt hx hb hd ht (fun q => w1 (by rw [← zlt hx0 z0]; exact q)) (fun q => w2 (by rw [← zlt hx0 z0]; exact q))
theorem Z_icmp_ge {x y off : Int} {tgt : Nat} (hd : decode M.2.1 pc = .ok (.if_icmp .ge off, 3)) (ht : (pc : Int) + off = (tgt : Int)) (kt : y ≤ x → Z G M d bc bs tgt L S A K) (kf : x < y → Z G M d bc bs (pc + 3) L S A K) : Z G M d bc bs pc L (vi y :: vi x :: S) A K := by
  refine Z.br (P := y ≤ x) kt (fun q => kf (by omega)) (fun h => (zin_cons.mp (zin_cons.mp h).2).2) (fun _ _ _ _ _ _ _ _ _ _ _ _ _ _ _ _ hx hb hz w1 w2 => ?_)
  have hx0 := (zin_cons.mp (zin_cons.mp hz).2).1
  have hy0 := (zin_cons.mp hz).1
  exact lv_icmp_ge hx hb hd ht (fun q => w1 (by rw [← zle hy0 hx0]; exact q)) (fun q => w2 (by rw [← zle hy0 hx0]; exact q))
theorem Z_if_ge {x off : Int} {tgt : Nat} (hd : decode M.2.1 pc = .ok (.ifCond .ge off, 3)) (ht : (pc : Int) + off = (tgt : Int)) (kt : 0 ≤ x → Z G M d bc bs tgt L S A K) (kf : x < 0 → Z G M d bc bs (pc + 3) L S A K) : Z G M d bc bs pc L (vi x :: S) A K := by
  refine Z.br (P := 0 ≤ x) kt (fun q => kf (by omega)) (fun h => (zin_cons.mp h).2) (fun _ _ _ _ _ _ _ _ _ _ _ _ _ _ _ _ hx hb hz w1 w2 => ?_)
  have hx0 := (zin_cons.mp hz).1
  exact lv_if_ge hx hb hd ht (fun q => w1 (by rw [← zle z0 hx0]; exact q)) (fun q => w2 (by rw [← zle z0 hx0]; exact q))
theorem Z_icmp_gt {x y off : Int} {tgt : Nat} (hd : decode M.2.1 pc = .ok (.if_icmp .gt off, 3)) (ht : (pc : Int) + off = (tgt : Int)) (kt : y < x → Z G M d bc bs tgt L S A K) (kf : x ≤ y → Z G M d bc bs (pc + 3) L S A K) : Z G M d bc bs pc L (vi y :: vi x :: S) A K := by
  refine Z.br (P := y < x) kt (fun q => kf (by omega)) (fun h => (zin_cons.mp (zin_cons.mp h).2).2) (fun _ _ _ _ _ _ _ _ _ _ _ _ _ _ _ _ hx hb hz w1 w2 => ?_)
  have hx0 := (zin_cons.mp (zin_cons.mp hz).2).1
  have hy0 := (zin_cons.mp hz).1
  exact lv_icmp_gt hx hb hd ht (fun q => w1 (by rw [← zlt hy0 hx0]; exact q)) (fun q => w2 (by rw [← zlt hy0 hx0]; exact q))
theorem Z_if_gt {x off : Int} {tgt : Nat} (hd : decode M.2.1 pc = .ok (.ifCond .gt off, 3)) (ht : (pc : Int) + off = (tgt : Int)) (kt : 0 < x → Z G M d bc bs tgt L S A K) (kf : x ≤ 0 → Z G M d bc bs (pc + 3) L S A K) : Z G M d bc bs pc L (vi x :: S) A K := by
  refine Z.br (P := 0 < x) kt (fun q => kf (by omega)) (fun h => (zin_cons.mp h).2) (fun _ _ _ _ _ _ _ _ _ _ _ _ _ _ _ _ hx hb hz w1 w2 => ?_)
  have hx0 := (zin_cons.mp hz).1
  exact lv_if_gt hx hb hd ht (fun q => w1 (by rw [← zlt z0 hx0]; exact q)) (fun q => w2 (by rw [← zlt z0 hx0]; exact q))
theorem Z_icmp_le {x y off : Int} {tgt : Nat} (hd : decode M.2.1 pc = .ok (.if_icmp .le off, 3)) (ht : (pc : Int) + off = (tgt : Int)) (kt : x ≤ y → Z G M d bc bs tgt L S A K) (kf : y < x → Z G M d bc bs (pc + 3) L S A K) : Z G M d bc bs pc L (vi y :: vi x :: S) A K := by
  refine Z.br (P := x ≤ y) kt (fun q => kf (by omega)) (fun h => (zin_cons.mp (zin_cons.mp h).2).2) (fun _ _ _ _ _ _ _ _ _ _ _ _ _ _ _ _ hx hb hz w1 w2 => ?_)
  have hx0 := (zin_cons.mp (zin_cons.mp hz).2).1
  have hy0 := (zin_cons.mp hz).1
  exact lv_icmp_le hx hb hd ht (fun q => w1 (by rw [← zle hx0 hy0]; exact q)) (fun q => w2 (by rw [← zle hx0 hy0]; exact q))
theorem Z_if_le {x off : Int} {tgt : Nat} (hd : decode M.2.1 pc = .ok (.ifCond .le off, 3)) (ht : (pc : Int) + off = (tgt : Int)) (kt : x ≤ 0 → Z G M d bc bs tgt L S A K) (kf : 0 < x → Z G M d bc bs (pc + 3) L S A K) : Z G M d bc bs pc L (vi x :: S) A K := by
  refine Z.br (P := x ≤ 0) kt (fun q => kf (by omega)) (fun h => (zin_cons.mp h).2) (fun _ _ _ _ _ _ _ _ _ _ _ _ _ _ _ _ hx hb hz w1 w2 => ?_)
  have hx0 := (zin_cons.mp hz).1
  exact lv_if_le hx hb hd ht (fun q => w1 (by rw [← zle hx0 z0]; exact q)) (fun q => w2 (by rw [← zle hx0 z0]; exact q))
theorem Z_goto {off : Int} {tgt : Nat} (hd : decode M.2.1 pc = .ok (.goto off, 3)) (ht : (pc : Int) + off = (tgt : Int)) (k : Z G M d bc bs tgt L S A K) : Z G M d bc bs pc L S A K :=
  Z.br (n := 3) (P := True) (fun _ => k) (fun h => absurd trivial h) id (fun _ _ _ _ _ _ _ _ _ _ _ _ _ _ _ _ hx hb hz w1 w2 => lv_goto hx hb hd ht (w1 trivial))
theorem Z_ifnull {r : Option Nat} {off : Int} {tgt : Nat} (hd : decode M.2.1 pc = .ok (.ifnull off, 3)) (ht : (pc : Int) + off = (tgt : Int)) (kt : r = none → Z G M d bc bs tgt L S A K) (kf : ¬ r = none → Z G M d bc bs (pc + 3) L S A K) : Z G M d bc bs pc L (vr r :: S) A K := by
  refine Z.br (P := r = none) kt kf (fun h => (zin_cons.mp h).2) (fun _ _ _ _ _ _ _ _ _ _ _ _ _ _ _ _ hx hb hz w1 w2 => ?_)
  cases r with
  | none => exact lv_ifnullN hx hb hd ht (w1 rfl)
  | some j => exact lv_ifnull hx hb hd (w2 (fun h => by cases h))
theorem Z_ifnonnull {r : Option Nat} {off : Int} {tgt : Nat} (hd : decode M.2.1 pc = .ok (.ifnonnull off, 3)) (ht : (pc : Int) + off = (tgt : Int)) (kt : ¬ r = none → Z G M d bc bs tgt L S A K) (kf : r = none → Z G M d bc bs (pc + 3) L S A K) : Z G M d bc bs pc L (vr r :: S) A K := by
  refine Z.br (P := ¬ r = none) kt (fun q => kf (Decidable.not_not.mp q)) (fun h => (zin_cons.mp h).2) (fun _ _ _ _ _ _ _ _ _ _ _ _ _ _ _ _ hx hb hz w1 w2 => ?_)
  cases r with
  | none => exact lv_ifnonnullN hx hb hd (w2 (fun h => h rfl))
  | some j => exact lv_ifnonnull hx hb hd ht (w1 (fun h => by cases h))
theorem Z_tableOut {dflt lo hi x : Int} {offs : Array Int} {len tgt : Nat} (hd : decode M.2.1 pc = .ok (.tableswitch dflt lo hi offs, len)) (h : x < lo ∨ hi < x) (ht : (pc : Int) + dflt = (tgt : Int)) (k : Z G M d bc bs tgt L S A K) : Z G M d bc bs pc L (vi x :: S) A K :=
  Z.br (n := 3) (P := True) (fun _ => k) (fun h => absurd trivial h) (fun h => (zin_cons.mp h).2) (fun _ _ _ _ _ _ _ _ _ _ _ _ _ _ _ _ hx hb hz w1 w2 => lv_tableOut hx hb hd (by rw [zt (zin_cons.mp hz).1]; exact h) ht (w1 trivial))
theorem Z_tableIn {dflt lo hi x off : Int} {offs : Array Int} {len tgt : Nat} (hd : decode M.2.1 pc = .ok (.tableswitch dflt lo hi offs, len)) (h1 : ¬ x < lo) (h2 : ¬ hi < x) (ho : offs[(x - lo).toNat]? = some off) (ht : (pc : Int) + off = (tgt : Int)) (k : Z G M d bc bs tgt L S A K) : Z G M d bc bs pc L (vi x :: S) A K :=
  Z.br (n := 3) (P := True) (fun _ => k) (fun h => absurd trivial h) (fun h => (zin_cons.mp h).2) (fun _ _ _ _ _ _ _ _ _ _ _ _ _ _ _ _ hx hb hz w1 w2 => lv_tableIn hx hb hd (by rw [zt (zin_cons.mp hz).1]; exact h1) (by rw [zt (zin_cons.mp hz).1]; exact h2) (by rw [zt (zin_cons.mp hz).1]; exact ho) ht (w1 trivial))
theorem Z_lookup {dflt x off : Int} {ps : Array (Int × Int)} {len tgt : Nat} (hd : decode M.2.1 pc = .ok (.lookupswitch dflt ps, len)) (hp : (ps.toList.zip (ps.toList.drop 1)).all (fun (a, next) => a.1 < next.1) = true) (ho : Op.lookupswitch.offset ps.toList dflt x = off) (ht : (pc : Int) + off = (tgt : Int)) (k : Z G M d bc bs tgt L S A K) : Z G M d bc bs pc L (vi x :: S) A K :=
  Z.br (n := 3) (P := True) (fun _ => k) (fun h => absurd trivial h) (fun h => (zin_cons.mp h).2) (fun _ _ _ _ _ _ _ _ _ _ _ _ _ _ _ _ hx hb hz w1 w2 => lv_lookup hx hb hd hp (by rw [zt (zin_cons.mp hz).1]; exact ho) ht (w1 trivial))
/-- what is on the stack or in a local is in its range -/
theorem Z.rg {v : AV} (hv : v ∈ L ∨ v ∈ S) (k : zv v → Z G M d bc bs pc L S A K) : Z G M d bc bs pc L S A K := by
  intro p l e R s m args below meth c H locs cells slots ls mc ms A0 hC hX hH hA hS hl hL hSt hc hs
  exact k (hv.elim (hL v) (hSt v)) p l e R s m args below meth c H locs cells slots ls mc ms A0 hC hX hH hA hS hl hL hSt hc hs
/-- and so is what the cells hold -/
theorem Z.hr (k : zrange A → Z G M d bc bs pc L S A K) : Z G M d bc bs pc L S A K := by
  intro p l e R s m args below meth c H locs cells slots ls mc ms A0 hC hX hH hA hS hl hL hSt hc hs
  exact k hH.2.1 p l e R s m args below meth c H locs cells slots ls mc ms A0 hC hX hH hA hS hl hL hSt hc hs
theorem Z.mono {K' : Option AV → AH → Prop} (h : ∀ r B, K' r B → K r B) (k : Z G M d bc bs pc L S A K') : Z G M d bc bs pc L S A K := by
  intro p l e R s m args below meth c H locs cells slots ls mc ms A0 hC hX hH hA hS hl hL hSt hc hs
  intro T hT X
  obtain ⟨t, a1, o, b1, b2, ⟨⟨r, A1, c1, c2, c3, c4⟩, c5⟩, b4⟩ := k p l e R s m args below meth c H locs cells slots ls mc ms A0 hC hX hH hA hS hl hL hSt hc hs T hT X
  exact ⟨t, a1, o, b1, b2, ⟨⟨r, A1, c1, c2, h r A1 c3, c4⟩, c5⟩, b4⟩
theorem va_widen {p : Program} {l : Launch} {e : Env} {R : Room} {s : State} {m : MethodId} {args : Array Value} {below : List Frame} {meth : Method} {c : Code} {H : Heap} {locs : List Loc} {cells slots mc ms : Nat} {Q : State → Prop} {g : JFrame} (h1 : cells ≤ mc) (h2 : slots ≤ ms) (k : W p l e R s m args below meth c H locs mc ms Q g) : W p l e R s m args below meth c H locs cells slots Q g := W.widen h1 h2 k
theorem Z_ireturn {x : Int} (hd : decode M.2.1 pc = .ok (.ireturn, 1)) (hr : M.2.2.2 = some .int) (k : K (some (vi x)) A) : Z G M d bc bs pc L ([vi x]) A K := by
  intro p l e R s m args below meth c H locs cells slots ls mc ms A0 hC hX hH hA hS hl hL hSt hc hs
  refine W.widen (k := mc) (n := ms) (by omega) (by omega) ?_
  have hq : ∀ t : State, t.heap = H → s.WarmedH t.vm → ZQ G A0 K args s (.returned ((some (vi x) : Option AV).map (cv G))) t := fun t ht _ => ⟨⟨some (vi x), A, rfl, fun v hv => hSt v (by simpa using hv), k, by rw [ht]; exact hH, hA⟩, hS.F ht⟩
  exact W.iret hC.1 hC.2.1 (hC.2.2.2.2.2.2.1.trans hr) hq hS.2.2 hd hC.2.2.2.2.2.1
theorem Z_zreturn {x : Int} (hd : decode M.2.1 pc = .ok (.ireturn, 1)) (hr : M.2.2.2 = some .boolean) (hx : x = 0 ∨ x = 1) (k : K (some (vi x)) A) : Z G M d bc bs pc L ([vi x]) A K := by
  intro p l e R s m args below meth c H locs cells slots ls mc ms A0 hC hX hH hA hS hl hL hSt hc hs
  refine W.widen (k := mc) (n := ms) (by omega) (by omega) ?_
  have hq : ∀ t : State, t.heap = H → s.WarmedH t.vm → ZQ G A0 K args s (.returned ((some (vi x) : Option AV).map (cv G))) t := fun t ht _ => ⟨⟨some (vi x), A, rfl, fun v hv => hSt v (by simpa using hv), k, by rw [ht]; exact hH, hA⟩, hS.F ht⟩
  exact W.zret hC.1 hC.2.1 (hC.2.2.2.2.2.2.1.trans hr) (by rcases hx with rfl | rfl <;> rfl) hq hS.2.2 hd hC.2.2.2.2.2.1
theorem Z_lreturn {x : Int} (hd : decode M.2.1 pc = .ok (.lreturn, 1)) (hr : M.2.2.2 = some .long) (k : K (some (vl x)) A) : Z G M d bc bs pc L ([vl x]) A K := by
  intro p l e R s m args below meth c H locs cells slots ls mc ms A0 hC hX hH hA hS hl hL hSt hc hs
  refine W.widen (k := mc) (n := ms) (by omega) (by omega) ?_
  have hq : ∀ t : State, t.heap = H → s.WarmedH t.vm → ZQ G A0 K args s (.returned ((some (vl x) : Option AV).map (cv G))) t := fun t ht _ => ⟨⟨some (vl x), A, rfl, fun v hv => hSt v (by simpa using hv), k, by rw [ht]; exact hH, hA⟩, hS.F ht⟩
  exact W.lret hC.1 hC.2.1 (hC.2.2.2.2.2.2.1.trans hr) hq hS.2.2 hd hC.2.2.2.2.2.1
theorem Z_areturn {r : Option Nat} {C : String} (hd : decode M.2.1 pc = .ok (.areturn, 1)) (hr : M.2.2.2 = some (.object C)) (k : K (some (vr r)) A) : Z G M d bc bs pc L ([vr r]) A K := by
  intro p l e R s m args below meth c H locs cells slots ls mc ms A0 hC hX hH hA hS hl hL hSt hc hs
  refine W.widen (k := mc) (n := ms) (by omega) (by omega) ?_
  have hq : ∀ t : State, t.heap = H → s.WarmedH t.vm → ZQ G A0 K args s (.returned ((some (vr r) : Option AV).map (cv G))) t := fun t ht _ => ⟨⟨some (vr r), A, rfl, fun v hv => hSt v (by simpa using hv), k, by rw [ht]; exact hH, hA⟩, hS.F ht⟩
  exact W.aret (v := cv G (vr r)) hC.1 hC.2.1 (hC.2.2.2.2.2.2.1.trans hr) (Or.inl ⟨_, rfl⟩) (by cases r with | none => exact Or.inl rfl | some j => exact Or.inr ⟨_, rfl⟩) hq hS.2.2 hd hC.2.2.2.2.2.1
theorem Z_return  (hd : decode M.2.1 pc = .ok (.return_, 1)) (hr : M.2.2.2 = none) (k : K (none) A) : Z G M d bc bs pc L ([]) A K := by
  intro p l e R s m args below meth c H locs cells slots ls mc ms A0 hC hX hH hA hS hl hL hSt hc hs
  refine W.widen (k := mc) (n := ms) (by omega) (by omega) ?_
  have hq : ∀ t : State, t.heap = H → s.WarmedH t.vm → ZQ G A0 K args s (.returned ((none : Option AV).map (cv G))) t := fun t ht _ => ⟨⟨none, A, rfl, zin_nil, k, by rw [ht]; exact hH, hA⟩, hS.F ht⟩
  exact W.vret hC.1 hC.2.1 (hC.2.2.2.2.2.2.1.trans hr) hq hS.2.2 hd hC.2.2.2.2.2.1
end ZF
