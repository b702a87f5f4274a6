/-! ===== rules: fields, arrays, new cells ===== -/
def zT (ci : Nat) : u_T := match ci with
  | 0 => TX0 | 1 => TX1 | 2 => TX2 | 3 => TX3 | 4 => TX4 | 5 => TX5 | 6 => TX6 | 7 => TX7 | 8 => TX8 | 9 => TX9 | 10 => TX10 | 11 => TX11 | _ => TX12
def zR (ci : Nat) : String := match ci with
  | 0 => RX0 | 1 => RX1 | 2 => RX2 | 3 => RX3 | 4 => RX4 | 5 => RX5 | 6 => RX6 | 7 => RX7 | 8 => RX8 | 9 => RX9 | 10 => RX10 | 11 => RX11 | _ => RX12
theorem zk_cl {ci : Nat} (h : ci < 13) : vwCl[ci]? = some (zR ci, zT ci, zN ci) := by
  match ci, h with
  | 0, _ => rfl | 1, _ => rfl | 2, _ => rfl | 3, _ => rfl | 4, _ => rfl | 5, _ => rfl | 6, _ => rfl | 7, _ => rfl | 8, _ => rfl | 9, _ => rfl | 10, _ => rfl | 11, _ => rfl | 12, _ => rfl
theorem zk_in {ci : Nat} (h : ci < 13) : ∀ w ∈ u_ws (zR ci) (zT ci) (zN ci), w ∈ zw := by
  match ci, h with
  | 0, _ => exact inX0 | 1, _ => exact inX1 | 2, _ => exact inX2 | 3, _ => exact inX3 | 4, _ => exact inX4 | 5, _ => exact inX5 | 6, _ => exact inX6 | 7, _ => exact inX7 | 8, _ => exact inX8 | 9, _ => exact inX9 | 10, _ => exact inX10 | 11, _ => exact inX11 | 12, _ => exact inX12
theorem zk_ty {ci : Nat} (h : ci < 13) : ∀ k, k < zN ci → parseFieldDescriptor (zT ci k).2.2.1 = some (zty ci k) := by
  match ci, h with
  | 0, _ => exact tyX0_ok | 1, _ => exact tyX1_ok | 2, _ => exact tyX2_ok | 3, _ => exact tyX3_ok | 4, _ => exact tyX4_ok | 5, _ => exact tyX5_ok | 6, _ => exact tyX6_ok | 7, _ => exact tyX7_ok | 8, _ => exact tyX8_ok | 9, _ => exact tyX9_ok | 10, _ => exact tyX10_ok | 11, _ => exact tyX11_ok | 12, _ => exact tyX12_ok
theorem zk_nm {ci : Nat} (h : ci < 13) : ∀ a, a < zN ci → ∀ b, b < zN ci → a ≠ b → (zT ci a).2.1 ≠ (zT ci b).2.1 := by
  match ci, h with
  | 0, _ => exact nmX0 | 1, _ => exact nmX1 | 2, _ => exact nmX2 | 3, _ => exact nmX3 | 4, _ => exact nmX4 | 5, _ => exact nmX5 | 6, _ => exact nmX6 | 7, _ => exact nmX7 | 8, _ => exact nmX8 | 9, _ => exact nmX9 | 10, _ => exact nmX10 | 11, _ => exact nmX11 | 12, _ => exact nmX12
/-- in class own the pool's entry idx is field k of class ci -/
def ZL (own : String) (idx ci k : Nat) : Prop := ci < 13 ∧ k < zN ci ∧ Cond.fieldLink own idx (zT ci k).1 (zT ci k).2.1 (zT ci k).2.2.1 ∈ zw
theorem ftc_int {t : FieldType} (h : ftc t = 0) : t = .int := by cases t <;> first | rfl | (simp [ftc] at h)
theorem ftc_bool {t : FieldType} (h : ftc t = 3) : t = .boolean := by cases t <;> first | rfl | (simp [ftc] at h)
theorem ftc_ref {t : FieldType} (h : ftc t = 4) : (∃ C, t = .object C) ∨ ∃ u, t = .array u := by cases t <;> first | exact Or.inl ⟨_, rfl⟩ | exact Or.inr ⟨_, rfl⟩ | (simp [ftc] at h)
section ZH
variable {G : ZG} {M : ZM} {d bc bs pc : Nat} {L S : List AV} {A : AH} {K : Option AV → AH → Prop}
theorem zws_get {o : Nat} {t : ZS} (h : A.1[o]? = some t) : (zws G A)[o]? = some (G.1 + o, ze G A t o) := by
  unfold zws
  rw [List.getElem?_mapIdx, h]
  rfl
theorem zws_len : (zws G A).length = A.1.length := by simp [zws]
theorem zlt_of {o : Nat} {t : ZS} (h : A.1[o]? = some t) : o < A.1.length := (List.getElem?_eq_some_iff.mp h).1
theorem adr_of {H : Heap} {o : Nat} {t : ZS} (hH : Hp G A H) (h : A.1[o]? = some t) : adr G o = G.1 + o := by
  unfold adr
  rw [if_pos (Nat.lt_of_lt_of_le (zlt_of h) hH.2.2.2)]
theorem zD {A0 : AH} (hA : Af A0 A) : va_D (zA G A0) (zws G A) := by
  have key : ∀ (k : Nat) (q : Nat × va_E), (zws G A)[k]? = some q → q.1 = G.1 + k ∧ k < A.1.length := by
    intro k q hk
    unfold zws at hk
    rw [List.getElem?_mapIdx] at hk
    cases h : A.1[k]? with
    | none => rw [h] at hk; cases hk
    | some t =>
      rw [h] at hk
      cases hk
      exact ⟨rfl, zlt_of h⟩
  refine ⟨fun i j x y hi hj hxy => ?_, fun k q hk => ?_⟩
  · have h1 := (key i x hi).1
    have h2 := (key j y hj).1
    omega
  · obtain ⟨h1, h2⟩ := key k q hk
    refine ⟨by omega, ?_⟩
    cases ho : A0.2.2.2 with
    | true => exact Or.inl rfl
    | false =>
      have := hA.2.1 (by rw [← hA.1]; exact ho)
      exact Or.inr (by omega)
theorem zfs_get {ci o k : Nat} (h : k < zN ci) : (zfs G A ci o)[k]? = some (fv G (ftc (zty ci k)) (A.2.1 o k) (A.2.2.1 o k)) := by
  unfold zfs
  rw [List.getElem?_map, List.getElem?_range h]
  rfl
theorem Z_getI {o idx ci k : Nat} (hd : decode M.2.1 pc = .ok (.getfield idx, 3)) (hf : ZL M.1.cls idx ci k) (ho : A.1[o]? = some (.inl ci)) (ht : ftc (zty ci k) = 0 ∨ ftc (zty ci k) = 3) (kk : Z G M d bc bs (pc + 3) L (vi (A.2.1 o k) :: S) A K) : Z G M d bc bs pc L (vr (some o) :: S) A K := by
  intro p l e R s m args below meth c H locs cells slots ls mc ms A0 hC hX hH hA hS hl hL hSt hc hs
  have hv : fv G (ftc (zty ci k)) (A.2.1 o k) (A.2.2.1 o k) = cv G (vi (A.2.1 o k)) := by rcases ht with h | h <;> rw [h] <;> rfl
  have hr : zv (vi (A.2.1 o k)) := by
    have h1 := hH.2.1 o k
    unfold zc at h1
    rw [ho] at h1
    dsimp only at h1
    rcases ht with h | h <;> rw [h] at h1
    · exact h1
    · exact ⟨by have := h1.1; omega, by have := h1.2; omega⟩
  rw [List.map_cons, cv_rf, adr_of hH ho]
  exact va_get (own := M.1.cls) (ref := (zT ci k).1) hC.1 hC.2.1 hC.2.2.2.2.1 (zk_in hf.1) hC.2.2.2.1 hX.1 hH.1 o (zws_get ho) (zk_cl hf.1) k hf.2.1 (hC.2.2.2.2.1 _ hf.2.2) (fun _ h => h) (by rw [zfs_get hf.2.1, hv]) hd
    (kk p l e R s m args below meth c H locs cells slots ls mc ms A0 hC hX hH hA hS hl hL (zin_cons.mpr ⟨hr, (zin_cons.mp hSt).2⟩) hc hs)
theorem Z_getR {o idx ci k : Nat} (hd : decode M.2.1 pc = .ok (.getfield idx, 3)) (hf : ZL M.1.cls idx ci k) (ho : A.1[o]? = some (.inl ci)) (ht : ftc (zty ci k) = 4) (kk : Z G M d bc bs (pc + 3) L (vr (A.2.2.1 o k) :: S) A K) : Z G M d bc bs pc L (vr (some o) :: S) A K := by
  intro p l e R s m args below meth c H locs cells slots ls mc ms A0 hC hX hH hA hS hl hL hSt hc hs
  have hv : fv G (ftc (zty ci k)) (A.2.1 o k) (A.2.2.1 o k) = cv G (vr (A.2.2.1 o k)) := by rw [ht]; rfl
  rw [List.map_cons, cv_rf, adr_of hH ho]
  exact va_get (own := M.1.cls) (ref := (zT ci k).1) hC.1 hC.2.1 hC.2.2.2.2.1 (zk_in hf.1) hC.2.2.2.1 hX.1 hH.1 o (zws_get ho) (zk_cl hf.1) k hf.2.1 (hC.2.2.2.2.1 _ hf.2.2) (fun _ h => h) (by rw [zfs_get hf.2.1, hv]) hd
    (kk p l e R s m args below meth c H locs cells slots ls mc ms A0 hC hX hH hA hS hl hL (zin_cons.mpr ⟨trivial, (zin_cons.mp hSt).2⟩) hc hs)
/-- a number comes to a place -/
def hset (A : AH) (o k : Nat) (x : Int) : AH := (A.1, (fun i j => if i = o ∧ j = k then x else A.2.1 i j), A.2.2.1, A.2.2.2)
/-- a reference comes to a place -/
def rset (A : AH) (o k : Nat) (r : Option Nat) : AH := (A.1, A.2.1, (fun i j => if i = o ∧ j = k then r else A.2.2.1 i j), A.2.2.2)
theorem zws_upd {A B : AH} {o : Nat} {t : ZS} (h1 : B.1 = A.1) (ho : A.1[o]? = some t) (hn : ∀ i u, i ≠ o → ze G B u i = ze G A u i) : zws G B = (zws G A).set o (G.1 + o, ze G B t o) := by
  apply List.ext_getElem?
  intro i
  by_cases e : i = o
  · subst e
    rw [List.getElem?_set_self (by rw [zws_len]; exact zlt_of ho)]
    unfold zws
    rw [List.getElem?_mapIdx, h1, ho]
    rfl
  · rw [List.getElem?_set_ne (Ne.symm e)]
    unfold zws
    rw [List.getElem?_mapIdx, List.getElem?_mapIdx, h1]
    cases A.1[i]? with
    | none => rfl
    | some u => simp [hn i u e]
theorem zc_upd {A B : AH} (h1 : B.1 = A.1) (o k : Nat) : zc B o k = zc A o k := by unfold zc; rw [h1]
theorem hset_ze {o k i : Nat} {x : Int} {u : ZS} (h : i ≠ o) : ze G (hset A o k x) u i = ze G A u i := by
  cases u with
  | inl ci => simp [ze, zfs, hset, h]
  | inr q =>
    obtain ⟨t, n⟩ := q
    unfold ze zar
    simp [hset, h]
theorem rset_ze {o k i : Nat} {r : Option Nat} {u : ZS} (h : i ≠ o) : ze G (rset A o k r) u i = ze G A u i := by
  cases u with
  | inl ci => simp [ze, zfs, rset, h]
  | inr q =>
    obtain ⟨t, n⟩ := q
    unfold ze zar
    simp [rset, h]
theorem hset_hp {o k : Nat} {x : Int} {t : ZS} {H1 : Heap} {va : va_E} (ho : A.1[o]? = some t) (hr : zrange A) (h3 : A.2.2.2 = true → H1.size = G.1 + A.1.length) (h4 : A.1.length ≤ 1000000) (hx : zr (zc A o k) x) (he : ze G (hset A o k x) t o = va) (h : va_P G.2.1 vwCl ((zws G A).set o (G.1 + o, va)) H1) : Hp G (hset A o k x) H1 := by
  refine ⟨?_, fun i j => ?_, h3, h4⟩
  · rw [zws_upd (B := hset A o k x) (A := A) rfl ho (fun i u hi => hset_ze hi), he]
    exact h
  · rw [zc_upd (B := hset A o k x) (A := A) rfl]
    by_cases e : i = o ∧ j = k
    · obtain ⟨rfl, rfl⟩ := e
      simpa [hset] using hx
    · simpa [hset, e] using hr i j
theorem rset_hp {o k : Nat} {r : Option Nat} {t : ZS} {H1 : Heap} {va : va_E} (ho : A.1[o]? = some t) (hr : zrange A) (h3 : A.2.2.2 = true → H1.size = G.1 + A.1.length) (h4 : A.1.length ≤ 1000000) (he : ze G (rset A o k r) t o = va) (h : va_P G.2.1 vwCl ((zws G A).set o (G.1 + o, va)) H1) : Hp G (rset A o k r) H1 := by
  refine ⟨?_, fun i j => ?_, h3, h4⟩
  · rw [zws_upd (B := rset A o k r) (A := A) rfl ho (fun i u hi => rset_ze hi), he]
    exact h
  · rw [zc_upd (B := rset A o k r) (A := A) rfl]
    exact hr i j
theorem hset_zfs {ci o k : Nat} {x : Int} (hk : k < zN ci) (hr : ftc (zty ci k) ≠ 4) (h1 : ftc (zty ci k) ≠ 1) : zfs G (hset A o k x) ci o = (zfs G A ci o).set k (.int (Int32.ofInt x)) := by
  apply List.ext_getElem?
  intro i
  by_cases e : i = k
  · subst e
    rw [List.getElem?_set_self (by simp [zfs, hk]), zfs_get hk]
    have e0 : (hset A o i x).2.1 o i = x := by simp [hset]
    rw [e0]
    unfold fv
    split
    · rename_i h; exact absurd h h1
    · rename_i h; exact absurd h hr
    · rfl
  · rw [List.getElem?_set_ne (Ne.symm e)]
    by_cases hi : i < zN ci
    · rw [zfs_get hi, zfs_get hi]
      simp [hset, e]
    · rw [List.getElem?_eq_none (by simp [zfs]; omega), List.getElem?_eq_none (by simp [zfs]; omega)]
theorem rset_zfs {ci o k : Nat} {r : Option Nat} (hk : k < zN ci) (hr : ftc (zty ci k) = 4) : zfs G (rset A o k r) ci o = (zfs G A ci o).set k (cv G (vr r)) := by
  apply List.ext_getElem?
  intro i
  by_cases e : i = k
  · subst e
    rw [List.getElem?_set_self (by simp [zfs, hk]), zfs_get hk, hr]
    simp [rset, fv, cv, vr]
  · rw [List.getElem?_set_ne (Ne.symm e)]
    by_cases hi : i < zN ci
    · rw [zfs_get hi, zfs_get hi]
      simp [rset, e]
    · rw [List.getElem?_eq_none (by simp [zfs]; omega), List.getElem?_eq_none (by simp [zfs]; omega)]
theorem sz_of {A0 : AH} {s : State} {H H1 : Heap} {locs locs1 : List Loc} (hH : Hp G A H) (hz : H1.size = H.size) : A.2.2.2 = true → H1.size = G.1 + A.1.length := fun h => by rw [hz]; exact hH.2.2.1 h
theorem Z_putI {o idx ci k : Nat} {x : Int} (hd : decode M.2.1 pc = .ok (.putfield idx, 3)) (hf : ZL M.1.cls idx ci k) (ho : A.1[o]? = some (.inl ci)) (ht : ftc (zty ci k) = 0) (hfin : (zT ci k).2.2.2 = false ∨ (zT ci k).2.2.2 = true ∧ M.1.name = "<init>" ∧ (zT ci k).1 = M.1.cls) (kk : Z G M d bc bs (pc + 3) L S (hset A o k x) K) : Z G M d bc bs pc L (vi x :: vr (some o) :: S) A K := by
  intro p l e R s m args below meth c H locs cells slots ls mc ms A0 hC hX hH hA hS hl hL hSt hc hs
  rw [List.map_cons, List.map_cons, cv_rf, adr_of hH ho]
  have hxr := (zin_cons.mp hSt).1
  have hn : narrow (zty ci k) (.int (Int32.ofInt x)) = .int (Int32.ofInt x) := by rw [ftc_int ht]; rfl
  have hfit : fits (zty ci k) (.int (Int32.ofInt x)) = true := by rw [ftc_int ht]; rfl
  have hS2 := (zin_cons.mp (zin_cons.mp hSt).2).2
  have hlen : k < (zfs G A ci o).length := by simp [zfs, hf.2.1]
  have go : ∀ (H1 : Heap) (locs1 : List Loc), H1.size = H.size → va_P G.2.1 vwCl ((zws G A).set o (G.1 + o, .inr (ci, (zfs G A ci o).set k (.int (Int32.ofInt x))))) H1 → va_S (zA G A0) s.heap H1 locs1 → W p l e R s m args below meth c H1 locs1 cells slots (MQ below (ZQ G A0 K) args s mc ms (zA G A0)) (F0 m (pc + 3) ls (S.map (cv G))) := by
    intro H1 locs1 hz hP hS1
    exact kk p l e R s m args below meth c H1 locs1 cells slots ls mc ms A0 hC hX (hset_hp ho hH.2.1 (sz_of (A0 := A0) (s := s) (locs := locs) (locs1 := locs1) hH hz) hH.2.2.2 (by unfold zc; rw [ho]; dsimp only; rw [ht]; exact hxr) (by show Sum.inr (ci, zfs G (hset A o k x) ci o) = _; rw [hset_zfs hf.2.1 (by rw [ht]; decide) (by rw [ht]; decide)]) hP) hA hS1 hl hL hS2 hc hs
  have hD := zD (G := G) hA
  have hin := zk_in hf.1
  have hts := hC.2.2.2.2.1
  have hap := va_apart (own := M.1.cls) hts hin (zty ci) (zk_ty hf.1) (zk_nm hf.1) hX.1 (zk_cl hf.1)
  have he := zws_get (G := G) ho
  obtain ⟨r0, h1, cell, q1, q2, q3, q4⟩ := hH.1 o _ he
  have hr0 : r0 = (zR ci, zT ci, zN ci) := Option.some.inj (h1.symm.trans (zk_cl hf.1))
  subst hr0
  obtain ⟨hS0, hfc, kC, hkC, hkind⟩ := hX.1.1 ci _ (zk_cl hf.1)
  obtain ⟨cf, kf, fi, f, hi, hsl⟩ := hS0 k hf.2.1
  have hlay := hts _ (hin _ (u_in_lay hf.2.1))
  have hst := (u_facts hfc hkC (u_lays hts hin hf.2.1) hi).1
  have hlink := hts _ hf.2.2
  have fin : ∀ (H' : Heap), H'[G.1 + o]? = some { cell with slots := cell.slots.setIfInBounds ((G.2.1.2 ci) k) (.int (Int32.ofInt x)) } → H'.size = H.size → (∀ q : Nat, q ≠ G.1 + o → H'[q]? = H[q]?) → va_P G.2.1 vwCl ((zws G A).set o (G.1 + o, .inr (ci, (zfs G A ci o).set k (.int (Int32.ofInt x))))) H' := by
    intro H' e1 e2 e3
    exact hH.1.set hD he ⟨_, zk_cl hf.1, t_OB.to (V := updV (vp_V (zfs G A ci o)) k (.int (Int32.ofInt x))) ⟨_, e1, q2, q3, t_set q4 hap hf.2.1 _⟩ (fun j _ => vp_updV_set hlen _ j)⟩ e3
  rcases hfin with hfin | ⟨hfin, hin2, hdecl⟩
  · unfold u_lay at hlay
    rw [if_neg (by rw [hfin]; decide)] at hlay
    have h6 := u_store hfc hkC hkind hlay hi (zk_ty hf.1 k hf.2.1) hn hfit
    refine W.putK hC.1 hC.2.1 (f := f) ⟨hC.2.2.2.1, hlink, ⟨_, _, _, hi⟩, hst⟩ (by rw [q2]; exact h6) q1 q3 (by rw [hsl]; exact k2_hasslot (q4 k hf.2.1)) rfl rfl hd fun H' e1 e2 e3 => ?_
    rw [hsl] at e1 ⊢
    exact go H' _ e2 (fin H' e1 e2 e3) (hS.put e2 e3 (hD.2 o _ he))
  · unfold u_lay at hlay
    rw [if_pos hfin] at hlay
    have hcf : m.cls = cf := by
      obtain ⟨_, _, c', _, _, _, -, -, hf', -, -, -, hown2, -⟩ := Cond.laysFinal_spec hlay
      have e1 : c' = cf := by have := hi.symm.trans hf'; simp at this; exact this.1.symm
      rw [hdecl] at hown2
      rw [← e1]; exact Option.some.inj (hC.2.2.2.1.symm.trans hown2)
    have h6 := u_fits hfc hkC hkind (Or.inr hlay) hi (zk_ty hf.1 k hf.2.1) hn hfit
    refine W.putFinK hC.1 hC.2.1 hC.2.2.2.1 hlink hi hst hcf (hC.2.2.2.2.2.2.2.1.trans hin2) (by rw [q2]; exact h6) q1 q3 (by rw [hsl]; exact k2_hasslot (q4 k hf.2.1)) rfl rfl hd fun H' e1 e2 e3 => ?_
    rw [hsl] at e1 ⊢
    exact go H' _ e2 (fin H' e1 e2 e3) (hS.put e2 e3 (hD.2 o _ he))
theorem Z_putZ {o idx ci k : Nat} {x : Int} (hd : decode M.2.1 pc = .ok (.putfield idx, 3)) (hf : ZL M.1.cls idx ci k) (ho : A.1[o]? = some (.inl ci)) (ht : ftc (zty ci k) = 3) (hx : x = 0 ∨ x = 1) (hfin : (zT ci k).2.2.2 = false ∨ (zT ci k).2.2.2 = true ∧ M.1.name = "<init>" ∧ (zT ci k).1 = M.1.cls) (kk : Z G M d bc bs (pc + 3) L S (hset A o k x) K) : Z G M d bc bs pc L (vi x :: vr (some o) :: S) A K := by
  intro p l e R s m args below meth c H locs cells slots ls mc ms A0 hC hX hH hA hS hl hL hSt hc hs
  rw [List.map_cons, List.map_cons, cv_rf, adr_of hH ho]
  have hn : narrow (zty ci k) (.int (Int32.ofInt x)) = .int (Int32.ofInt x) := by rw [ftc_bool ht]; rcases hx with rfl | rfl <;> rfl
  have hfit : fits (zty ci k) (.int (Int32.ofInt x)) = true := by rw [ftc_bool ht]; rcases hx with rfl | rfl <;> rfl
  have hS2 := (zin_cons.mp (zin_cons.mp hSt).2).2
  have hlen : k < (zfs G A ci o).length := by simp [zfs, hf.2.1]
  have go : ∀ (H1 : Heap) (locs1 : List Loc), H1.size = H.size → va_P G.2.1 vwCl ((zws G A).set o (G.1 + o, .inr (ci, (zfs G A ci o).set k (.int (Int32.ofInt x))))) H1 → va_S (zA G A0) s.heap H1 locs1 → W p l e R s m args below meth c H1 locs1 cells slots (MQ below (ZQ G A0 K) args s mc ms (zA G A0)) (F0 m (pc + 3) ls (S.map (cv G))) := by
    intro H1 locs1 hz hP hS1
    exact kk p l e R s m args below meth c H1 locs1 cells slots ls mc ms A0 hC hX (hset_hp ho hH.2.1 (sz_of (A0 := A0) (s := s) (locs := locs) (locs1 := locs1) hH hz) hH.2.2.2 (by unfold zc; rw [ho]; dsimp only; rw [ht]; rcases hx with rfl | rfl <;> exact ⟨by decide, by decide⟩) (by show Sum.inr (ci, zfs G (hset A o k x) ci o) = _; rw [hset_zfs hf.2.1 (by rw [ht]; decide) (by rw [ht]; decide)]) hP) hA hS1 hl hL hS2 hc hs
  have hD := zD (G := G) hA
  have hin := zk_in hf.1
  have hts := hC.2.2.2.2.1
  have hap := va_apart (own := M.1.cls) hts hin (zty ci) (zk_ty hf.1) (zk_nm hf.1) hX.1 (zk_cl hf.1)
  have he := zws_get (G := G) ho
  obtain ⟨r0, h1, cell, q1, q2, q3, q4⟩ := hH.1 o _ he
  have hr0 : r0 = (zR ci, zT ci, zN ci) := Option.some.inj (h1.symm.trans (zk_cl hf.1))
  subst hr0
  obtain ⟨hS0, hfc, kC, hkC, hkind⟩ := hX.1.1 ci _ (zk_cl hf.1)
  obtain ⟨cf, kf, fi, f, hi, hsl⟩ := hS0 k hf.2.1
  have hlay := hts _ (hin _ (u_in_lay hf.2.1))
  have hst := (u_facts hfc hkC (u_lays hts hin hf.2.1) hi).1
  have hlink := hts _ hf.2.2
  have fin : ∀ (H' : Heap), H'[G.1 + o]? = some { cell with slots := cell.slots.setIfInBounds ((G.2.1.2 ci) k) (.int (Int32.ofInt x)) } → H'.size = H.size → (∀ q : Nat, q ≠ G.1 + o → H'[q]? = H[q]?) → va_P G.2.1 vwCl ((zws G A).set o (G.1 + o, .inr (ci, (zfs G A ci o).set k (.int (Int32.ofInt x))))) H' := by
    intro H' e1 e2 e3
    exact hH.1.set hD he ⟨_, zk_cl hf.1, t_OB.to (V := updV (vp_V (zfs G A ci o)) k (.int (Int32.ofInt x))) ⟨_, e1, q2, q3, t_set q4 hap hf.2.1 _⟩ (fun j _ => vp_updV_set hlen _ j)⟩ e3
  rcases hfin with hfin | ⟨hfin, hin2, hdecl⟩
  · unfold u_lay at hlay
    rw [if_neg (by rw [hfin]; decide)] at hlay
    have h6 := u_store hfc hkC hkind hlay hi (zk_ty hf.1 k hf.2.1) hn hfit
    refine W.putK hC.1 hC.2.1 (f := f) ⟨hC.2.2.2.1, hlink, ⟨_, _, _, hi⟩, hst⟩ (by rw [q2]; exact h6) q1 q3 (by rw [hsl]; exact k2_hasslot (q4 k hf.2.1)) rfl rfl hd fun H' e1 e2 e3 => ?_
    rw [hsl] at e1 ⊢
    exact go H' _ e2 (fin H' e1 e2 e3) (hS.put e2 e3 (hD.2 o _ he))
  · unfold u_lay at hlay
    rw [if_pos hfin] at hlay
    have hcf : m.cls = cf := by
      obtain ⟨_, _, c', _, _, _, -, -, hf', -, -, -, hown2, -⟩ := Cond.laysFinal_spec hlay
      have e1 : c' = cf := by have := hi.symm.trans hf'; simp at this; exact this.1.symm
      rw [hdecl] at hown2
      rw [← e1]; exact Option.some.inj (hC.2.2.2.1.symm.trans hown2)
    have h6 := u_fits hfc hkC hkind (Or.inr hlay) hi (zk_ty hf.1 k hf.2.1) hn hfit
    refine W.putFinK hC.1 hC.2.1 hC.2.2.2.1 hlink hi hst hcf (hC.2.2.2.2.2.2.2.1.trans hin2) (by rw [q2]; exact h6) q1 q3 (by rw [hsl]; exact k2_hasslot (q4 k hf.2.1)) rfl rfl hd fun H' e1 e2 e3 => ?_
    rw [hsl] at e1 ⊢
    exact go H' _ e2 (fin H' e1 e2 e3) (hS.put e2 e3 (hD.2 o _ he))
theorem Z_putR {o idx ci k : Nat} {r : Option Nat} (hd : decode M.2.1 pc = .ok (.putfield idx, 3)) (hf : ZL M.1.cls idx ci k) (ho : A.1[o]? = some (.inl ci)) (ht : ftc (zty ci k) = 4) (hfin : (zT ci k).2.2.2 = false ∨ (zT ci k).2.2.2 = true ∧ M.1.name = "<init>" ∧ (zT ci k).1 = M.1.cls) (kk : Z G M d bc bs (pc + 3) L S (rset A o k r) K) : Z G M d bc bs pc L (vr r :: vr (some o) :: S) A K := by
  intro p l e R s m args below meth c H locs cells slots ls mc ms A0 hC hX hH hA hS hl hL hSt hc hs
  rw [List.map_cons, List.map_cons, cv_rf, adr_of hH ho]
  have hn : narrow (zty ci k) (cv G (vr r)) = cv G (vr r) := by rcases ftc_ref ht with ⟨C, e⟩ | ⟨u, e⟩ <;> rw [e] <;> cases r <;> rfl
  have hfit : fits (zty ci k) (cv G (vr r)) = true := by rcases ftc_ref ht with ⟨C, e⟩ | ⟨u, e⟩ <;> rw [e] <;> cases r <;> rfl
  have hS2 := (zin_cons.mp (zin_cons.mp hSt).2).2
  have hlen : k < (zfs G A ci o).length := by simp [zfs, hf.2.1]
  have go : ∀ (H1 : Heap) (locs1 : List Loc), H1.size = H.size → va_P G.2.1 vwCl ((zws G A).set o (G.1 + o, .inr (ci, (zfs G A ci o).set k (cv G (vr r))))) H1 → va_S (zA G A0) s.heap H1 locs1 → W p l e R s m args below meth c H1 locs1 cells slots (MQ below (ZQ G A0 K) args s mc ms (zA G A0)) (F0 m (pc + 3) ls (S.map (cv G))) := by
    intro H1 locs1 hz hP hS1
    exact kk p l e R s m args below meth c H1 locs1 cells slots ls mc ms A0 hC hX (rset_hp ho hH.2.1 (sz_of (A0 := A0) (s := s) (locs := locs) (locs1 := locs1) hH hz) hH.2.2.2 (by show Sum.inr (ci, zfs G (rset A o k r) ci o) = _; rw [rset_zfs hf.2.1 ht]) hP) hA hS1 hl hL hS2 hc hs
  have hD := zD (G := G) hA
  have hin := zk_in hf.1
  have hts := hC.2.2.2.2.1
  have hap := va_apart (own := M.1.cls) hts hin (zty ci) (zk_ty hf.1) (zk_nm hf.1) hX.1 (zk_cl hf.1)
  have he := zws_get (G := G) ho
  obtain ⟨r0, h1, cell, q1, q2, q3, q4⟩ := hH.1 o _ he
  have hr0 : r0 = (zR ci, zT ci, zN ci) := Option.some.inj (h1.symm.trans (zk_cl hf.1))
  subst hr0
  obtain ⟨hS0, hfc, kC, hkC, hkind⟩ := hX.1.1 ci _ (zk_cl hf.1)
  obtain ⟨cf, kf, fi, f, hi, hsl⟩ := hS0 k hf.2.1
  have hlay := hts _ (hin _ (u_in_lay hf.2.1))
  have hst := (u_facts hfc hkC (u_lays hts hin hf.2.1) hi).1
  have hlink := hts _ hf.2.2
  have fin : ∀ (H' : Heap), H'[G.1 + o]? = some { cell with slots := cell.slots.setIfInBounds ((G.2.1.2 ci) k) (cv G (vr r)) } → H'.size = H.size → (∀ q : Nat, q ≠ G.1 + o → H'[q]? = H[q]?) → va_P G.2.1 vwCl ((zws G A).set o (G.1 + o, .inr (ci, (zfs G A ci o).set k (cv G (vr r))))) H' := by
    intro H' e1 e2 e3
    exact hH.1.set hD he ⟨_, zk_cl hf.1, t_OB.to (V := updV (vp_V (zfs G A ci o)) k (cv G (vr r))) ⟨_, e1, q2, q3, t_set q4 hap hf.2.1 _⟩ (fun j _ => vp_updV_set hlen _ j)⟩ e3
  rcases hfin with hfin | ⟨hfin, hin2, hdecl⟩
  · unfold u_lay at hlay
    rw [if_neg (by rw [hfin]; decide)] at hlay
    have h6 := u_store hfc hkC hkind hlay hi (zk_ty hf.1 k hf.2.1) hn hfit
    refine W.putK hC.1 hC.2.1 (f := f) ⟨hC.2.2.2.1, hlink, ⟨_, _, _, hi⟩, hst⟩ (by rw [q2]; exact h6) q1 q3 (by rw [hsl]; exact k2_hasslot (q4 k hf.2.1)) rfl rfl hd fun H' e1 e2 e3 => ?_
    rw [hsl] at e1 ⊢
    exact go H' _ e2 (fin H' e1 e2 e3) (hS.put e2 e3 (hD.2 o _ he))
  · unfold u_lay at hlay
    rw [if_pos hfin] at hlay
    have hcf : m.cls = cf := by
      obtain ⟨_, _, c', _, _, _, -, -, hf', -, -, -, hown2, -⟩ := Cond.laysFinal_spec hlay
      have e1 : c' = cf := by have := hi.symm.trans hf'; simp at this; exact this.1.symm
      rw [hdecl] at hown2
      rw [← e1]; exact Option.some.inj (hC.2.2.2.1.symm.trans hown2)
    have h6 := u_fits hfc hkC hkind (Or.inr hlay) hi (zk_ty hf.1 k hf.2.1) hn hfit
    refine W.putFinK hC.1 hC.2.1 hC.2.2.2.1 hlink hi hst hcf (hC.2.2.2.2.2.2.2.1.trans hin2) (by rw [q2]; exact h6) q1 q3 (by rw [hsl]; exact k2_hasslot (q4 k hf.2.1)) rfl rfl hd fun H' e1 e2 e3 => ?_
    rw [hsl] at e1 ⊢
    exact go H' _ e2 (fin H' e1 e2 e3) (hS.put e2 e3 (hD.2 o _ he))
end ZH
