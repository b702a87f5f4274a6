/-! ===== rules: calls ===== -/
def zsz (S : List AV) : Nat := (S.map (fun v => if isl v then 2 else 1)).sum
def zflat (as : List AV) : List AV := as.flatMap (fun v => if isl v then [v, vu] else [v])
/-- the locals at a method's entry -/
def zent (as : List AV) (n : Nat) : List AV := zflat as ++ List.replicate (n - (zflat as).length) vu
def ZK (M : ZM) (n : Nat) : Prop := Cond.code M.1 M.2.1 M.2.2.1 M.2.2.2 ∈ zw ∧ Cond.initialized M.1.cls ∈ zw ∧ plainName M.1.cls = true ∧ (M.1.cls ≠ "java/lang/invoke/MethodHandle" ∧ M.1.cls ≠ "java/lang/invoke/VarHandle" ∧ (parseMethodDescriptor M.1.desc).map (fun d => d.parameters.length) = some n) ∧ M.2.2.1 ≤ 80
def ZV (own : String) (idx : Nat) (M : ZM) (n : Nat) : Prop := ZK M n ∧ Cond.methodLink own idx M.1 ∈ zw ∧ Cond.instanceMethod M.1 ∈ zw ∧ Cond.selects M.1.cls M.1 M.1 ∈ zw
def ZT (own : String) (idx : Nat) (M : ZM) (n : Nat) : Prop := ZK M n ∧ Cond.methodLink own idx M.1 ∈ zw ∧ Cond.static M.1 ∈ zw
def ZI (own : String) (idx : Nat) (M : ZM) (n : Nat) : Prop := ZK M n ∧ Cond.methodLink own idx M.1 ∈ zw ∧ Cond.instanceMethod M.1 ∈ zw ∧ M.1.name = "<init>" ∧ M.2.2.2 = none
def ZTN (own : String) (idx : Nat) (M : ZM) (n : Nat) : Prop := ZK M n ∧ (own, idx, M.1, RX11) ∈ znest ∧ Cond.static M.1 ∈ zw
def ZIN (own : String) (idx : Nat) (M : ZM) (n : Nat) : Prop := ZK M n ∧ (own, idx, M.1, RX11) ∈ znest ∧ Cond.instanceMethod M.1 ∈ zw ∧ M.1.name = "<init>" ∧ M.2.2.2 = none
section ZK0
variable {G : ZG} {M : ZM} {d bc bs pc : Nat} {L S : List AV} {A : AH} {K : Option AV → AH → Prop}
theorem zsz_of (S : List AV) : ((S.map (cv G)).map (fun v => v.category)).sum = zsz S := by
  unfold zsz
  rw [List.map_map]
  congr 1
  apply List.map_congr_left
  intro v _
  show (cv G v).category = _
  cases h : isl v with
  | false => rw [cv_cat1 h]; rfl
  | true => rw [cv_cat2 h]; rfl
theorem zflat_len (as : List AV) : (lg_sl (as.map (cv G))).length = (zflat as).length := by
  unfold lg_sl zflat
  induction as with
  | nil => rfl
  | cons v vs ih =>
    rw [List.map_cons, List.flatMap_cons, List.flatMap_cons, List.length_append, List.length_append, ih]
    congr 1
    cases h : isl v with
    | false => rw [cv_cat1 h]; rfl
    | true => rw [cv_cat2 h]; rfl
theorem zflat_args (as : List AV) : ∀ (i j : Nat) (v : AV), (zflat as)[j]? = some v → isu v = false → (i + j, cv G v) ∈ lv_args i (as.map (cv G)) := by
  induction as with
  | nil => intro i j v h; simp [zflat] at h
  | cons w ws ih =>
    intro i j v h hu
    have hz : zflat (w :: ws) = (if isl w then [w, vu] else [w]) ++ zflat ws := rfl
    rw [hz] at h
    rw [List.map_cons]
    unfold lv_args
    cases hw : isl w with
    | false =>
      rw [hw] at h
      rw [cv_cat1 hw]
      cases j with
      | zero =>
        have h : some w = some v := h
        cases h
        exact List.mem_cons_self
      | succ j =>
        have h : (zflat ws)[j]? = some v := h
        have := ih (i + 1) j v h hu
        rw [show i + (j + 1) = i + 1 + j by omega]
        exact List.mem_cons_of_mem _ this
    | true =>
      rw [hw] at h
      rw [cv_cat2 hw]
      match j with
      | 0 =>
        have h : some w = some v := h
        cases h
        exact List.mem_cons_self
      | 1 =>
        have h : some vu = some v := h
        cases h
        cases hu
      | j + 2 =>
        have h : (zflat ws)[j]? = some v := h
        have := ih (i + 2) j v h hu
        rw [show i + (j + 2) = i + 2 + j by omega]
        exact List.mem_cons_of_mem _ this
theorem zent_has {as : List AV} {n : Nat} {ls : Array Slot} (h : lv_has ls n (lv_args 0 (as.map (cv G)))) : lv_has ls n (zl G (zent as n)) := by
  refine ⟨h.1, h.2.1, fun q hq => h.2.2 q ?_⟩
  obtain ⟨v, h1, h2, h3⟩ := zl_mem.mp hq
  unfold zent at h1
  by_cases hl : q.1 < (zflat as).length
  · rw [List.getElem?_append_left hl] at h1
    have := zflat_args (G := G) as 0 q.1 v h1 h2
    rw [Nat.zero_add, ← h3] at this
    exact this
  · rw [List.getElem?_append_right (by omega)] at h1
    have := List.mem_of_getElem? h1
    rw [List.mem_replicate] at this
    rw [this.2] at h2
    cases h2
theorem zin_flat {as : List AV} (h : zin as) : zin (zflat as) := by
  intro v hv
  obtain ⟨w, h1, h2⟩ := List.mem_flatMap.mp hv
  cases hw : isl w with
  | false => rw [hw] at h2; rw [List.mem_singleton.mp h2]; exact h w h1
  | true =>
    rw [hw] at h2
    rcases List.mem_cons.mp h2 with rfl | h3
    · exact h _ h1
    · rw [List.mem_singleton.mp h3]; trivial
theorem zin_ent {as : List AV} {n : Nat} (h : zin as) : zin (zent as n) := zin_app.mpr ⟨zin_flat h, fun v hv => by rw [(List.mem_replicate.mp hv).2]; trivial⟩
theorem zgood {M : ZM} {n : Nat} (h : ZK M n) : GoodIn zw (Cond.code M.1 M.2.1 M.2.2.1 M.2.2.2 :: zw) := by
  intro w hw
  have hz : w ∈ zw := by
    rcases List.mem_cons.mp hw with rfl | hw
    · exact h.1
    · exact hw
  exact ⟨hz, good_of_word (List.mem_filter.mp hz).2⟩
def ZP (G : ZG) (A : AH) (as : List AV) : Array Value → State → Prop := fun v U => v = (as.map (cv G)).toArray ∧ zin as ∧ Cx G U U.heap ∧ Hp G A U.heap
/-- a method's contract out of its walk -/
theorem Z.met (l : Launch) {n mc ms : Nat} {as : List AV} (hk : ZK M n) (hlen : (zflat as).length ≤ M.2.2.1) (k : Z G M d mc ms 0 (zent as M.2.2.1) [] A K) : Met l M.1 (Cond.code M.1 M.2.1 M.2.2.1 M.2.2.2 :: zw) (zroom d mc ms) (ZP G A as) (ZQ G A K) mc ms (zA G A) := by
  refine Met.ofW (cc := M.2.1) (maxL := M.2.2.1) (ret := M.2.2.2) hk.2.2.1 rfl ?_
  intro p e s m args below meth c s₁ B hml hv
  obtain ⟨rfl, hz, hX, hH⟩ := hv
  have hts := atoms_spec (ws := Cond.code M.1 M.2.1 M.2.2.1 M.2.2.2 :: zw) B.pre
  have hC : ZC M d mc ms p (headSpec (Cond.code M.1 M.2.1 M.2.2.1 M.2.2.2 :: zw) (zroom d mc ms)).room s m (as.map (cv G)).toArray meth c := ⟨B.exec, B.bytes, hml, findClass_of_methodNamed B.named, fun w hw => hts w (List.mem_cons_of_mem _ hw), B.notSynchronized, B.returns, (name_of_methodNamed B.named B.method).1, rfl⟩
  have hl := lv_entry (as.map (cv G)) (n := M.2.2.1) (by rw [zflat_len]; exact hlen)
  rw [lg_entry_eq]
  exact k p l e _ s m _ below meth c s.heap [] 0 0 _ mc ms A hC hX hH ⟨rfl, fun _ => rfl, Nat.le_refl _⟩ va_S.rf (zent_has hl) (zin_ent hz) zin_nil (by omega) (by omega)
theorem zcall {p : Program} {l : Launch} {e : Env} {R : Room} {s : State} {m : MethodId} {args a : Array Value} {below : List Frame} {meth : Method} {c : Code} {H : Heap} {locs : List Loc} {cells slots mc ms : Nat} {ls : Array Slot} {st0 rest : List Value} {A0 : AH} {K' : Option AV → AH → Prop} {Q : State → Prop}
    (hr : va_Run p l e R s m args below meth c H locs cells slots mc ms (F0 m pc ls st0) rest (ZQ G A K' a) (zA G A)) (hH : Hp G A H) (hA : Af A0 A) (hS : va_S (zA G A0) s.heap H locs)
    (kk : ∀ (r : Option AV) (A1 : AH) (H1 : Heap) (locs1 : List Loc), zin r.toList → K' r A1 → Hp G A1 H1 → Af A0 A1 → va_S (zA G A0) s.heap H1 locs1 → W p l e R s m args below meth c H1 locs1 (cells + mc) (slots + ms) Q (F0 m (pc + 3) ls (r.toList.map (cv G) ++ rest))) : W p l e R s m args below meth c H locs cells slots Q (F0 m pc ls st0) := by
  intro T hT X
  obtain ⟨v, st₀, t, T', L, h0, X', hL, e1, e2, ⟨⟨r, A1, hv, hz, hk, hH1, hA1⟩, hsz, hkp⟩, st⟩ := hr T hT X
  cases hv
  rw [h0] at hsz hkp
  have sub : ∀ q, zA G A q → zA G A0 q := by
    intro q hq
    refine ⟨hq.1, ?_⟩
    rcases hq.2 with h | h
    · exact Or.inl (hA.1.trans h)
    · cases ho : A0.2.2.2 with
      | true => exact Or.inl rfl
      | false => exact Or.inr (by rw [hA.2.1 (hA.1.symm.trans ho)]; exact h)
  have hAf : Af A0 A1 := ⟨hA.1.trans hA1.1, fun h => (hA.2.1 (hA1.1.trans h)).trans (hA1.2.1 h), Nat.le_trans hA.2.2 hA1.2.2⟩
  obtain ⟨t2, a1, b1⟩ := kk r A1 T'.heap (locs ++ L) hz hk (by rw [e1]; exact hH1) hAf
    ⟨Nat.le_trans hS.1 (by rw [e1]; exact hsz), fun q h1 h2 => by rw [e1, hkp q (Nat.lt_of_lt_of_le h1 hS.1) (fun z => h2 (sub q z))]; exact hS.2.1 q h1 h2, fun q hq => by
      rcases List.mem_append.mp hq with h | h
      · exact hS.2.2 q h
      · exact sub _ (hL q h)⟩ T' rfl X'
  refine ⟨t2, st t2 ?_, b1⟩
  cases r with
  | none => exact a1
  | some x => exact a1
theorem ZP_blind {as : List AV} : FrameBlind (ZP G A as) := fun a U g mk h => ⟨h.1, h.2.1, Cx.warm (s := U) (U := U.calling g mk a) (State.WarmedH.refl U) h.2.2.1, h.2.2.2⟩
theorem ZP_at {as : List AV} {s U : State} {H : Heap} {A0 : AH} {locs : List Loc} (hX : Cx G s s.heap) (hS : va_S (zA G A0) s.heap H locs) (hH : Hp G A H) (hz : zin as) (hU : U.heap = H) (hW : s.WarmedH U.vm) : ZP G A as (as.map (cv G)).toArray U :=
  ⟨rfl, hz, by rw [hU]; exact (hX.kept (fun a ha hn => hS.2.1 a ha (fun z => hn z.1))).warm hW, by rw [hU]; exact hH⟩
theorem zroomR {d mc ms mc' ms' x : Nat} (h : x ≤ 80) : (zroom d mc' ms').frames + 1 ≤ (zroom (d + 1) mc ms).frames ∧ 8 + (x + 11) + (zroom d mc' ms').locals ≤ (zroom (d + 1) mc ms).locals := by
  show d + 1 + 1 ≤ d + 1 + 1 ∧ 8 + (x + 11) + (100 * d + 100) ≤ 100 * (d + 1) + 100
  omega
theorem Z_callV {M' : ZM} {idx n bc1 bs1 bc2 bs2 : Nat} {o : Nat} {As : List AV} (hd : decode M.2.1 pc = .ok (.invokevirtual idx, 3)) (hv : ZV M.1.cls idx M' n) {ci : Nat} (ho : A.1[o]? = some (.inl ci)) (hci : ci < 13) (hcl : zR ci = M'.1.cls) (hn : As.length = n) (hsz : zsz S ≤ 8) (hlen : (zflat (vr (some o) :: As)).length ≤ M'.2.2.1) (e1 : bc2 + bc1 = bc) (e2 : bs2 + bs1 = bs)
    (k : Z G M' d bc2 bs2 0 (zent (vr (some o) :: As) M'.2.2.1) [] A (fun r A1 => Z G M (d + 1) bc1 bs1 (pc + 3) L (r.toList ++ S) A1 K)) : Z G M (d + 1) bc bs pc L (As.reverse ++ vr (some o) :: S) A K := by
  intro p l e R s m args below meth c H locs cells slots ls mc ms A0 hC hX hH hA hS hl hL hSt hc hs
  have hR : R = zroom (d + 1) mc ms := hC.2.2.2.2.2.2.2.2
  have hts := hC.2.2.2.2.1
  have hz : zin (vr (some o) :: As) := zin_cons.mpr ⟨trivial, fun v h => (zin_app.mp hSt).1 v (List.mem_reverse.mpr h)⟩
  have hzS : zin S := (zin_cons.mp (zin_app.mp hSt).2).2
  have hM := Z.met l hv.1 hlen k
  refine zcall (A := A) (rest := S.map (cv G)) (va_runV (As := As.map (cv G)) (b := adr G o) (C := M'.1.cls) ⟨hC.1, hC.2.1, hC.2.2.1, hC.2.2.2.1, hts⟩ hM ⟨callB_of (Ts := zw) (ws' := zw) n hts (zgood hv.1) rfl rfl rfl (hts _ hv.1.2.1) (hts _ hv.2.1) hv.1.2.2.2.1 (by rw [hR]; exact zroomR hv.1.2.2.2.2), hts _ hv.2.2.1, hts _ hv.2.2.2⟩ ⟨ZP_blind, by rw [adr_of hH ho, ← hcl]; exact va_recv hX.1 hH.1 (zk_cl hci) (zws_get ho), fun U hU hW => ZP_at (as := vr (some o) :: As) hX hS hH hz hU hW⟩ rfl (by rw [List.length_map]; exact hn) hl.1 (by simp [List.map_append, List.map_reverse, cv_rf]) (lv_room (by rw [zsz_of]; exact hsz)) hd (by rw [hR]; exact ⟨by show cells + bc2 ≤ mc; omega, by show slots + bs2 ≤ ms; omega⟩)) hH hA hS (fun r A1 H1 locs1 hz1 hK hH1 hA1 hS1 => ?_)
  · rw [← List.map_append]
    exact hK p l e R s m args below meth c H1 locs1 _ _ ls mc ms A0 hC hX hH1 hA1 hS1 hl hL (zin_app.mpr ⟨hz1, hzS⟩) (by omega) (by omega)
theorem Z_callS {M' : ZM} {idx n bc1 bs1 bc2 bs2 : Nat} {As : List AV} (hd : decode M.2.1 pc = .ok (.invokestatic idx, 3)) (hv : ZT M.1.cls idx M' n) (hn : As.length = n) (hsz : zsz S ≤ 8) (hlen : (zflat (As)).length ≤ M'.2.2.1) (e1 : bc2 + bc1 = bc) (e2 : bs2 + bs1 = bs)
    (k : Z G M' d bc2 bs2 0 (zent (As) M'.2.2.1) [] A (fun r A1 => Z G M (d + 1) bc1 bs1 (pc + 3) L (r.toList ++ S) A1 K)) : Z G M (d + 1) bc bs pc L (As.reverse ++ S) A K := by
  intro p l e R s m args below meth c H locs cells slots ls mc ms A0 hC hX hH hA hS hl hL hSt hc hs
  have hR : R = zroom (d + 1) mc ms := hC.2.2.2.2.2.2.2.2
  have hts := hC.2.2.2.2.1
  have hz : zin (As) := fun v h => (zin_app.mp hSt).1 v (List.mem_reverse.mpr h)
  have hzS : zin S := (zin_app.mp hSt).2
  have hM := Z.met l hv.1 hlen k
  refine zcall (A := A) (rest := S.map (cv G)) (va_runS (As := As.map (cv G)) ⟨hC.1, hC.2.1, hC.2.2.1, hC.2.2.2.1, hts⟩ hM ⟨callB_of (Ts := zw) (ws' := zw) n hts (zgood hv.1) rfl rfl rfl (hts _ hv.1.2.1) (hts _ hv.2.1) hv.1.2.2.2.1 (by rw [hR]; exact zroomR hv.1.2.2.2.2), hts _ hv.2.2⟩ ⟨ZP_blind, fun U hU hW => ZP_at (as := As) hX hS hH hz hU hW⟩ rfl (by rw [List.length_map]; exact hn) hl.1 (by simp [List.map_append, List.map_reverse]) (lv_room (by rw [zsz_of]; exact hsz)) hd (by rw [hR]; exact ⟨by show cells + bc2 ≤ mc; omega, by show slots + bs2 ≤ ms; omega⟩)) hH hA hS (fun r A1 H1 locs1 hz1 hK hH1 hA1 hS1 => ?_)
  · rw [← List.map_append]
    exact hK p l e R s m args below meth c H1 locs1 _ _ ls mc ms A0 hC hX hH1 hA1 hS1 hl hL (zin_app.mpr ⟨hz1, hzS⟩) (by omega) (by omega)
theorem Z_callI {M' : ZM} {idx n bc1 bs1 bc2 bs2 : Nat} {o : Nat} {As : List AV} (hd : decode M.2.1 pc = .ok (.invokespecial idx, 3)) (hv : ZI M.1.cls idx M' n) (hn : As.length = n) (hsz : zsz S ≤ 8) (hlen : (zflat (vr (some o) :: As)).length ≤ M'.2.2.1) (e1 : bc2 + bc1 = bc) (e2 : bs2 + bs1 = bs)
    (k : Z G M' d bc2 bs2 0 (zent (vr (some o) :: As) M'.2.2.1) [] A (fun r A1 => Z G M (d + 1) bc1 bs1 (pc + 3) L (r.toList ++ S) A1 K)) : Z G M (d + 1) bc bs pc L (As.reverse ++ vr (some o) :: S) A K := by
  intro p l e R s m args below meth c H locs cells slots ls mc ms A0 hC hX hH hA hS hl hL hSt hc hs
  have hR : R = zroom (d + 1) mc ms := hC.2.2.2.2.2.2.2.2
  have hts := hC.2.2.2.2.1
  have hz : zin (vr (some o) :: As) := zin_cons.mpr ⟨trivial, fun v h => (zin_app.mp hSt).1 v (List.mem_reverse.mpr h)⟩
  have hzS : zin S := (zin_cons.mp (zin_app.mp hSt).2).2
  have hM := Z.met l hv.1 hlen k
  refine zcall (A := A) (rest := S.map (cv G)) (va_runI (As := As.map (cv G)) (b := adr G o) ⟨hC.1, hC.2.1, hC.2.2.1, hC.2.2.2.1, hts⟩ hM ⟨callB_of (Ts := zw) (ws' := zw) (ret := none) n hts (zgood hv.1) (by rw [hv.2.2.2.2]) rfl rfl (hts _ hv.1.2.1) (hts _ hv.2.1) hv.1.2.2.2.1 (by rw [hR]; exact zroomR hv.1.2.2.2.2), hv.2.2.2.1, hts _ hv.2.2.1⟩ ⟨ZP_blind, fun U hU hW => ZP_at (as := vr (some o) :: As) hX hS hH hz hU hW⟩ rfl (by rw [List.length_map]; exact hn) hl.1 (by simp [List.map_append, List.map_reverse, cv_rf]) (lv_room (by rw [zsz_of]; exact hsz)) hd (by rw [hR]; exact ⟨by show cells + bc2 ≤ mc; omega, by show slots + bs2 ≤ ms; omega⟩)) hH hA hS (fun r A1 H1 locs1 hz1 hK hH1 hA1 hS1 => ?_)
  · rw [← List.map_append]
    exact hK p l e R s m args below meth c H1 locs1 _ _ ls mc ms A0 hC hX hH1 hA1 hS1 hl hL (zin_app.mpr ⟨hz1, hzS⟩) (by omega) (by omega)
theorem Z_callSN {M' : ZM} {idx n bc1 bs1 bc2 bs2 : Nat} {As : List AV} (hd : decode M.2.1 pc = .ok (.invokestatic idx, 3)) (hv : ZTN M.1.cls idx M' n) (hn : As.length = n) (hsz : zsz S ≤ 8) (hlen : (zflat (As)).length ≤ M'.2.2.1) (e1 : bc2 + bc1 = bc) (e2 : bs2 + bs1 = bs)
    (k : Z G M' d bc2 bs2 0 (zent (As) M'.2.2.1) [] A (fun r A1 => Z G M (d + 1) bc1 bs1 (pc + 3) L (r.toList ++ S) A1 K)) : Z G M (d + 1) bc bs pc L (As.reverse ++ S) A K := by
  intro p l e R s m args below meth c H locs cells slots ls mc ms A0 hC hX hH hA hS hl hL hSt hc hs
  have hR : R = zroom (d + 1) mc ms := hC.2.2.2.2.2.2.2.2
  have hts := hC.2.2.2.2.1
  have hz : zin (As) := fun v h => (zin_app.mp hSt).1 v (List.mem_reverse.mpr h)
  have hzS : zin S := (zin_app.mp hSt).2
  have hM := Z.met l hv.1 hlen k
  refine zcall (A := A) (rest := S.map (cv G)) (va_runSN (As := As.map (cv G)) ⟨hC.1, hC.2.1, hC.2.2.1, hC.2.2.2.1, hts⟩ hM ⟨(va_cnB (Ts := zw) (ws' := zw) (host := RX11)  n hts (zgood hv.1) rfl rfl rfl (hX.2.2.1 _ hv.2.1) (hts _ hv.1.2.1) hv.1.2.2.2.1 (by rw [hR]; exact zroomR hv.1.2.2.2.2)), hts _ hv.2.2, trivial⟩ ⟨ZP_blind, fun U hU hW => ZP_at (as := As) hX hS hH hz hU hW⟩ rfl (by rw [List.length_map]; exact hn) hl.1 (by simp [List.map_append, List.map_reverse]) (lv_room (by rw [zsz_of]; exact hsz)) hd (by rw [hR]; exact ⟨by show cells + bc2 ≤ mc; omega, by show slots + bs2 ≤ ms; omega⟩)) hH hA hS (fun r A1 H1 locs1 hz1 hK hH1 hA1 hS1 => ?_)
  · rw [← List.map_append]
    exact hK p l e R s m args below meth c H1 locs1 _ _ ls mc ms A0 hC hX hH1 hA1 hS1 hl hL (zin_app.mpr ⟨hz1, hzS⟩) (by omega) (by omega)
theorem Z_callIN {M' : ZM} {idx n bc1 bs1 bc2 bs2 : Nat} {o : Nat} {As : List AV} (hd : decode M.2.1 pc = .ok (.invokespecial idx, 3)) (hv : ZIN M.1.cls idx M' n) (hn : As.length = n) (hsz : zsz S ≤ 8) (hlen : (zflat (vr (some o) :: As)).length ≤ M'.2.2.1) (e1 : bc2 + bc1 = bc) (e2 : bs2 + bs1 = bs)
    (k : Z G M' d bc2 bs2 0 (zent (vr (some o) :: As) M'.2.2.1) [] A (fun r A1 => Z G M (d + 1) bc1 bs1 (pc + 3) L (r.toList ++ S) A1 K)) : Z G M (d + 1) bc bs pc L (As.reverse ++ vr (some o) :: S) A K := by
  intro p l e R s m args below meth c H locs cells slots ls mc ms A0 hC hX hH hA hS hl hL hSt hc hs
  have hR : R = zroom (d + 1) mc ms := hC.2.2.2.2.2.2.2.2
  have hts := hC.2.2.2.2.1
  have hz : zin (vr (some o) :: As) := zin_cons.mpr ⟨trivial, fun v h => (zin_app.mp hSt).1 v (List.mem_reverse.mpr h)⟩
  have hzS : zin S := (zin_cons.mp (zin_app.mp hSt).2).2
  have hM := Z.met l hv.1 hlen k
  refine zcall (A := A) (rest := S.map (cv G)) (va_runIN (As := As.map (cv G)) (b := adr G o) ⟨hC.1, hC.2.1, hC.2.2.1, hC.2.2.2.1, hts⟩ hM ⟨(va_cnB (Ts := zw) (ws' := zw) (host := RX11) (ret := none) n hts (zgood hv.1) (by rw [hv.2.2.2.2]) rfl rfl (hX.2.2.1 _ hv.2.1) (hts _ hv.1.2.1) hv.1.2.2.2.1 (by rw [hR]; exact zroomR hv.1.2.2.2.2)), hv.2.2.2.1, hts _ hv.2.2.1⟩ ⟨ZP_blind, fun U hU hW => ZP_at (as := vr (some o) :: As) hX hS hH hz hU hW⟩ rfl (by rw [List.length_map]; exact hn) hl.1 (by simp [List.map_append, List.map_reverse, cv_rf]) (lv_room (by rw [zsz_of]; exact hsz)) hd (by rw [hR]; exact ⟨by show cells + bc2 ≤ mc; omega, by show slots + bs2 ≤ ms; omega⟩)) hH hA hS (fun r A1 H1 locs1 hz1 hK hH1 hA1 hS1 => ?_)
  · rw [← List.map_append]
    exact hK p l e R s m args below meth c H1 locs1 _ _ ls mc ms A0 hC hX hH1 hA1 hS1 hl hL (zin_app.mpr ⟨hz1, hzS⟩) (by omega) (by omega)
theorem Z_objI {o idx : Nat} (hd : decode M.2.1 pc = .ok (.invokespecial idx, 3)) (h1 : Cond.methodLink M.1.cls idx Lib.objectInit ∈ zw) (h2 : Cond.instanceMethod Lib.objectInit ∈ zw) (h3 : Cond.code Lib.objectInit ⟨#[0xb1]⟩ 1 none ∈ zw) (hsz : zsz S ≤ 8) (k : Z G M d bc bs (pc + 3) L S A K) : Z G M d bc bs pc L (vr (some o) :: S) A K := by
  intro p l e R s m args below meth c H locs cells slots ls mc ms A0 hC hX hH hA hS hl hL hSt hc hs
  have hR : R = zroom d mc ms := hC.2.2.2.2.2.2.2.2
  have hts := hC.2.2.2.2.1
  refine W.objInit (a := adr G o) (rest := S.map (cv G)) hC.1 hC.2.1 hC.2.2.2.1 (hts _ h1) (hts _ h2) (hts _ h3) rfl (hl.1.trans hC.2.2.1.symm) rfl hd (by rw [hR]; show 1 ≤ d + 1; omega) ?_ (k p l e R s m args below meth c H locs cells slots ls mc ms A0 hC hX hH hA hS hl hL (zin_cons.mp hSt).2 hc hs)
  have := lv_room (m := m) (pc := pc) (ls := ls) (rest := (vr (some o) :: S).map (cv G)) (st := S.map (cv G)) (by rw [zsz_of]; exact hsz)
  rw [hR]
  show _ + 12 ≤ 100 * d + 100
  omega
end ZK0
