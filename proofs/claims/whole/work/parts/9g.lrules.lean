/-! ===== the law's walk: two worlds in one heap ===== -/
theorem Hp_kept {G : ZG} {A : AH} {H H1 : Heap} (hH : Hp G A H) (hf : A.2.2.2 = false) (hk : ∀ q : Nat, q < H.size → G.1 ≤ q → q < G.1 + A.1.length → H1[q]? = H[q]?) : Hp G A H1 := by
  refine ⟨hH.1.kept (fun k x hx => ?_), hH.2.1, fun z => (by rw [hf] at z; cases z), hH.2.2.2⟩
  have lt := (hH.1 k x hx).lt
  have h := hx
  unfold zws at h
  rw [List.getElem?_mapIdx] at h
  cases q : A.1[k]? with
  | none => rw [q] at h; cases h
  | some t =>
    rw [q] at h
    have e : x = (G.1 + k, ze G A t k) := (Option.some.inj h).symm
    have l : k < A.1.length := (List.getElem?_eq_some_iff.mp q).1
    have ex : x.1 = G.1 + k := by rw [e]
    exact hk x.1 lt (by omega) (by omega)
def LX (p : Program) (s : State) (m : MethodId) (meth : Method) (c : Code) (b L : Nat) (xs : Nat → Int32) (G1 G2 : ZG) : Prop := lw_At p s m meth c b L xs ∧ (Cx G1 s s.heap ∧ Cx G2 s s.heap) ∧ G1.1 = s.heap.size ∧ G2.1 = s.heap.size + 183
def Lw (p : Program) (l : Launch) (e : Env) (s : State) (m : MethodId) (below : List Frame) (meth : Method) (c : Code) (b : Nat) (G1 G2 : ZG) (i : Int32) (pc : Nat) (st : List Value) (iv : Nat → Nat → Int) (rv : Nat → Nat → Option Nat) (mv : Nat → Nat → Int) : Prop := ∀ (H : Heap) (locs : List Loc) (ls : Array Slot), Hp G1 (mkC iv rv) H → Hp G2 (mkM mv) H → va_S (fun q : Nat => s.heap.size ≤ q) s.heap H locs → lv_has ls 4 [(0, .ref b), (1, .ref G1.1), (2, .ref G2.1), (3, .int i)] → W p l e room_1 s m #[Value.ref b] below meth c H locs 238 85676 (lw_Z below #[Value.ref b] s) (F0 m pc ls st)
def ax (xs : Nat → Int32) (i : Int32) (k : Int) : Int32 := xs (i + Int32.ofInt k).toNatClampNeg
def ai (xs : Nat → Int32) (i : Int32) (k : Int) : Int := (ax xs i k).toInt
def lq (xs : Nat → Int32) (i : Int32) : Int64 := ((ax xs i 3).toInt64 <<< ((32 : Int32).toInt64 &&& 63)) ||| ((ax xs i 4).toInt64 &&& 4294967295)
def al (xs : Nat → Int32) (i : Int32) : Int := (lq xs i).toInt
theorem lg0 (z : Int64) : lg_cmp z z = 0 := by unfold lg_cmp; simp [Int64.lt_irrefl]
section LAW
variable {p : Program} {l : Launch} {e : Env} {s : State} {m : MethodId} {below : List Frame} {meth : Method} {c : Code} {b L : Nat} {xs : Nat → Int32} {G1 G2 : ZG} {i : Int32} {pc : Nat} {st : List Value} {iv mv : Nat → Nat → Int} {rv : Nat → Nat → Option Nat}
theorem lw_zw (C : lw_At p s m meth c b L xs) : ∀ w ∈ zw, w.before #[Value.ref b] s = true := fun w hw => C.2.2.2.2.2.1 w (List.mem_filter.mp hw).1
theorem y_ld1 (X : LX p s m meth c b L xs G1 G2) (hd : decode code pc = .ok (.aload_n 1, 1)) (k : Lw p l e s m below meth c b G1 G2 i (pc + 1) (.ref G1.1 :: st) iv rv mv) : Lw p l e s m below meth c b G1 G2 i pc st iv rv mv := fun H locs ls h1 h2 hS hl => lv_aload_n X.1.1 X.1.2.1 hd rfl (lv_at hl 1 rfl) (k H locs ls h1 h2 hS hl)
theorem y_ld2 (X : LX p s m meth c b L xs G1 G2) (hd : decode code pc = .ok (.aload_n 2, 1)) (k : Lw p l e s m below meth c b G1 G2 i (pc + 1) (.ref G2.1 :: st) iv rv mv) : Lw p l e s m below meth c b G1 G2 i pc st iv rv mv := fun H locs ls h1 h2 hS hl => lv_aload_n X.1.1 X.1.2.1 hd rfl (lv_at hl 2 rfl) (k H locs ls h1 h2 hS hl)
theorem y_ax (X : LX p s m meth c b L xs G1 G2) {k : Int} (d0 : decode code pc = .ok (.aload_n 0, 1)) (d1 : decode code (pc + 1) = .ok (.iload_n 3, 1)) (d2 : decode code (pc + 2) = .ok (.iconst k, 1)) (d3 : decode code (pc + 3) = .ok (.iadd, 1)) (d4 : decode code (pc + 4) = .ok (.iaload, 1)) (hin : vp_in (i + Int32.ofInt k) L) (kk : Lw p l e s m below meth c b G1 G2 i (pc + 5) (.int (ax xs i k) :: st) iv rv mv) : Lw p l e s m below meth c b G1 G2 i pc st iv rv mv := by
  intro H locs ls h1 h2 hS hl
  obtain ⟨hx, hb, hr, hml, hown, hts, hX, hbl, hlocks, hgv⟩ := X.1
  refine lv_aload_n hx hb d0 rfl (lv_at hl 0 rfl) ?_
  refine lv_iload_n hx hb d1 rfl (lv_at hl 3 rfl) ?_
  refine lv_iconst (v := Int32.ofInt k) hx hb d2 rfl ?_
  refine lv_iadd hx hb d3 ?_
  refine va_sld hx hb hX hbl (Nat.not_le.mpr hbl) hS hin d4 ?_
  exact kk H locs ls h1 h2 hS hl
theorem y_arg (X : LX p s m meth c b L xs G1 G2) {k : Int} (d0 : decode code pc = .ok (.aload_n 0, 1)) (d1 : decode code (pc + 1) = .ok (.iload_n 3, 1)) (d2 : decode code (pc + 2) = .ok (.iconst k, 1)) (d3 : decode code (pc + 3) = .ok (.iadd, 1)) (d4 : decode code (pc + 4) = .ok (.iaload, 1)) (hin : vp_in (i + Int32.ofInt k) L) (kk : Lw p l e s m below meth c b G1 G2 i (pc + 5) (.int (Int32.ofInt (ai xs i k)) :: st) iv rv mv) : Lw p l e s m below meth c b G1 G2 i pc st iv rv mv := by
  refine y_ax X d0 d1 d2 d3 d4 hin ?_
  unfold ai at kk
  rw [Int32.ofInt_toInt] at kk
  exact kk
theorem y_long (X : LX p s m meth c b L xs G1 G2) (d0 : decode code pc = .ok (.aload_n 0, 1)) (d1 : decode code (pc + 1) = .ok (.iload_n 3, 1)) (d2 : decode code (pc + 2) = .ok (.iconst 3, 1)) (d3 : decode code (pc + 3) = .ok (.iadd, 1)) (d4 : decode code (pc + 4) = .ok (.iaload, 1)) (d5 : decode code (pc + 5) = .ok (.i2l, 1)) (d6 : decode code (pc + 6) = .ok (.bipush 32, 2)) (d7 : decode code (pc + 8) = .ok (.lshl, 1)) (f0 : decode code (pc + 9) = .ok (.aload_n 0, 1)) (f1 : decode code (pc + 10) = .ok (.iload_n 3, 1)) (f2 : decode code (pc + 11) = .ok (.iconst 4, 1)) (f3 : decode code (pc + 12) = .ok (.iadd, 1)) (f4 : decode code (pc + 13) = .ok (.iaload, 1)) (f5 : decode code (pc + 14) = .ok (.i2l, 1)) (f6 : decode code (pc + 15) = .ok (.ldc2_w 23, 3)) (f7 : decode code (pc + 18) = .ok (.land, 1)) (f8 : decode code (pc + 19) = .ok (.lor, 1)) (hin : vp_in (i + Int32.ofInt 3) L) (hin' : vp_in (i + Int32.ofInt 4) L) (kk : Lw p l e s m below meth c b G1 G2 i (pc + 20) (.long (Int64.ofInt (al xs i)) :: st) iv rv mv) : Lw p l e s m below meth c b G1 G2 i pc st iv rv mv := by
  refine y_ax X d0 d1 d2 d3 d4 hin ?_
  obtain ⟨hx, hb, hr, hml, hown, hts, hX, hbl, hlocks, hgv⟩ := X.1
  intro H locs ls h1 h2 hS hl
  refine lv_i2l hx hb d5 rfl ?_
  refine lv_bipush (v := 32) hx hb d6 rfl ?_
  refine lv_lshl hx hb d7 rfl ?_
  refine y_ax X f0 f1 f2 f3 f4 hin' ?_ H locs ls h1 h2 hS hl
  intro H locs ls h1 h2 hS hl
  refine lv_i2l hx hb f5 rfl ?_
  refine lv_ldc2 hx hb hown (lw_zw X.1 _ lkL_23) f6 ?_
  refine lv_land hx hb f7 ?_
  refine lv_lor hx hb f8 ?_
  unfold al at kk
  rw [Int64.ofInt_toInt] at kk
  exact kk H locs ls h1 h2 hS hl
theorem y_eq (X : LX p s m meth c b L xs G1 G2) {v : Int32} {off : Int} {tgt : Nat} (hd : decode code pc = .ok (.if_icmp .eq off, 3)) (ht : (pc : Int) + off = (tgt : Int)) (k : Lw p l e s m below meth c b G1 G2 i tgt st iv rv mv) : Lw p l e s m below meth c b G1 G2 i pc (.int v :: .int v :: st) iv rv mv := fun H locs ls h1 h2 hS hl => lv_icmp_eq X.1.1 X.1.2.1 hd ht (fun _ => k H locs ls h1 h2 hS hl) (fun n => absurd rfl n)
theorem y_eql (X : LX p s m meth c b L xs G1 G2) {x : Int} {off : Int} {tgt : Nat} (hd : decode code pc = .ok (.lcmp, 1)) (hd1 : decode code (pc + 1) = .ok (.ifCond .eq off, 3)) (ht : ((pc + 1 : Nat) : Int) + off = (tgt : Int)) (k : Lw p l e s m below meth c b G1 G2 i tgt st iv rv mv) : Lw p l e s m below meth c b G1 G2 i pc (.long (Int64.ofInt x) :: .long (Int64.ofInt x) :: st) iv rv mv := by
  intro H locs ls h1 h2 hS hl
  refine W.lcmp X.1.1 X.1.2.1 hd ?_
  refine lv_if_eq X.1.1 X.1.2.1 hd1 ht (fun _ => k H locs ls h1 h2 hS hl) (fun n => absurd (lg0 _) n)
/-- a call into one of the worlds -/
theorem y_call {G : ZG} {A : AH} {M' : ZM} {idx n ci cells slots : Nat} {As : List AV} {K : Option AV → AH → Prop} {Q : State → Prop} {lv : List (Nat × Value)} {H : Heap} {locs : List Loc} {ls : Array Slot} (C : lw_At p s m meth c b L xs) (hG : Cx G s s.heap) (hd : decode code pc = .ok (.invokevirtual idx, 3)) (hv : ZV R_law idx M' n) (ho : A.1[0]? = some (.inl ci)) (hci : ci < 13) (hcl : zR ci = M'.1.cls) (hb0 : s.heap.size ≤ G.1) (hn : As.length = n) (hcat : (st.map fun v => v.category).sum ≤ 8) (hlen : (zflat (vr (some 0) :: As)).length ≤ M'.2.2.1) (hz : zin As) (hcell : cells ≤ 600000 ∧ slots ≤ 7302250) (hH : Hp G A H) (hS : va_S (fun q : Nat => s.heap.size ≤ q) s.heap H locs) (hl : lv_has ls 4 lv)
    (k : Z G M' 40 0 0 0 (zent (vr (some 0) :: As) M'.2.2.1) [] A K)
    (kk : ∀ (r : Option AV) (A1 : AH) (H1 : Heap) (locs1 : List Loc), zin r.toList → K r A1 → Hp G A1 H1 → Af A A1 → (∀ q : Nat, q < H.size → ¬ zA G A q → H1[q]? = H[q]?) → va_S (fun q : Nat => s.heap.size ≤ q) s.heap H1 locs1 → W p l e room_1 s m #[Value.ref b] below meth c H1 locs1 cells slots Q (F0 m (pc + 3) ls (r.toList.map (cv G) ++ st))) : W p l e room_1 s m #[Value.ref b] below meth c H locs cells slots Q (F0 m pc ls ((As.map (cv G)).reverse ++ .ref G.1 :: st)) := by
  have hts := lw_zw C
  have hM := Z.met l hv.1 hlen k
  have ha : adr G 0 = G.1 := by have := adr_of hH ho; omega
  have hr := va_runV (l := l) (e := e) (R := room_1) (below := below) (meth := meth) (H := H) (locs := locs) (cells := cells) (slots := slots) (g := F0 m pc ls ((As.map (cv G)).reverse ++ .ref G.1 :: st)) (As := As.map (cv G)) (b := G.1) (rest := st) (C := M'.1.cls) (p := p) (m := m) (c := c) (s := s) (args := #[Value.ref b]) (nL := 4) (Ts := zw) (own := R_law) ⟨C.1, C.2.1, C.2.2.2.1, C.2.2.2.2.1, hts⟩ hM ⟨callB_of (Ts := zw) (ws' := zw) n hts (zgood hv.1) rfl rfl rfl (hts _ hv.1.2.1) (hts _ hv.2.1) hv.1.2.2.2.1 ⟨by decide, by have := hv.1.2.2.2.2; show _ + _ + (100 * 40 + 100) ≤ 84000; omega⟩, hts _ hv.2.2.1, hts _ hv.2.2.2⟩ ⟨ZP_blind, by rw [← hcl]; exact va_recv hG.1 hH.1 (zk_cl hci) (zws_get ho), fun U hU hW => ⟨by rw [← ha]; rfl, zin_cons.mpr ⟨trivial, hz⟩, by rw [hU]; exact (hG.kept (fun a ha _ => hS.2.1 a ha (Nat.not_le.mpr ha))).warm hW, by rw [hU]; exact hH⟩⟩ rfl (by rw [List.length_map]; exact hn) hl.1 rfl (lv_room hcat) hd hcell
  intro T hT X
  obtain ⟨v, st₀, t, T', L', h0, X', hL, e1, e2, ⟨⟨r, A1, hv', hz1, hk, hH1, hA1⟩, hsz, hkp⟩, st'⟩ := hr T hT X
  cases hv'
  rw [h0] at hsz hkp
  have sub : ∀ q, zA G A q → s.heap.size ≤ q := fun q hq => Nat.le_trans hb0 hq.1
  obtain ⟨t2, a1, b1⟩ := kk r A1 T'.heap (locs ++ L') hz1 hk (by rw [e1]; exact hH1) hA1 (fun q h1 h2 => by rw [e1]; exact hkp q h1 h2)
    ⟨Nat.le_trans hS.1 (by rw [e1]; exact hsz), fun q h1 h2 => by rw [e1, hkp q (Nat.lt_of_lt_of_le h1 hS.1) (fun z => h2 (sub q z))]; exact hS.2.1 q h1 h2, fun q hq => by
      rcases List.mem_append.mp hq with h | h
      · exact hS.2.2 q h
      · exact sub _ (hL q h)⟩ T' rfl X'
  refine ⟨t2, st' t2 ?_, b1⟩
  cases r with
  | none => exact a1
  | some x => exact a1
theorem y_callC {M' : ZM} {idx n : Nat} {As : List AV} {K : Option AV → AH → Prop} (X : LX p s m meth c b L xs G1 G2) (hd : decode code pc = .ok (.invokevirtual idx, 3)) (hv : ZV R_law idx M' n) (hcl : "DiscCutter" = M'.1.cls) (hcat : (st.map fun v => v.category).sum ≤ 8) (hlen : (zflat (vr (some 0) :: As)).length ≤ M'.2.2.1) (hz : zin As) (hn : As.length = n)
    (k : Z G1 M' 40 0 0 0 (zent (vr (some 0) :: As) M'.2.2.1) [] (mkC iv rv) K) (hK : ∀ r A, K r A → ∃ iv1 rv1, A = mkC iv1 rv1)
    (kk : ∀ r iv1 rv1, K r (mkC iv1 rv1) → Lw p l e s m below meth c b G1 G2 i (pc + 3) (r.toList.map (cv G1) ++ st) iv1 rv1 mv) : Lw p l e s m below meth c b G1 G2 i pc ((As.map (cv G1)).reverse ++ .ref G1.1 :: st) iv rv mv := by
  intro H locs ls h1 h2 hS hl
  refine y_call (ci := 11) X.1 X.2.1.1 hd hv rfl (by decide) hcl (by rw [X.2.2.1]; exact Nat.le_refl _) hn hcat hlen hz ⟨by decide, by decide⟩ h1 hS hl k (fun r A1 H1 locs1 hz1 hk hH1 hA1 hkp hS1 => ?_)
  obtain ⟨iv1, rv1, rfl⟩ := hK r A1 hk
  refine kk r iv1 rv1 hk H1 locs1 ls hH1 (Hp_kept h2 rfl (fun q q0 q1 q2 => hkp q q0 (fun z => ?_))) hS1 hl
  have := X.2.2.1
  have := X.2.2.2
  rcases z.2 with z2 | z2
  · cases z2
  · have z3 : q < G1.1 + 183 := z2
    omega
theorem y_callM {M' : ZM} {idx n : Nat} {As : List AV} {K : Option AV → AH → Prop} (X : LX p s m meth c b L xs G1 G2) (hd : decode code pc = .ok (.invokevirtual idx, 3)) (hv : ZV R_law idx M' n) (hcl : "DiscCutterModel" = M'.1.cls) (hcat : (st.map fun v => v.category).sum ≤ 8) (hlen : (zflat (vr (some 0) :: As)).length ≤ M'.2.2.1) (hz : zin As) (hn : As.length = n)
    (k : Z G2 M' 40 0 0 0 (zent (vr (some 0) :: As) M'.2.2.1) [] (mkM mv) K) (hK : ∀ r A, K r A → ∃ mv1, A = mkM mv1)
    (kk : ∀ r mv1, K r (mkM mv1) → Lw p l e s m below meth c b G1 G2 i (pc + 3) (r.toList.map (cv G2) ++ st) iv rv mv1) : Lw p l e s m below meth c b G1 G2 i pc ((As.map (cv G2)).reverse ++ .ref G2.1 :: st) iv rv mv := by
  intro H locs ls h1 h2 hS hl
  refine y_call (ci := 12) X.1 X.2.1.2 hd hv rfl (by decide) hcl (by rw [X.2.2.2]; omega) hn hcat hlen hz ⟨by decide, by decide⟩ h2 hS hl k (fun r A1 H1 locs1 hz1 hk hH1 hA1 hkp hS1 => ?_)
  obtain ⟨mv1, rfl⟩ := hK r A1 hk
  refine kk r mv1 hk H1 locs1 ls (Hp_kept h1 rfl (fun q q0 q1 q2 => hkp q q0 (fun z => ?_))) hH1 hS1 hl
  have := X.2.2.1
  have := X.2.2.2
  have z1 := z.1
  have q2 : q < G1.1 + 183 := q2
  omega
end LAW
theorem QC_c {G : ZG} {M : ZM} {L : List AV} {m : Nat → Nat → Int} {B : Int} {r : Option AV} {A : AH} (h : QC G M L m B r A) : ∃ iv rv, A = mkC iv rv := by
  obtain ⟨a, b, h, -⟩ := h; exact ⟨a, b, h⟩
theorem QCL_c {G : ZG} {M : ZM} {L : List AV} {m : Nat → Nat → Int} {B : Int} {r : Option AV} {A : AH} (h : QCL G M L m B r A) : ∃ iv rv, A = mkC iv rv := by
  obtain ⟨a, b, h, -⟩ := h; exact ⟨a, b, h⟩
theorem QM_m {c : Nat → Nat → Int} {rv : Nat → Nat → Option Nat} {B : Int} {r r' : Option AV} {A : AH} (h : QM r c rv B r' A) : ∃ m, A = mkM m := by
  obtain ⟨-, a, h, -⟩ := h; exact ⟨a, h⟩
theorem QML_m {c : Nat → Nat → Int} {rv : Nat → Nat → Option Nat} {B : Int} {r r' : Option AV} {A : AH} (h : QML r c rv B r' A) : ∃ m, A = mkM m := by
  obtain ⟨-, a, h, -⟩ := h; exact ⟨a, h⟩
theorem mkC_inj {c c' : Nat → Nat → Int} {rv rv' : Nat → Nat → Option Nat} (h : mkC c rv = mkC c' rv') : c = c' ∧ rv = rv' := by
  have a : (mkC c rv).2.1 = (mkC c' rv').2.1 := by rw [h]
  have b : (mkC c rv).2.2.1 = (mkC c' rv').2.2.1 := by rw [h]
  exact ⟨a, b⟩
theorem mkM_inj {c c' : Nat → Nat → Int} (h : mkM c = mkM c') : c = c' := by
  have a : (mkM c).2.1 = (mkM c').2.1 := by rw [h]
  exact a
theorem QM_x {c m : Nat → Nat → Int} {rv : Nat → Nat → Option Nat} {B : Int} {r r' : Option AV} (h : QM r c rv B r' (mkM m)) : ∃ x, r = some (vi x) ∧ r' = some (vi x) ∧ RL B c rv m := by
  obtain ⟨h1, m', h2, h3⟩ := h
  rw [mkM_inj h2]
  match r, h1 with
  | some (.inl x), h1 => exact ⟨x, rfl, Option.some.inj h1, h3⟩
theorem QML_x {c m : Nat → Nat → Int} {rv : Nat → Nat → Option Nat} {B : Int} {r r' : Option AV} (h : QML r c rv B r' (mkM m)) : ∃ x, r = some (vl x) ∧ r' = some (vl x) ∧ RL B c rv m := by
  obtain ⟨h1, m', h2, h3⟩ := h
  rw [mkM_inj h2]
  match r, h1 with
  | some (.inr (.inl x)), h1 => exact ⟨x, rfl, Option.some.inj h1, h3⟩
theorem rcat {G : ZG} (r : Option AV) : ((r.toList.map (cv G) ++ []).map fun v : Value => v.category).sum ≤ 8 := by
  have h : ∀ v : Value, v.category ≤ 2 := fun v => by cases v <;> exact Nat.le_of_ble_eq_true rfl
  cases r with
  | none => exact Nat.zero_le _
  | some x =>
    have := h (cv G x)
    show (cv G x).category + 0 ≤ 8
    omega

