/-! ===== the law's start: two new objects ===== -/
section LMK
variable {p : Program} {l : Launch} {e : Env} {s : State} {m : MethodId} {below : List Frame} {meth : Method} {c : Code} {b L : Nat} {xs : Nat → Int32} {pc : Nat} {st : List Value}
theorem zro_0 {n : Nat} : zro n (fun _ _ => 0) (fun _ _ => none) := fun _ _ _ => ⟨rfl, rfl⟩
theorem y_new {G : ZG} {S : List ZS} {idx ci cells slots : Nat} {Q : State → Prop} {H : Heap} {locs : List Loc} {ls : Array Slot} (C : lw_At p s m meth c b L xs) (hG : Cx G s s.heap) (hs0 : S[0]? = some (.inl ci)) (hd : decode code pc = .ok (.new idx, 3)) (hci : ci < 13) (h1 : Cond.classLink R_law idx (zR ci) ∈ zw) (h2 : Cond.instantiable (zR ci) (zN ci) ∈ zw) (h3 : Cond.initialized (zR ci) ∈ zw) (hsz : H.size = G.1) (hcell : cells + 1 ≤ 600000 ∧ slots + zN ci ≤ 7302250) (hS : va_S (fun q : Nat => s.heap.size ≤ q) s.heap H locs)
    (kk : ∀ H1 : Heap, H1.size = H.size + 1 → (∀ q : Nat, q < H.size → H1[q]? = H[q]?) → Hp G (ow S 1 (fun _ _ => 0) (fun _ _ => none)) H1 → va_S (fun q : Nat => s.heap.size ≤ q) s.heap H1 locs → W p l e room_1 s m #[Value.ref b] below meth c H1 locs (cells + 1) (slots + zN ci) Q (F0 m (pc + 3) ls (.ref G.1 :: st))) : W p l e room_1 s m #[Value.ref b] below meth c H locs cells slots Q (F0 m pc ls st) := by
  have hts := lw_zw C
  have hKn := hG.1.1 ci _ (zk_cl hci)
  have hH : Hp G (ow S 0 (fun _ _ => 0) (fun _ _ => none)) H := by
    refine ⟨fun k q hq => ?_, fun id k => ?_, fun _ => ?_, Nat.zero_le _⟩
    · have e0 : zws G (ow S 0 (fun _ _ => 0) (fun _ _ => none)) = [] := rfl
      rw [e0] at hq
      cases hq
    · show zr (zc (ow S 0 (fun _ _ => 0) (fun _ _ => none)) id k) 0
      have e0 : zc (ow S 0 (fun _ _ => 0) (fun _ _ => none)) id k = 5 := rfl
      rw [e0]
      trivial
    · exact hsz
  refine W.newcK C.1 C.2.1 C.2.2.2.2.1 (hts _ h1) (hts _ h2) (hts _ h3) rfl hd hcell.1 hcell.2 hKn.2.1 hsz fun H1 kC hkC q1 z1 o1 => ?_
  have o1 : ∀ q : Nat, q < H.size → H1[q]? = H[q]? := fun q hq => o1 q (by omega)
  have z1 : H1.size = H.size + 1 := by omega
  have hat : va_at G.2.1 vwCl (G.1 + 0, ze G (hnew (ow S 0 (fun _ _ => 0) (fun _ _ => none)) (.inl ci)) (.inl ci) 0) H1 := by
    refine ⟨_, zk_cl hci, (u_born (zty ci) hts (zk_in hci) hKn hkC q1 (zk_ty hci)).to (fun j hj => ?_)⟩
    show defaultValue (zty ci j) = vp_V (zfs G (hnew (ow S 0 (fun _ _ => 0) (fun _ _ => none)) (.inl ci)) ci 0) j
    unfold vp_V
    rw [List.getD_eq_getElem?_getD, zfs_get hj, ow_new hs0 zro_0]
    exact fv_def (ft_all hci j)
  have hN := hnew_hp (A0 := ow S 0 (fun _ _ => 0) (fun _ _ => none)) hH rfl (Nat.le_of_ble_eq_true rfl) z1 o1 hat
  rw [ow_new hs0 zro_0] at hN
  exact kk H1 z1 o1 hN ⟨Nat.le_trans hS.1 (by omega), fun q h1 h2 => (o1 q (Nat.lt_of_lt_of_le h1 hS.1)).trans (hS.2.1 q h1 h2), hS.2.2⟩
theorem y_init {G : ZG} {A A1 : AH} {M' : ZM} {idx ci cells slots mc ms : Nat} {Q : State → Prop} {lv : List (Nat × Value)} {H : Heap} {locs : List Loc} {ls : Array Slot} (C : lw_At p s m meth c b L xs) (hG : Cx G s s.heap) (hd : decode code pc = .ok (.invokespecial idx, 3)) (hv : ZI R_law idx M' 0) (ho : A.1[0]? = some (.inl ci)) (hb0 : s.heap.size ≤ G.1) (hcat : (st.map fun v => v.category).sum ≤ 8) (hlen : (zflat [vr (some 0)]).length ≤ M'.2.2.1) (hcell : cells + mc ≤ 600000 ∧ slots + ms ≤ 7302250) (hH : Hp G A H) (hS : va_S (fun q : Nat => s.heap.size ≤ q) s.heap H locs) (hl : lv_has ls 4 lv)
    (k : Z G M' 40 mc ms 0 (zent [vr (some 0)] M'.2.2.1) [] A (fun r A' => r = none ∧ A' = A1))
    (kk : ∀ (H1 : Heap) (locs1 : List Loc), Hp G A1 H1 → (∀ q : Nat, q < H.size → ¬ G.1 ≤ q → H1[q]? = H[q]?) → va_S (fun q : Nat => s.heap.size ≤ q) s.heap H1 locs1 → W p l e room_1 s m #[Value.ref b] below meth c H1 locs1 (cells + mc) (slots + ms) Q (F0 m (pc + 3) ls st)) : W p l e room_1 s m #[Value.ref b] below meth c H locs cells slots Q (F0 m pc ls (.ref G.1 :: st)) := by
  have hts := lw_zw C
  have hM := Z.met l hv.1 hlen k
  have ha : adr G 0 = G.1 := by have := adr_of hH ho; omega
  have hr := va_runI (l := l) (e := e) (R := room_1) (below := below) (meth := meth) (H := H) (locs := locs) (cells := cells) (slots := slots) (g := F0 m pc ls (.ref G.1 :: st)) (As := []) (b := G.1) (rest := st) (p := p) (m := m) (c := c) (s := s) (args := #[Value.ref b]) (nL := 4) (Ts := zw) (own := R_law) ⟨C.1, C.2.1, C.2.2.2.1, C.2.2.2.2.1, hts⟩ hM ⟨callB_of (Ts := zw) (ws' := zw) (ret := none) 0 hts (zgood hv.1) (by rw [hv.2.2.2.2]) rfl rfl (hts _ hv.1.2.1) (hts _ hv.2.1) hv.1.2.2.2.1 ⟨Nat.le_of_ble_eq_true rfl, by have := hv.1.2.2.2.2; show _ + _ + (100 * 40 + 100) ≤ 84000; omega⟩, hv.2.2.2.1, hts _ hv.2.2.1⟩ ⟨ZP_blind, fun U hU hW => ⟨by rw [← ha]; rfl, zin_cons.mpr ⟨trivial, zin_nil⟩, by rw [hU]; exact (hG.kept (fun a ha _ => hS.2.1 a ha (Nat.not_le.mpr ha))).warm hW, by rw [hU]; exact hH⟩⟩ rfl rfl hl.1 rfl (lv_room hcat) hd hcell
  intro T hT X
  obtain ⟨v, st₀, t, T', L', h0, X', hL, e1, e2, ⟨⟨r, A2, hv', hz1, ⟨rfl, rfl⟩, hH1, hA1⟩, hsz, hkp⟩, st'⟩ := hr T hT X
  cases hv'
  rw [h0] at hsz hkp
  have sub : ∀ q, zA G A q → s.heap.size ≤ q := fun q hq => Nat.le_trans hb0 hq.1
  obtain ⟨t2, a1, b1⟩ := kk T'.heap (locs ++ L') (by rw [e1]; exact hH1) (fun q h1 h2 => by rw [e1]; exact hkp q h1 (fun z => h2 z.1))
    ⟨Nat.le_trans hS.1 (by rw [e1]; exact hsz), fun q h1 h2 => by rw [e1, hkp q (Nat.lt_of_lt_of_le h1 hS.1) (fun z => h2 (sub q z))]; exact hS.2.1 q h1 h2, fun q hq => by
      rcases List.mem_append.mp hq with h | h
      · exact hS.2.2 q h
      · exact sub _ (hL q h)⟩ T' rfl X'
  exact ⟨t2, st' t2 a1, b1⟩
end LMK
set_option maxRecDepth 100000 in
set_option maxHeartbeats 4000000 in
theorem whole_start {p : Program} {e : Env} {s : State} {m : MethodId} {below : List Frame} {meth : Method} {c : Code} (l : Launch) {b L : Nat} {xs : Nat → Int32} (hL : L ≤ 3072) (C0 : lw_At p s m meth c b L xs) : W p l e room_1 s m #[Value.ref b] below meth c s.heap [] 0 0 (lw_Z below #[Value.ref b] s) (entryFrame m ([Value.ref b] : List Value).toArray 4) := by
  obtain ⟨hx, hb, hr, hml, hown, hts, hX, hbl, hlocks, hgv⟩ := id C0
  obtain ⟨D, ca, ad, hCx⟩ := Cx_start C0
  obtain ⟨G1, eG1⟩ : ∃ G1 : ZG, G1 = (s.heap.size, D, ca, ad) := ⟨_, rfl⟩
  obtain ⟨G2, eG2⟩ : ∃ G2 : ZG, G2 = (s.heap.size + 183, D, ca, ad) := ⟨_, rfl⟩
  have b1 : G1.1 = s.heap.size := by rw [eG1]
  have b2 : G2.1 = s.heap.size + 183 := by rw [eG2]
  have c1 : Cx G1 s s.heap := by rw [eG1]; exact hCx _ (Nat.le_refl _)
  have c2 : Cx G2 s s.heap := by rw [eG2]; exact hCx _ (by omega)
  have X : LX p s m meth c b L xs G1 G2 := ⟨C0, ⟨c1, c2⟩, b1, b2⟩
  have hS : va_S (fun q : Nat => s.heap.size ≤ q) s.heap s.heap [] := va_S.rf
  have hl := lv_entry ([.ref b]) (n := 4) (Nat.le_of_ble_eq_true rfl)
  rw [lg_entry_eq]
  generalize (lg_sl ([.ref b]) ++ List.replicate (4 - (lg_sl ([.ref b])).length) Slot.unset).toArray = ls at hl ⊢
  have hl : lv_has ls 4 [(0, .ref b)] := hl
  refine y_new (G := G1) (S := ShC) (ci := 11) C0 c1 rfl (dL 0) (by decide) lkL_7 ins_X11 ini_X11 b1.symm ⟨by decide, by decide⟩ hS (fun H1 z1 o1 hH1 hS => ?_)
  refine lv_dup hx hb (dL 1) rfl ?_
  refine y_init (G := G1) (A1 := ow ShC 183 c0 rv0) (ci := 11) (mc := 182) (ms := 11060) C0 c1 (dL 2) lkL_9 rfl (by omega) (Nat.le_of_ble_eq_true rfl) (Nat.le_of_ble_eq_true rfl) ⟨by decide, by decide⟩ hH1 hS hl (iX11 (d := 38) zro_0 ⟨rfl, rfl⟩) (fun H2 locs2 hH2 hk2 hS => ?_)
  have s2 : H2.size = G1.1 + 183 := hH2.2.2.1 rfl
  have hC := Hp_C hH2
  refine lv_astore_n (lv' := [(1, .ref G1.1), (0, .ref b)]) hx hb (dL 3) rfl hl (by decide) rfl (fun ls hl => ?_)
  refine y_new (G := G2) (S := ShM) (ci := 12) C0 c2 rfl (dL 4) (by decide) lkL_10 ins_X12 ini_X12 (by omega) ⟨by decide, by decide⟩ hS (fun H3 z3 o3 hH3 hS => ?_)
  have hC := Hp_kept hC rfl (fun q q0 _ _ => o3 q q0)
  refine lv_dup hx hb (dL 5) rfl ?_
  refine y_init (G := G2) (A1 := ow ShM 55 m0 rvm0) (ci := 12) (mc := 54) (ms := 74512) C0 c2 (dL 6) lkL_12 rfl (by omega) (Nat.le_of_ble_eq_true rfl) (Nat.le_of_ble_eq_true rfl) ⟨by decide, by decide⟩ hH3 hS hl (iX12 (d := 40) zro_0 ⟨rfl, rfl⟩) (fun H4 locs4 hH4 hk4 hS => ?_)
  have hM := Hp_M hH4
  have hC := Hp_kept hC rfl (fun q q0 _ q2 => hk4 q q0 (by have q2 : q < G1.1 + 183 := q2; omega))
  refine lv_astore_n (lv' := [(2, .ref G2.1), (1, .ref G1.1), (0, .ref b)]) hx hb (dL 7) rfl hl (by decide) rfl (fun ls hl => ?_)
  refine lv_iconst (v := 0) hx hb (dL 8) (by decide) ?_
  refine lv_istore_n (lv' := [(3, .int 0), (2, .ref G2.1), (1, .ref G1.1), (0, .ref b)]) hx hb (dL 9) rfl hl (by decide) rfl (fun ls hl => ?_)
  exact law_loop hL X (L + 1) 0 (by omega) (by omega) c0 rv0 m0 RL_0 H4 locs4 ls hC hM hS (lv_sub hl [3, 2, 1, 0] rfl)

