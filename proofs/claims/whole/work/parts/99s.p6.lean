/-! ===== the public methods: the order ===== -/
theorem RL_or {B : Int} {c v m : Nat → Nat → Int} {rv : Nat → Nat → Option Nat} (h : RL B c rv m) (f : OrF c v) (h3 : v 30 3 = c 10 3) (hb : bestOk v) : RL B v rv m := by
  obtain ⟨a0, a1, a2, a3, a4, a5, a6, a7, a8, a9, a10, a11, a12, a13⟩ := h
  have hc : ∀ i j, i ≠ 31 ∧ i ≠ 30 → v i j = c i j := fun i j q => f i j (by omega) (by omega)
  have hm : ∀ i j, True → m i j = m i j := fun _ _ _ => rfl
  refine ⟨a0, by rw [hc 0 17 (by omega)]; exact a1, RT_f a2 (fun i j q => hc i j (by omega)) (fun i j q => rfl), RS_f a3 (fun i j q => hc i j (by omega)) (fun i j q => rfl), RR_f a4 (fun j => hc _ _ (by omega)) rfl rfl, RP_f a5 (fun i j q => hc i j (by omega)) (fun i j q => rfl), RSd_f a6 (fun i j q => hc i j (by omega)) (fun i j q => rfl), RB_f a7 (fun i j q => hc i j (by omega)), ?_, RK_f a9 (fun i j q => hc i j (by omega)) (fun i j q => rfl), RN_f a10 (fun i j q => hc i j (by omega)) (fun i j q => rfl), RF_f a11 (fun i j q => hc i j (by omega)) (fun i j q => rfl), RG_f a12 (fun i j q => hc i j (by omega)) (fun j q => rfl), RH_f a13 (fun i j q => hc i j (by omega)) (fun i j q => rfl)⟩
  exact ⟨by rw [h3, hc 10 3 (by omega)]; omega, fun _ => hb⟩
theorem sgsR {B : Int} {c m : Nat → Nat → Int} {rv : Nat → Nat → Option Nat} (h : RL B c rv m) : sgsOk c ∧ mgsOk m := by
  have a3 := h.2.2.2.1
  have n := a3.1
  refine ⟨⟨by omega, fun s s0 s1 => ?_⟩, ⟨n.2, fun s s0 s1 => ?_⟩⟩
  · have a := a3.2.1 s s0 (by omega)
    have b := a3.2.2 s s0 (by omega)
    refine ⟨by omega, by omega, by omega⟩
  · have a := a3.2.1 s s0 (by omega)
    have b := a3.2.2 s s0 s1
    exact ⟨by omega, by omega, b.2.1⟩
theorem fndR {B : Int} {c m : Nat → Nat → Int} {rv : Nat → Nat → Option Nat} (h : RL B c rv m) : c 10 3 = c 30 3 → c 0 16 = c 30 4 → bestOk c := fun e _ => h.2.2.2.2.2.2.2.2.1.2 e
/-- the best order is alike -/
theorem bst_eq {B : Int} {c v m : Nat → Nat → Int} {rv : Nat → Nat → Option Nat} (h : RL B c rv m) (f : OrF c v) (h3 : v 30 3 = c 10 3) (h4 : v 30 4 = c 0 16) (hb : bestOk v) : (v 30 2, v 30 1) = bst (lossM m) (zshl 1 (m 0 4)).toNat ∧ v 12 = m 4 ∧ v 13 = m 5 ∧ v 30 3 = m 0 4 := by
  have a5 := h.2.2.2.2.2.1
  have n := h.2.2.2.1.1
  have e12 : v 12 = m 4 := (f.row (by decide) (by decide)).trans a5.2.1
  have e13 : v 13 = m 5 := (f.row (by decide) (by decide)).trans a5.2.2
  have e3 : v 30 3 = m 0 4 := h3.trans n.1
  have e4 : v 30 4 = m 0 7 := h4.trans a5.1.1
  refine ⟨?_, e12, e13, e3⟩
  have q := hb.2
  unfold lossC at q
  rw [e12, e13, e3, e4] at q
  exact q
theorem mo_mS {m w : Nat → Nat → Int} (h : MoF m w) : ∀ i j, ¬ mS i j → w i j = m i j := fun i j q => by unfold mS at q; exact h i j (by omega) (by omega)
theorem P_order {G G' : ZG} {c m : Nat → Nat → Int} {rv : Nat → Nat → Option Nat} {B : Int} (h : RL B c rv m) (hB : 0 ≤ B ∧ B ≤ 10000000) : Z G mX11_order 40 0 0 0 [vr (some 0)] [] (mkC c rv) (QC G' mX12_order [vr (some 0)] m (B + 1000)) := by
  have so := sgsR h
  apply sX11_order_0 h.1
  refine ⟨so.1, fndR h, fun v q => ?_⟩
  obtain ⟨q1, q2, q3, q4⟩ := q
  have r := RL_or h q1 q2 q4
  obtain ⟨be, -, -, -⟩ := bst_eq h q1 q2 q3 q4
  have b1 : v 30 2 = (bst (lossM m) (zshl 1 (m 0 4)).toNat).1 := by rw [← be]
  refine ⟨fun n => ⟨_, rv, rfl, sX12_order_0 ⟨so.2, fun w hw => ⟨fun e => ?_, fun e => ?_⟩⟩⟩, fun n => ⟨_, rv, rfl, sX12_order_0 ⟨so.2, fun w hw => ⟨fun e => ?_, fun e => ?_⟩⟩⟩⟩
  all_goals have e25 := hw.2.1
  · rw [e25, ← b1] at e; exact absurd n e
  · rw [e25, ← b1]; exact QM_v r (mo_mS hw.1)
  · exact QM_v r (mo_mS hw.1)
  · rw [e25, ← b1] at e; exact absurd e n
theorem P_sideOf {G G' : ZG} {c m : Nat → Nat → Int} {rv : Nat → Nat → Option Nat} {B : Int} {x1 : Int} (h : RL B c rv m) (hB : 0 ≤ B ∧ B ≤ 10000000) (hx1 : -2147483648 ≤ x1 ∧ x1 ≤ 2147483647) : Z G mX11_sideOf 40 0 0 0 [vr (some 0), vi x1] [] (mkC c rv) (QC G' mX12_sideOf [vr (some 0), vi x1, vu] m (B + 1000)) := by
  have so := sgsR h
  have n10 := h.2.2.2.1.1
  apply sX11_sideOf_0 h.1
  rw [n10.1]
  refine ⟨by omega, fun p => ⟨so.1, by have := fndR h; rw [n10.1] at this; exact this, fun v q => ?_⟩, fun p => ⟨_, rv, rfl, sX12_sideOf_0 ⟨fun e => absurd e p, fun _ => QM_u h⟩⟩⟩
  obtain ⟨q1, q2, q3, q4⟩ := q
  rw [← n10.1] at q2
  have r := RL_or h q1 q2 q4
  obtain ⟨be, -, -, e3⟩ := bst_eq h q1 q2 q3 q4
  have b1 : v 30 2 = (bst (lossM m) (zshl 1 (m 0 4)).toNat).1 := by rw [← be]
  have b2 : v 30 1 = (bst (lossM m) (zshl 1 (m 0 4)).toNat).2 := by rw [← be]
  rw [e3]
  refine ⟨fun n => ⟨by omega, by omega, _, rv, rfl, sX12_sideOf_0 ⟨fun _ => ⟨so.2, fun w hw => ⟨fun e => ?_, fun e => ?_⟩⟩, fun e => absurd p e⟩⟩, fun n => ⟨_, rv, rfl, sX12_sideOf_0 ⟨fun _ => ⟨so.2, fun w hw => ⟨fun e => ?_, fun e => ?_⟩⟩, fun e => absurd p e⟩⟩⟩
  all_goals have e25 := hw.2.1
  · have rb := hw.2.2 (by rw [← b1]; exact n) 0 (Or.inl rfl)
    rw [← b2] at rb
    have len : (w 19 0).toNat ≤ 10 := by
      have := rl_len (f := fun i => w 18 (10 * 0 + i).toNat) (w 19 0).toNat
      have l2 := srt_len (A := ahd (fun i => m 5 i.toNat) (fun i => m 4 i.toNat)) (p := pS (m 0 4) (v 30 1) 0) (m 0 4).toNat
      have e := rb.2
      unfold srtH at e
      rw [show (0 : Int).toNat = 0 from rfl] at e
      rw [e] at this
      omega
    have mem : (∃ i : Int, 0 ≤ i ∧ i < w 19 0 ∧ w 18 i.toNat = x1) ↔ sdIn (m 0 4) (v 30 1) x1 = 0 := by
      have a := rl_mem (f := fun i => w 18 (10 * 0 + i).toNat) (x := x1) (w 19 0).toNat
      have e := rb.2
      unfold srtH at e
      rw [show (0 : Int).toNat = 0 from rfl] at e
      rw [e, srt_mem] at a
      have c0 := rb.1
      rw [show (0 : Int).toNat = 0 from rfl] at c0
      constructor
      · rintro ⟨i, i0, i1, i2⟩
        have := a.mpr ⟨i, i0, by omega, by rw [show 10 * 0 + i = i by omega]; exact i2⟩
        have := this.2
        unfold pS at this
        exact of_decide_eq_true this
      · intro z
        obtain ⟨i, i0, i1, i2⟩ := a.mp ⟨by omega, by unfold pS; exact decide_eq_true z⟩
        rw [show 10 * 0 + i = i by omega] at i2
        exact ⟨i, i0, by omega, i2⟩
    have c0 := rb.1
    rw [show (0 : Int).toNat = 0 from rfl] at c0
    refine M_sideOfL (by omega) (fun z => ?_) (fun z => ?_)
    · rw [mem.mp z]; exact QM_v r (mo_mS hw.1)
    · have : sdIn (m 0 4) (v 30 1) x1 = 1 := by
        rcases sdIn_01 (m 0 4) (v 30 1) x1 with y | y
        · obtain ⟨i, i0, i1, i2⟩ := mem.mpr y
          exact absurd i2 (z i i0 i1)
        · exact y
      rw [this]; exact QM_v r (mo_mS hw.1)
  · rw [e25, ← b1] at e; exact absurd n e
  · rw [e25, ← b1] at e; exact absurd e n
  · exact QM_v r (mo_mS hw.1)
theorem seqAt_rl {f : Int → Int} {n : Nat} {k : Int} (h0 : 0 ≤ k) (h1 : k < n) : seqAt (rl f n) k = f k := by
  have := seqAt_hit (f := f) (p := fun _ => true) h0 h1 rfl
  rw [List.filter_eq_self.mpr (fun _ _ => rfl), List.filter_eq_self.mpr (fun _ _ => rfl), rl_len] at this
  rw [show ((k.toNat : Nat) : Int) = k by omega] at this
  exact this
theorem P_songAt {G G' : ZG} {c m : Nat → Nat → Int} {rv : Nat → Nat → Option Nat} {B : Int} {x1 x2 : Int} (h : RL B c rv m) (hB : 0 ≤ B ∧ B ≤ 10000000) (hx1 : -2147483648 ≤ x1 ∧ x1 ≤ 2147483647) (hx2 : -2147483648 ≤ x2 ∧ x2 ≤ 2147483647) : Z G mX11_songAt 40 0 0 0 [vr (some 0), vi x1, vi x2] [] (mkC c rv) (QC G' mX12_songAt [vr (some 0), vi x1, vi x2] m (B + 1000)) := by
  have so := sgsR h
  have n10 := h.2.2.2.1.1
  apply sX11_songAt_0 h.1
  refine ⟨fun p => ⟨so.1, fndR h, fun v q => ?_⟩, fun p => ⟨_, rv, rfl, sX12_songAt_0 ⟨fun e => absurd e p, fun _ => QM_u h⟩⟩⟩
  obtain ⟨q1, q2, q3, q4⟩ := q
  have r := RL_or h q1 q2 q4
  obtain ⟨be, e12, e13, e3⟩ := bst_eq h q1 q2 q3 q4
  have b1 : v 30 2 = (bst (lossM m) (zshl 1 (m 0 4)).toNat).1 := by rw [← be]
  have b2 : v 30 1 = (bst (lossM m) (zshl 1 (m 0 4)).toNat).2 := by rw [← be]
  rw [q4.row]
  refine ⟨fun n => ⟨by omega, fun i i0 i1 => by have := q4.mem i0 i1; omega, _, rv, rfl, sX12_songAt_0 ⟨fun _ => ⟨so.2, fun w hw => ⟨fun e => ?_, fun e => ?_⟩⟩, fun e => absurd p e⟩⟩, fun n => ⟨_, rv, rfl, sX12_songAt_0 ⟨fun _ => ⟨so.2, fun w hw => ⟨fun e => ?_, fun e => ?_⟩⟩, fun e => absurd p e⟩⟩⟩
  all_goals have e25 := hw.2.1
  · have rb := hw.2.2 (by rw [← b1]; exact n) x1 (by omega)
    rw [← b2] at rb
    rw [e12, e13, e3]
    have c0 := rb.1
    have ln : (w 19 x1.toNat).toNat ≤ 10 := by
      have a := rl_len (f := fun i => w 18 (10 * x1 + i).toNat) (w 19 x1.toNat).toNat
      have l2 := srt_len (A := ahd (fun i => m 5 i.toNat) (fun i => m 4 i.toNat)) (p := pS (m 0 4) (v 30 1) x1) (m 0 4).toNat
      have e := rb.2
      unfold srtH at e
      rw [e] at a
      omega
    have mm : ∀ k : Int, 0 ≤ k → k < w 19 x1.toNat → 0 ≤ w 18 (10 * x1 + k).toNat := fun k k0 k1 => by
      have a := (rl_mem (f := fun i => w 18 (10 * x1 + i).toNat) (x := w 18 (10 * x1 + k).toNat) (w 19 x1.toNat).toNat).mpr ⟨k, k0, by omega, rfl⟩
      have e := rb.2
      unfold srtH at e
      rw [e, srt_mem] at a
      exact a.1.1
    rw [← rb.2]
    refine ⟨fun y => ?_, fun y => ⟨by omega, fun z => ⟨by omega, by omega, by omega, ?_⟩, fun z => ?_⟩⟩
    · rw [seqAt_off (Or.inl y), if_pos rfl]; exact QM_v r (mo_mS hw.1)
    · rw [seqAt_rl y (by omega), if_neg (by have := mm x2 y z; omega)]; exact QM_v r (mo_mS hw.1)
    · rw [seqAt_off (Or.inr (by rw [rl_len]; omega)), if_pos rfl]; exact QM_v r (mo_mS hw.1)
  · rw [e25, ← b1] at e; exact absurd n e
  · rw [e25, ← b1] at e; exact absurd e n
  · exact QM_v r (mo_mS hw.1)
theorem catL_c {lv lv' l : Int → Int} : ∀ L : List Int, (∀ x ∈ L, ∀ k : Int, 0 ≤ k → k < l x → lv (60 * x + k) = lv' (60 * x + k) ∧ (0 ≤ lv' (60 * x + k) ∧ lv' (60 * x + k) ≤ 40)) → ∀ p : Int, 0 ≤ p → p < lenL l L → catL lv l L p = catL lv' l L p ∧ (0 ≤ catL lv' l L p ∧ catL lv' l L p ≤ 40)
  | [], _, p, p0, p1 => by unfold lenL at p1; omega
  | x :: L, h, p, p0, p1 => by
    unfold lenL at p1
    unfold catL
    by_cases g : p < lenL l L
    · rw [if_pos g, if_pos g]
      exact catL_c L (fun y hy => h y (List.mem_cons_of_mem _ hy)) p p0 g
    · rw [if_neg g, if_neg g]
      exact h x List.mem_cons_self (p - lenL l L) (by omega) (by omega)
theorem RD_press {u y : Nat → Nat → Int} {s : Int} {lv lv' l : Int → Int} {L : List Int} (h : sdHas u (sdA s) lv l L) (h' : sdHasM y s lv' l L) (h10 : y 10 s.toNat = -1) (hl : 0 ≤ lenL l L ∧ lenL l L ≤ 400) (hx : ∀ x ∈ L, ∀ k : Int, 0 ≤ k → k < l x → lv (60 * x + k) = lv' (60 * x + k) ∧ (0 ≤ lv' (60 * x + k) ∧ lv' (60 * x + k) ≤ 40)) : RD u y s := by
  obtain ⟨a1, a2, a3⟩ := h
  obtain ⟨b1, b2⟩ := h'
  refine ⟨by rw [a1, b1], by rw [b1]; exact hl, by rw [a2, h10], Or.inl h10, fun k k0 k1 => ?_⟩
  rw [b1] at k1
  have e := catL_c L hx k k0 k1
  rw [(a3 k k0 k1).1, (a3 k k0 k1).2, (b2 k k0 k1).1, (b2 k k0 k1).2]
  exact ⟨⟨e.1, rfl⟩, e.2⟩
theorem P_press {G G' : ZG} {c m : Nat → Nat → Int} {rv : Nat → Nat → Option Nat} {B : Int} (h : RL B c rv m) (hB : 0 ≤ B ∧ B ≤ 10000000) : Z G mX11_press 40 0 0 0 [vr (some 0), vu, vu] [] (mkC c rv) (QC G' mX12_press [vr (some 0), vu, vu, vu, vu] m (B + 1000)) := by
  have so := sgsR h
  apply sX11_press_0 h.1
  refine ⟨so.1, fndR h, fun v q => ?_⟩
  obtain ⟨q1, q2, q3, q4⟩ := q
  have r := RL_or h q1 q2 q4
  obtain ⟨be, e12, e13, e3⟩ := bst_eq h q1 q2 q3 q4
  have b1 : v 30 2 = (bst (lossM m) (zshl 1 (m 0 4)).toNat).1 := by rw [← be]
  have b2 : v 30 1 = (bst (lossM m) (zshl 1 (m 0 4)).toNat).2 := by rw [← be]
  obtain ⟨a0, a1, a2, a3, a4, a5, a6, a7, a8, a9, a10, a11, a12, a13⟩ := id r
  have n10 := a3.1
  have p5 := a5.1
  have v4 : v 30 4 = m 0 7 := by rw [q3]; exact h.2.2.2.2.2.1.1.1
  refine ⟨fun n => ?_, fun n => ⟨_, rv, rfl, sX12_press_0 ⟨so.2, fun w hw => ⟨fun e => absurd ?_ n, fun e => QM_v r (mo_mS hw.1)⟩⟩⟩⟩
  · have s0 := a6.1 0 (Or.inl rfl)
    have s1 := a6.1 1 (Or.inr rfl)
    rw [show sdA 0 = 16 from rfl] at s0
    rw [show sdA 1 = 20 from rfl] at s1
    have ln := q4.len (by omega) n
    refine C_press r.1 (sgsR r).1 q4 n (by omega) (by omega) (by omega) (by omega) (fun u pf g0 g1 t0 t1 => ⟨_, rv, rfl, ?_⟩)
    rw [e12, e13, e3] at g0 g1 ln
    refine sX12_press_0 ⟨so.2, fun w hw => ⟨fun e => ?_, fun e => absurd (by rw [hw.2.1, ← b1]; exact n) e⟩⟩
    have r0 := hw.2.2 (by rw [← b1]; exact n) 0 (Or.inl rfl)
    have r1 := hw.2.2 (by rw [← b1]; exact n) 1 (Or.inr rfl)
    rw [← b2] at r0 r1
    have wm : ∀ i, (i < 16 ∨ 19 < i) → i ≠ 0 → w i = m i := fun i p q => funext fun j => hw.1 i j p (by omega)
    have w4 : w 4 = m 4 := wm 4 (by omega) (by decide)
    have w6 : w 6 = m 6 := wm 6 (by omega) (by decide)
    have mem : ∀ (side : Int) (x : Int), x ∈ srtH (m 5) (m 4) (pS (m 0 4) (v 30 1) side) (m 0 4).toNat → 0 ≤ x ∧ x < m 0 4 := fun side x hx => by
      unfold srtH at hx
      rw [srt_mem] at hx
      have := hx.1
      omega
    have okx : ∀ (side : Int) (x : Int), x ∈ srtH (m 5) (m 4) (pS (m 0 4) (v 30 1) side) (m 0 4).toNat → okMg w x := fun side x hx => by
      have := so.2.2 x (mem side x hx).1 (mem side x hx).2
      unfold okMg at *
      rw [w4, wm 5 (by omega) (by decide)]; exact this
    have len : ∀ side : Int, (srtH (m 5) (m 4) (pS (m 0 4) (v 30 1) side) (m 0 4).toNat).length ≤ 10 := fun side => by
      have := srt_len (A := ahd (fun i => m 5 i.toNat) (fun i => m 4 i.toNat)) (p := pS (m 0 4) (v 30 1) side) (m 0 4).toNat
      unfold srtH
      omega
    have l0 := rl_len (f := fun i => w 18 (10 * 0 + i).toNat) (w 19 (0 : Int).toNat).toNat
    have l1 := rl_len (f := fun i => w 18 (10 * 1 + i).toNat) (w 19 (1 : Int).toNat).toNat
    rw [r0.2] at l0
    rw [r1.2] at l1
    have z0 := r0.1
    have z1 := r1.1
    have k0 := len 0
    have k1 := len 1
    have nn : ∀ side : Int, 0 ≤ lenL (fun i => m 4 i.toNat) (srtH (m 5) (m 4) (pS (m 0 4) (v 30 1) side) (m 0 4).toNat) := fun side => lenL_nn _ (fun x hx => (a3.2.1 x (mem side x hx).1 (by have := mem side x hx; omega)).2.1)
    have nn0 := nn 0
    have nn1 := nn 1
    have lvx : ∀ (side : Int) (x : Int), x ∈ srtH (m 5) (m 4) (pS (m 0 4) (v 30 1) side) (m 0 4).toNat → ∀ k : Int, 0 ≤ k → k < m 4 x.toNat → v 11 (60 * x + k).toNat = m 6 (60 * x + k).toNat ∧ (0 ≤ m 6 (60 * x + k).toNat ∧ m 6 (60 * x + k).toNat ≤ 40) := fun side x hx k k0 k1 => (a3.2.2 x (mem side x hx).1 (mem side x hx).2).2.2 k k0 k1
    refine M_press (L0 := srtH (m 5) (m 4) (pS (m 0 4) (v 30 1) 0) (m 0 4).toNat) (L1 := srtH (m 5) (m 4) (pS (m 0 4) (v 30 1) 1) (m 0 4).toNat) ⟨z0, ?_⟩ ⟨z1, ?_⟩ r0.2 r1.2 (okx 0) (okx 1) ?_ ?_ (fun y fy y0 y1 t10 t11 => QM_i rfl ?_)
    · show w 19 0 ≤ 10
      change _ = (w 19 0).toNat at l0
      omega
    · show w 19 1 ≤ 10
      change _ = (w 19 1).toNat at l1
      omega
    · rw [w4]; have := ln.1; omega
    · rw [w4]; have := ln.2; omega
    · rw [w4, w6] at y0 y1
      have hc : ∀ i j, ¬ (i = 0 ∧ j = 17) ∧ i ≠ 17 ∧ i ≠ 18 ∧ i ≠ 21 ∧ i ≠ 22 ∧ ¬ ((i = 16 ∨ i = 20) ∧ (j = 4 ∨ j = 5 ∨ j = 6)) → iu u 0 17 0 i j = v i j := fun i j q => by rw [iu_ap, if_neg (by omega)]; exact pf i j (by omega) (by omega)
      have hm : ∀ i j, ¬ (i = 0 ∧ (j = 0 ∨ j = 25)) ∧ ¬ (7 ≤ i ∧ i ≤ 10) ∧ ¬ (16 ≤ i ∧ i ≤ 19) → iu y 0 0 0 i j = m i j := fun i j q => by rw [iu_ap, if_neg (by omega), fy i (by omega)]; exact hw.1 i j (by omega) (by omega)
      have rd0 : RD (iu u 0 17 0) (iu y 0 0 0) 0 := RD_f (RD_press (s := 0) g0 y0 t10 ⟨nn0, by have := ln.1; omega⟩ (lvx 0)) (fun i j q => by have : sdA 0 = 16 := rfl; rw [iu_o (by omega)]) (iu_o (by decide)) (iu_o (by decide)) (fun q _ _ => ⟨iu_o (by decide), iu_o (by decide)⟩) (iu_k (by decide)) (fun q _ _ => iu_o (by decide))
      have rd1 : RD (iu u 0 17 0) (iu y 0 0 0) 1 := RD_f (RD_press (s := 1) g1 y1 t11 ⟨nn1, by have := ln.2; omega⟩ (lvx 1)) (fun i j q => by have : sdA 1 = 20 := rfl; rw [iu_o (by omega)]) (iu_o (by decide)) (iu_o (by decide)) (fun q _ _ => ⟨iu_o (by decide), iu_o (by decide)⟩) (iu_k (by decide)) (fun q _ _ => iu_o (by decide))
      have c16 : iu u 0 17 0 16 6 = u 16 6 := iu_o (by decide)
      have c20 : iu u 0 17 0 20 6 = u 20 6 := iu_o (by decide)
      have u0 : iu u 0 17 0 0 17 = iu y 0 0 0 0 0 := by rw [iu_eq, iu_eq]
      generalize iu u 0 17 0 = c' at *
      generalize iu y 0 0 0 = m' at *
      have c14 : c' 14 2 = v 14 2 := hc _ _ (by omega)
      refine ⟨a0, ?_, RT_f a2 (fun i j q => hc i j (by omega)) (fun i j q => hm i j (by omega)), RS_f a3 (fun i j q => hc i j (by omega)) (fun i j q => hm i j (by omega)), ?_, RP_f a5 (fun i j q => hc i j (by omega)) (fun i j q => hm i j (by omega)), ?_, ?_, RO_f a8 (fun i j q => hc i j (by omega)), RK_f a9 (fun i j q => hc i j (by omega)) (fun i j q => hm i j (by omega)), RN_f a10 (fun i j q => hc i j (by omega)) (fun i j q => hm i j (by omega)), RF_f a11 (fun i j q => hc i j (by omega)) (fun i j q => hm i j (by omega)), RG_f a12 (fun i j q => hc i j (by omega)) (fun j q => hm _ _ (by omega)), RH_f a13 (fun i j q => hc i j (by omega)) (fun i j q => hm i j (by omega))⟩
      · exact u0
      · exact RR_B (RR_f a4 (fun j => hc _ _ (by omega)) (hm _ _ (by omega)) (hm _ _ (by omega))) (by omega)
      · refine ⟨fun s hs => ?_, by rw [hc 42 6 (by omega)]; have := a6.2.1; omega, by rw [hc 46 6 (by omega)]; have := a6.2.2; omega⟩
        rcases hs with e | e <;> subst e
        · rw [show sdA 0 = 16 from rfl]
          exact ⟨rd0, SK_n s0.2.1.1 (hc _ _ (by omega)) (by omega), by omega⟩
        · rw [show sdA 1 = 20 from rfl]
          exact ⟨rd1, SK_n s1.2.1.1 (hc _ _ (by omega)) (by omega), by omega⟩
      · refine RB_n a7.1 (hc _ _ (by omega)) ?_
        unfold bNow
        omega
  · rw [hw.2.1, ← b1] at e; exact e

