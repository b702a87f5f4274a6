/-! ===== reading in step: again and when, the class ===== -/
theorem Blk_nil {o : Nat} {rv : Nat → Nat → Option Nat} {b : Nat → Int} {a : Int} : ∀ n, Blk o rv b n a a
  | 0 => rfl
  | n + 1 => ⟨0, fun _ => a, rfl, rfl, fun i q => by omega⟩
theorem hd_nil {o : Nat} {a : Int} : hd o a a = none := if_pos rfl
theorem top_f {m m4 c2 c' : Nat → Nat → Int} {o : Nat} {rv1 rv' : Nat → Nat → Option Nat} (hm : PM m) (z : m 0 51 = 0) (hk : knd (wM m) = 5 ∨ knd (wM m) = 6) (l60 : m 0 70 < 60) (l4 : m 0 74 < 4) (z2 : midV (knd (wM m)) (m 0 70) (nws m (knd (wM m))) 0 51 = 0) (sp : StP o c2 rv1 (opnV m) c' rv' m4) : m4 0 74 - 1 = m 0 74 ∧ m4 45 (m4 0 74 - 1).toNat = m 0 70 ∧ m4 46 (m4 0 74 - 1).toNat = 0 ∧ m4 42 (12 * m 0 70 + 0).toNat = knd (wM m) := by
  obtain ⟨o1, o2, o3, o4, o5, o6, o7, o8, o9, o10, o11⟩ := opn_f hm z hk l60 l4 z2
  obtain ⟨a1, a2, a3, a4, a5, a6, a7, a8, a9, a10, a11⟩ := sp
  have i0 := hm.2.1
  have s0 := hm.2.2.1
  have e : m4 0 74 - 1 = m 0 74 := by omega
  rw [e]
  have t := a9 (m 0 74) (by omega) (by omega)
  refine ⟨rfl, by rw [t.1]; exact o6, by rw [t.2]; exact o7, ?_⟩
  rw [a11 _ (by omega), show 12 * m 0 70 + 0 = 12 * m 0 70 by omega]; exact o10
/-- a step that holds one row of steps, closed -/
theorem StB_one {n : Nat} {o : Nat} {c c2 c' m m4 : Nat → Nat → Int} {rv rv1 rv' : Nat → Nat → Option Nat} {rv2 : Nat → Nat → Option Nat} (hm : PM m) (z : m 0 51 = 0) (h2 : m 0 45 = 2) (hk : knd (wM m) = 5 ∨ knd (wM m) = 6) (l60 : m 0 70 < 60) (l4 : m 0 74 < 4) (z2 : midV (knd (wM m)) (m 0 70) (nws m (knd (wM m))) 0 51 = 0) (f2 : sF c c2 o (m 0 70)) (r1 : sR rv rv1 o (m 0 70)) (e1 : rv1 = becR rv (o + 2 + (m 0 70).toNat)) (sp : StP o c2 rv1 (opnV m) c' rv' m4) (y4 : isS m4 125) (es : (stepV m).2 = opnV m) (bl : Blk o rv' (m4 42) n (m 0 70 + 1) (m4 0 70)) (e2 : rv2 = ru rv' (o + 2 + (m 0 70).toNat) 10 (hd o (m 0 70 + 1) (m4 0 70))) (nw : knd (wM m) = 6 → ¬ wM (nx m4) = 7) : StO o c rv m c' rv2 (closeV m4).2 ∧ StB (Blk o rv2 ((closeV m4).2 42) n) o rv2 ((closeV m4).2 42) (m 0 70) ((closeV m4).2 0 70) ∧ rv2 (o + 2 + (m 0 70).toNat) 12 = none := by
  obtain ⟨t1, t2, t3, t4⟩ := top_f hm z hk l60 l4 z2 sp
  have i0 := hm.2.1
  have o5 := (opn_f hm z hk l60 l4 z2).2.2.2.2.1
  have ec : (closeV m4).2 = iu (cl2 (m 0 70) (nx m4)) 0 74 (m4 0 74 - 1) := by
    unfold closeV
    rw [t2, t3, t4, if_neg (fun q => q rfl)]
    rcases hk with g | g
    · rw [if_pos g]
    · rw [if_neg (by omega), if_pos (nw g)]
  obtain ⟨so, e51, e70, e42⟩ := StO_close hm z h2 hk l60 l4 z2 f2 r1 sp y4 es ec
  have hr : ∀ i : Int, m 0 70 + 1 ≤ i → ∀ j, rv2 (o + 2 + i.toNat) j = rv' (o + 2 + i.toNat) j := fun i q j => by rw [e2]; exact ru_o (by omega)
  have rp : ∀ j, j ≠ 10 → rv2 (o + 2 + (m 0 70).toNat) j = rv1 (o + 2 + (m 0 70).toNat) j := fun j q => by
    rw [e2, ru_k q]; exact sp.2.2.2.1 _ _ (by rw [o5]; omega)
  have rp0 : rv2 (o + 2 + (m 0 70).toNat) 10 = hd o (m 0 70 + 1) (m4 0 70) := by rw [e2]; exact ru_eq
  have bl2 : Blk o rv2 ((closeV m4).2 42) n (m 0 70 + 1) (m4 0 70) := Blk_c n _ _ bl (by omega) (fun i il ir => ⟨hr i il, by rw [e42, if_neg (by omega)], by rw [e42, if_neg (by omega)], by rw [e42, if_neg (by omega)]⟩)
  have le := Blk_le bl
  obtain ⟨s1, s2, s3, s4, s5, s6⟩ := so
  refine ⟨⟨s1, s2, s3, by rw [e2]; exact sR_u s4 (by omega), s5, s6⟩, ?_, by rw [rp 12 (by decide), e1]; exact becR_0.1⟩
  rw [e70]
  have k0 : (closeV m4).2 42 (12 * m 0 70).toNat = knd (wM m) := by
    rw [e42, if_neg (by omega), ← t4, show 12 * m 0 70 + 0 = 12 * m 0 70 by omega]
  have k7 : (closeV m4).2 42 (12 * m 0 70 + 7).toNat = m4 0 70 := by rw [e42, if_pos (by omega)]
  have k8 : (closeV m4).2 42 (12 * m 0 70 + 8).toNat = m4 0 70 := by rw [e42, if_pos (by omega)]
  refine ⟨by omega, Or.inr ?_⟩
  rcases hk with g | g
  · exact Or.inl ⟨by rw [k0]; exact g, k7, k8, rp0, bl2⟩
  · refine Or.inr ⟨by rw [k0]; exact g, by rw [k7]; omega, k8, by rw [k7]; exact rp0, by rw [k7]; exact bl2, ?_, by rw [k7]; exact Blk_nil n⟩
    rw [k7, hd_nil, rp 11 (by decide), e1]; exact becR_0.2.1
theorem T_again {n : Nat} (S : SpecS n) {G : ZG} {d : Nat} {c m : Nat → Nat → Int} {K : Option AV → AH → Prop} {rv : Nat → Nat → Option Nat} {o0 : Nat} {x1 : Int} (hR : RC rv) (ho : isSh o0) (ht : rv o0 4 = some 54) (z : m 0 51 = 0) (hm : PM m) (h2 : m 0 45 = 2) (hk : knd (wM m) = 5) (l60 : m 0 70 < 60) (l4 : m 0 74 < 4) (hx : x1 = m 0 74) (hn : x1 + (n + 1) = 4) (k : ∀ c' rv' m' (q : Option Nat), StO o0 c rv m c' rv' m' → (m' 0 51 = 0 → StB (Blk o0 rv' (m' 42) n) o0 rv' (m' 42) (m 0 70) (m' 0 70) ∧ q = some (o0 + 2 + (m 0 70).toNat) ∧ rv' (o0 + 2 + (m 0 70).toNat) 12 = none) → K (some (vr q)) (mkC c' rv')) (c1 : Nat → Nat → Int) (p1 : PR o0 c1 (nws m (knd (wM m)))) (f1 : sF c c1 o0 (m 0 70)) : Z G mX6_readStep (d + 3 * n + 3 + 7) 0 0 70 [vr (some o0), vi x1, vi (knd (wM m)), vr (some (o0 + 2 + (m 0 70).toNat))] [] (mkC c1 (becR rv (o0 + 2 + (m 0 70).toNat))) K := by
  have i0 := hm.2.1
  have h1 : isSt (o0 + 2 + (m 0 70).toNat) := by unfold isSt; rcases ho with e | e <;> subst e <;> omega
  have r1 := becR_sR (rv := rv) (o := o0) (s := m 0 70) (by omega)
  have hR1 := RC_sR hR ho r1
  have ht1 := sR_4 r1 ht
  have nw := nws_f (kd := knd (wM m)) hm.1
  have z1 : nws m (knd (wM m)) 0 51 = 0 := by rw [nw.2.1 0 51 (by decide) (by omega)]; exact z
  have c10 : c1 o0 12 = 0 := by rw [p1.2.1.1]; exact z1
  apply sX6_readStep_70 hR1 ho h1 ht1
  refine ⟨fun g => absurd hk g, fun _ => ?_⟩
  refine C_num (d := d + 3 * n + 3 + 5) hR1 ho ht1 p1 c10 (fun c' p f _ => ?_)
  have k70 : (numV 0 9 (nws m (knd (wM m)))).2 0 70 = m 0 70 + 1 := by rw [kF_num 0 70 (by decide) (by decide) (by omega)]; exact nw.2.2
  have em : midV (knd (wM m)) (m 0 70) (nws m (knd (wM m))) = iu (numV 0 9 (nws m (knd (wM m)))).2 42 (12 * m 0 70 + 1).toNat (numV 0 9 (nws m (knd (wM m)))).1 := by
    unfold midV
    rw [hk, if_neg (by decide), if_neg (by decide)]
    rfl
  have p2 : PR o0 (iu c' (o0 + 2 + (m 0 70).toNat) 2 (numV 0 9 (nws m (knd (wM m)))).1) (midV (knd (wM m)) (m 0 70) (nws m (knd (wM m)))) := by rw [em]; exact PR_set (w := 1) ho p (by omega) (by unfold fW; omega)
  have f2 : sF c (iu c' (o0 + 2 + (m 0 70).toNat) 2 (numV 0 9 (nws m (knd (wM m)))).1) o0 (m 0 70) := sF_u f1 (sF_h (hF_s (hF_e f)) (by omega)) (Int.le_refl _)
  show Z G mX6_readStep (d + 3 * n + 3 + 7) 0 0 83 [vr (some o0), vi x1, vi (knd (wM m)), vr (some (o0 + 2 + (m 0 70).toNat))] [vi (numV 0 9 (nws m (knd (wM m)))).1, vr (some (o0 + 2 + (m 0 70).toNat))] (mkC c' (becR rv (o0 + 2 + (m 0 70).toNat))) K
  refine Z.fg (L' := [vr (some o0), vi x1, vu, vr (some (o0 + 2 + (m 0 70).toNat))]) ⟨Or.inl rfl, Or.inl rfl, Or.inr rfl, Or.inl rfl, trivial⟩ ?_
  apply sX6_readStep_83 hR1 ho h1 ht1
  refine ⟨by have := hm.2.2.1; omega, ?_⟩
  rw [show d + 3 * n + 3 + 6 = d + 3 * n + 9 by omega]
  refine T_first S hR ho ht z hm h2 (Or.inl hk) l60 l4 hx hn p2 f2 r1 (fun c3 rv3 m3 q so nz => ?_) (fun c3 rv3 m4 sp y4 bl es z2 => ?_)
  · refine Z.fg (L' := [vu, vu, vu, vr (some (o0 + 2 + (m 0 70).toNat))]) ⟨Or.inr rfl, Or.inr rfl, Or.inl rfl, Or.inl rfl, trivial⟩ ?_
    apply sX6_readStep_94 (RC_sR hR ho so.2.2.2.1) h1
    exact k c3 _ m3 _ ⟨so.1, so.2.1, so.2.2.1, sR_u so.2.2.2.1 (by omega), so.2.2.2.2⟩ (fun g => absurd g nz)
  · refine Z.fg (L' := [vu, vu, vu, vr (some (o0 + 2 + (m 0 70).toNat))]) ⟨Or.inr rfl, Or.inr rfl, Or.inl rfl, Or.inl rfl, trivial⟩ ?_
    apply sX6_readStep_94 (RC_sR hR1 ho sp.2.2.2.1) h1
    obtain ⟨so, sb, s12⟩ := StB_one (n := n) hm z h2 (Or.inl hk) l60 l4 z2 f2 r1 rfl sp y4 es bl rfl (fun g => by omega)
    exact k c3 _ _ _ so (fun _ => ⟨sb, rfl, s12⟩)
/-- the model behind the word else, before its brace -/
def elsV (i : Int) (m : Nat → Nat → Int) : Nat → Nat → Int := iu (nx (cl2 i (nx m))) 46 (m 0 74 - 1).toNat 1
theorem els_f {i : Int} {m : Nat → Nat → Int} (h : PM m) (hi : 0 ≤ i) (h74 : 1 ≤ m 0 74) : (∀ j, j ≠ 45 → j ≠ 46 → j ≠ 47 → j ≠ 48 → elsV i m 0 j = m 0 j) ∧ (∀ a, a ≠ 0 → a ≠ 42 → a ≠ 46 → elsV i m a = m a) ∧ (∀ j, elsV i m 42 j = if j = (12 * i + 8).toNat ∨ j = (12 * i + 7).toNat then m 0 70 else m 42 j) ∧ (∀ j, elsV i m 46 j = if j = (m 0 74 - 1).toNat then 1 else m 46 j) ∧ PM (elsV i m) ∧ mF m (elsV i m) := by
  have n70 : nx m 0 70 = m 0 70 := nx_f.2 70 (by decide) (by decide) (by decide) (by decide)
  have a0 : ∀ j, j ≠ 45 → j ≠ 46 → j ≠ 47 → j ≠ 48 → elsV i m 0 j = m 0 j := fun j p q r s => by
    unfold elsV; rw [iu_o (by decide), nx_f.2 j p q r s, cl2_f 0 (by decide), nx_f.2 j p q r s]
  have a1 : ∀ a, a ≠ 0 → a ≠ 42 → a ≠ 46 → elsV i m a = m a := fun a p q r => by
    unfold elsV; rw [iu_row r, nx_f.1 a p, cl2_f a q, nx_f.1 a p]
  refine ⟨a0, a1, fun j => ?_, fun j => ?_, ⟨?_, ?_, ?_, ?_⟩, ?_⟩
  · unfold elsV cl2
    rw [iu_o (by decide), nx42, iu_i, iu_i, nx42, n70]
    split
    · rw [if_pos (by omega)]
    · split
      · rw [if_pos (by omega)]
      · rw [if_neg (by omega)]
  · unfold elsV
    rw [iu_i, nx_f.1 46 (by decide), cl2_f 46 (by decide), nx_f.1 46 (by decide)]
  · unfold elsV
    refine MT_c (MT_nx (MT_c (MT_nx h.1) (cl2_f 29 (by decide)) (fun j _ => by rw [cl2_f 0 (by decide)]))) (iu_row (by decide)) (fun j _ => iu_o (by decide))
  · rw [a0 70 (by decide) (by decide) (by decide) (by decide)]; exact h.2.1
  · rw [a0 74 (by decide) (by decide) (by decide) (by decide)]; exact h.2.2.1
  · rw [a0 74 (by decide) (by decide) (by decide) (by decide), a0 70 (by decide) (by decide) (by decide) (by decide), a1 45 (by decide) (by decide) (by decide)]; exact h.2.2.2
  · unfold elsV
    exact mF_u (mF_t (mF_t (mF_k kF_nx) mF_cl) (mF_k kF_nx)) (Or.inr (Or.inl rfl))
theorem PM_nx {m : Nat → Nat → Int} (h : PM m) : PM (nx m) := by
  refine ⟨MT_nx h.1, ?_, ?_, ?_⟩
  · rw [nx_f.2 70 (by decide) (by decide) (by decide) (by decide)]; exact h.2.1
  · rw [nx_f.2 74 (by decide) (by decide) (by decide) (by decide)]; exact h.2.2.1
  · rw [nx_f.2 70 (by decide) (by decide) (by decide) (by decide), nx_f.2 74 (by decide) (by decide) (by decide) (by decide), nx_f.1 45 (by decide)]; exact h.2.2.2
theorem T_when {n : Nat} (S : SpecS n) {G : ZG} {d : Nat} {c m : Nat → Nat → Int} {K : Option AV → AH → Prop} {rv : Nat → Nat → Option Nat} {o0 : Nat} {x1 : Int} (hR : RC rv) (ho : isSh o0) (ht : rv o0 4 = some 54) (z : m 0 51 = 0) (hm : PM m) (h2 : m 0 45 = 2) (hk : knd (wM m) = 6) (l60 : m 0 70 < 60) (l4 : m 0 74 < 4) (hx : x1 = m 0 74) (hn : x1 + (n + 1) = 4) (k : ∀ c' rv' m' (q : Option Nat), StO o0 c rv m c' rv' m' → (m' 0 51 = 0 → StB (Blk o0 rv' (m' 42) n) o0 rv' (m' 42) (m 0 70) (m' 0 70) ∧ q = some (o0 + 2 + (m 0 70).toNat) ∧ rv' (o0 + 2 + (m 0 70).toNat) 12 = none) → K (some (vr q)) (mkC c' rv')) (c1 : Nat → Nat → Int) (p1 : PR o0 c1 (nws m (knd (wM m)))) (f1 : sF c c1 o0 (m 0 70)) : Z G mX6_readStep (d + 3 * n + 3 + 7) 0 0 70 [vr (some o0), vi x1, vi (knd (wM m)), vr (some (o0 + 2 + (m 0 70).toNat))] [] (mkC c1 (becR rv (o0 + 2 + (m 0 70).toNat))) K := by
  have i0 := hm.2.1
  have s0 := hm.2.2.1
  have h1 : isSt (o0 + 2 + (m 0 70).toNat) := by unfold isSt; rcases ho with e | e <;> subst e <;> omega
  have r1 := becR_sR (rv := rv) (o := o0) (s := m 0 70) (by omega)
  have hR1 := RC_sR hR ho r1
  have ht1 := sR_4 r1 ht
  have nw := nws_f (kd := knd (wM m)) hm.1
  have z1 : nws m (knd (wM m)) 0 51 = 0 := by rw [nw.2.1 0 51 (by decide) (by omega)]; exact z
  apply sX6_readStep_70 hR1 ho h1 ht1
  refine ⟨fun _ => ⟨fun g => absurd hk g, fun _ => ?_⟩, fun g => by omega⟩
  refine C_readTest hR1 ho ht1 p1 z1 (by rw [nw.2.2]; omega) (fun c2 p2 f => ?_)
  have em : midV (knd (wM m)) (m 0 70) (nws m (knd (wM m))) = testV (m 0 70) (nws m (knd (wM m))) := by unfold midV; rw [if_neg (by omega), if_pos hk]
  rw [← em] at p2
  have f2 : sF c c2 o0 (m 0 70) := sF_u f1 (sF_h f (by omega)) (Int.le_refl _)
  show Z G mX6_readStep (d + 3 * n + 3 + 7) 0 0 111 [vr (some o0), vi x1, vi (knd (wM m)), vr (some (o0 + 2 + (m 0 70).toNat))] [] (mkC c2 (becR rv (o0 + 2 + (m 0 70).toNat))) K
  refine Z.fg (L' := [vr (some o0), vi x1, vu, vr (some (o0 + 2 + (m 0 70).toNat))]) ⟨Or.inl rfl, Or.inl rfl, Or.inr rfl, Or.inl rfl, trivial⟩ ?_
  apply sX6_readStep_111 hR1 ho h1 ht1
  refine ⟨by omega, ?_⟩
  rw [show d + 3 * n + 3 + 6 = d + 3 * n + 9 by omega]
  refine T_first S hR ho ht z hm h2 (Or.inr hk) l60 l4 hx hn p2 f2 r1 (fun c3 rv3 m3 q so nz => ?_) (fun c3 rv3 m4 sp y4 bl es z2 => ?_)
  · apply sX6_readStep_119 (RC_sR hR ho so.2.2.2.1) ho h1 (sR_4 so.2.2.2.1 ht)
    have r3 := sR_u (j := 10) (x := q) so.2.2.2.1 (p := o0 + 2 + (m 0 70).toNat) (by omega)
    apply sX6_readStep_122 (RC_sR hR ho r3) ho h1 (sR_4 r3 ht)
    refine ⟨fun _ => k c3 _ m3 _ ⟨so.1, so.2.1, so.2.2.1, r3, so.2.2.2.2⟩ (fun g => absurd g nz), fun g => ?_⟩
    rw [so.2.1.1.1] at g; exact absurd g nz
  obtain ⟨t1, t2, t3, t4⟩ := top_f hm z (Or.inr hk) l60 l4 z2 sp
  obtain ⟨o1, o2, o3, o4, o5, o6, o7, o8, o9, o10, o11⟩ := opn_f hm z (Or.inr hk) l60 l4 z2
  obtain ⟨a1, a2, a3, a4, a5, a6, a7, a8, a9, a10, a11⟩ := id sp
  have r13 : sR rv rv3 o0 (m 0 70) := sR_t r1 a4 (by omega)
  have rA := sR_u (j := 10) (x := hd o0 (m 0 70 + 1) (m4 0 70)) r13 (p := o0 + 2 + (m 0 70).toNat) (by omega)
  have hRA := RC_sR hR ho rA
  have htA := sR_4 rA ht
  have n51 : nx m4 0 51 = 0 := by rw [nx_f.2 51 (by decide) (by decide) (by decide) (by decide)]; exact a6
  have c30 : c3 o0 12 = 0 := by rw [a2.2.1.1]; exact n51
  apply sX6_readStep_119 (RC_sR hR ho r13) ho h1 (sR_4 r13 ht)
  apply sX6_readStep_122 hRA ho h1 htA
  have ew := PT_w a2.1
  rw [ew]
  have tx := a2.1.1
  refine ⟨fun g => absurd c30 g, fun _ => ⟨tx, fun n7 => ?_, fun y7 => ⟨by have := tx.1; omega, tx.1.2.2.2, tx.2.1, fun v f => ⟨by omega, ?_⟩⟩⟩⟩
  · obtain ⟨so, sb, s12⟩ := StB_one (n := n) hm z h2 (Or.inr hk) l60 l4 z2 f2 r1 rfl sp y4 es bl rfl (fun _ => n7)
    exact k c3 _ _ _ so (fun _ => ⟨sb, rfl, s12⟩)
  obtain ⟨b0, b1, b42, b46, bm, bf⟩ := els_f (i := m 0 70) a7 i0.1 (by omega)
  have pv : PR o0 v (elsV (m 0 70) m4) := PR_46 (PR_next ho (PR_cl a2 i0.1) f.1 f.2)
  have ec : closeV m4 = if elsV (m 0 70) m4 0 45 = 4 ∧ elsV (m 0 70) m4 0 48 = 123 then (1, nx (elsV (m 0 70) m4)) else (0, mfail 2 (elsV (m 0 70) m4)) := by
    unfold closeV elsV
    rw [t2, t3, t4, if_neg (fun q => q rfl), if_neg (by omega), if_neg (fun q => q y7), iu_o (i := 0) (by decide), iu_o (i := 0) (by decide)]
  have cz : ∀ G d K, CZ G d K (closeV m4).2 → CZ G d K m := fun G d K kk => L_w hm z h2 (by rw [es]; exact a1 G d K (L_close a7 (by omega) y4 kk a6))
  have zE : elsV (m 0 70) m4 0 51 = 0 := by rw [b0 51 (by decide) (by decide) (by decide) (by decide)]; exact a6
  have fv : sF c v o0 (m 0 70) := sF_u (sF_t f2 a3 (by omega)) (sF_e (eF_a f.1)) (Int.le_refl _)
  have mE : mF m (elsV (m 0 70) m4) := mF_t (mF_t o11 a5) bf
  have w70 : nx (elsV (m 0 70) m4) 0 70 = m4 0 70 := by rw [nx_f.2 70 (by decide) (by decide) (by decide) (by decide)]; exact b0 70 (by decide) (by decide) (by decide) (by decide)
  have w74 : nx (elsV (m 0 70) m4) 0 74 = m4 0 74 := by rw [nx_f.2 74 (by decide) (by decide) (by decide) (by decide)]; exact b0 74 (by decide) (by decide) (by decide) (by decide)
  rw [show d + 3 * n + 3 + 6 = d + 3 * n + 9 by omega]
  refine C_braces (w := nx (elsV (m 0 70) m4)) S hRA ho htA pv zE (fun no c5 p5 f5 => ?_) (fun y => ⟨fun _ p => p, by rw [nx_f.2 51 (by decide) (by decide) (by decide) (by decide)]; exact zE, by omega, by omega, by omega, PM_nx bm⟩) (fun y c5 rv5 m5 q so nz => ?_) (fun y c5 rv5 m6 sp6 y6 bl6 => ?_)
  · refine Z.fg (L' := [vu, vu, vu, vr (some (o0 + 2 + (m 0 70).toNat))]) ⟨Or.inr rfl, Or.inr rfl, Or.inl rfl, Or.inl rfl, trivial⟩ ?_
    apply sX6_readStep_150 hRA h1
    have no' := no
    unfold isS at no'
    rw [if_neg no'] at ec
    have ns : ¬ mfail 2 (elsV (m 0 70) m4) 0 51 = 0 := mfail_51 (by omega)
    refine k c5 _ (mfail 2 (elsV (m 0 70) m4)) _ ⟨fun G d K kk => cz G d K (by rw [ec]; exact kk), QR_p p5, sF_u fv (sF_e f5) (Int.le_refl _), sR_u rA (by omega), mF_t mE (mF_k kF_fail), fun g => absurd g ns⟩ (fun g => absurd g ns)
  · have y' := y
    unfold isS at y'
    rw [if_pos y'] at ec
    obtain ⟨d1, d2, d3, d4, d5, d6⟩ := so
    have r5 := sR_t rA d4 (by omega)
    refine Z.fg (L' := [vu, vu, vu, vr (some (o0 + 2 + (m 0 70).toNat))]) ⟨Or.inr rfl, Or.inr rfl, Or.inl rfl, Or.inl rfl, trivial⟩ ?_
    apply sX6_readStep_150 (RC_sR hR ho r5) h1
    exact k c5 _ m5 _ ⟨fun G d K kk => cz G d K (by rw [ec]; exact d1 G d K kk), d2, sF_t fv d3 (by omega), sR_u r5 (by omega), mF_t (mF_t mE (mF_k kF_nx)) d5, fun g => absurd g nz⟩ (fun g => absurd g nz)
  · have y' := y
    unfold isS at y'
    rw [if_pos y'] at ec
    obtain ⟨d1, d2, d3, d4, d5, d6, d7, d8, d9, d10, d11⟩ := sp6
    have r5 := sR_t rA d4 (by omega)
    refine Z.fg (L' := [vu, vu, vu, vr (some (o0 + 2 + (m 0 70).toNat))]) ⟨Or.inr rfl, Or.inr rfl, Or.inl rfl, Or.inl rfl, trivial⟩ ?_
    apply sX6_readStep_150 (RC_sR hR ho r5) h1
    have tp := d9 (m 0 74) (by omega) (by omega)
    rw [nx_f.1 45 (by decide), nx_f.1 46 (by decide), b1 45 (by decide) (by decide) (by decide), b46, if_pos (by rw [t1])] at tp
    have t6 : m6 0 74 - 1 = m 0 74 := by omega
    rw [t1] at t2
    rw [t2] at tp
    have ec6 : (closeV m6).2 = iu (iu (nx m6) 42 (12 * m 0 70 + 8).toNat (m6 0 70)) 0 74 (m6 0 74 - 1) := by
      unfold closeV
      rw [t6, tp.1, tp.2, if_pos (by decide)]
    have e0 : ∀ j, j ≠ 74 → (closeV m6).2 0 j = nx m6 0 j := fun j n => by rw [ec6, iu_k n, iu_o (by decide)]
    have e74 : (closeV m6).2 0 74 = m 0 74 := by rw [ec6, iu_eq]; omega
    have e70 : (closeV m6).2 0 70 = m6 0 70 := by rw [e0 70 (by decide)]; exact nx_f.2 70 (by decide) (by decide) (by decide) (by decide)
    have eR : ∀ a, a ≠ 0 → a ≠ 42 → (closeV m6).2 a = m6 a := fun a p q => by rw [ec6, iu_row p, iu_row q, nx_f.1 a p]
    have e42 : ∀ j, (closeV m6).2 42 j = if j = (12 * m 0 70 + 8).toNat then m6 0 70 else m6 42 j := fun j => by rw [ec6, iu_o (by decide), iu_i, nx42]
    have s42 : ∀ j, j < (12 * m4 0 70).toNat → m6 42 j = if j = (12 * m 0 70 + 8).toNat ∨ j = (12 * m 0 70 + 7).toNat then m4 0 70 else m4 42 j := fun j q => by
      rw [d11 j (by omega), nx42, b42]
    have le := Blk_le bl6
    rw [w70] at bl6 le
    have rB : ∀ a : Int, m 0 70 + 1 ≤ a → ∀ j, ru rv5 (o0 + 2 + (m 0 70).toNat) 11 (hd o0 (nx (elsV (m 0 70) m4) 0 70) (m6 0 70)) (o0 + 2 + a.toNat) j = rv5 (o0 + 2 + a.toNat) j := fun a q j => ru_o (by omega)
    have rA5 : ∀ a : Int, 0 ≤ a → a < m4 0 70 → ∀ j, rv5 (o0 + 2 + a.toNat) j = ru rv3 (o0 + 2 + (m 0 70).toNat) 10 (hd o0 (m 0 70 + 1) (m4 0 70)) (o0 + 2 + a.toNat) j := fun a p q j => d4 _ _ (by omega)
    refine k c5 _ (closeV m6).2 _ ⟨fun G d K kk => cz G d K (by rw [ec]; exact d1 G d K (L_close d7 (by omega) y6 kk d6)), QR_p (by rw [ec6]; exact PR_74 (PR_e d2 i0.1 (Or.inr rfl))), sF_t fv d3 (by omega), sR_u r5 (by omega), mF_t (mF_t (mF_t mE (mF_k kF_nx)) d5) mF_close, fun _ => ⟨⟨MT_c (MT_nx d7.1) (by rw [eR 29 (by decide) (by decide), nx_f.1 29 (by decide)]) (fun j q => e0 j (by omega)), by rw [e70]; exact d7.2.1, by rw [e74]; omega, fun t t0 t1 => ?_⟩, e74, fun t t0 t1 => ?_, by rw [e70]; omega, fun j q => ?_⟩⟩ (fun _ => ⟨?_, rfl, ?_⟩)
    · rw [e74] at t1
      rw [eR 45 (by decide) (by decide), e70]
      exact d7.2.2.2 t t0 (by omega)
    · rw [eR 45 (by decide) (by decide), eR 46 (by decide) (by decide), (d9 t t0 (by omega)).1, (d9 t t0 (by omega)).2, nx_f.1 45 (by decide), nx_f.1 46 (by decide), b1 45 (by decide) (by decide) (by decide), b46, if_neg (by omega), (a9 t t0 (by omega)).1, (a9 t t0 (by omega)).2]
      exact o8 t t0 t1
    · rw [e42, if_neg (by omega), s42 j (by omega), if_neg (by omega), a11 j (by omega), o9 j q]
    · rw [e70]
      have k0 : (closeV m6).2 42 (12 * m 0 70).toNat = 6 := by
        rw [e42, if_neg (by omega), s42 _ (by omega), if_neg (by omega), ← hk, ← t4, show 12 * m 0 70 + 0 = 12 * m 0 70 by omega]
      have k7 : (closeV m6).2 42 (12 * m 0 70 + 7).toNat = m4 0 70 := by rw [e42, if_neg (by omega), s42 _ (by omega), if_pos (by omega)]
      have k8 : (closeV m6).2 42 (12 * m 0 70 + 8).toNat = m6 0 70 := by rw [e42, if_pos rfl]
      refine ⟨by omega, Or.inr (Or.inr ⟨k0, by rw [k7]; omega, k8, ?_, ?_, ?_, ?_⟩)⟩
      · rw [k7, ru_k (by decide), rA5 _ (by omega) (by omega)]; exact ru_eq
      · rw [k7]
        refine Blk_c n _ _ bl (by omega) (fun a al ar => ⟨fun j => ?_, ?_, ?_, ?_⟩)
        · rw [rB a al, rA5 a (by omega) ar]; exact ru_o (by omega)
        all_goals rw [e42, if_neg (by omega), s42 _ (by omega), if_neg (by omega)]
      · rw [k7, w70]; exact ru_eq
      · rw [k7]
        refine Blk_c n _ _ bl6 (by omega) (fun a al ar => ⟨fun j => rB a (by omega) j, ?_, ?_, ?_⟩)
        all_goals rw [e42, if_neg (by omega)]
    · rw [ru_k (by decide), rA5 _ (by omega) (by omega), ru_k (by decide), a4 _ _ (by omega)]
      exact becR_0.1

