/-! ===== the public methods: beside, the tape ===== -/
theorem SolB_c {k0 k1 land feed : Int} {c c' x : Int → Int → Int} (hc : ∀ r p, inK k0 k1 r p → c r p = c' r p) (h : SolB k0 k1 c land feed x) : SolB k0 k1 c' land feed x := by
  refine ⟨h.1, fun r p r' p' w a b e => h.2 r p r' p' w a b ?_⟩
  rcases e with e | e | ⟨e1, e2, e3⟩ | ⟨e1, e2, e3, e4⟩ | ⟨e1, e2, e3, e4⟩
  · exact Or.inl e
  · exact Or.inr (Or.inl e)
  · subst e1; subst e2
    exact Or.inr (Or.inr (Or.inl ⟨rfl, rfl, by rw [hc _ _ a, hc _ _ b]; exact e3⟩))
  · subst e1; subst e2; subst e3
    exact Or.inr (Or.inr (Or.inr (Or.inl ⟨rfl, rfl, rfl, by rw [hc _ _ a, hc _ _ b]; exact e4⟩)))
  · subst e1; subst e2; subst e3
    exact Or.inr (Or.inr (Or.inr (Or.inr ⟨rfl, rfl, rfl, by rw [hc _ _ a, hc _ _ b]; exact e4⟩)))
theorem bcl_eq {B : Int} {c m : Nat → Nat → Int} {rv : Nat → Nat → Option Nat} (h : RL B c rv m) : (c 16 4 = m 7 0 ∧ c 20 4 = m 7 1) ∧ ∀ r p, inK (m 7 0) (m 7 1) r p → bcl c r p = mcl m r p ∧ (0 ≤ mcl m r p ∧ mcl m r p ≤ 40) := by
  have d0 := (sdR h (s := 0) (by decide)).1
  have d1 := (sdR h (s := 1) (by decide)).1
  have n0 : c 16 4 = m 7 0 := d0.1
  have n1 : c 20 4 = m 7 1 := d1.1
  refine ⟨⟨n0, n1⟩, fun r p q => ?_⟩
  unfold bcl mcl
  rcases q with ⟨e, q0, q1⟩ | ⟨e, q0, q1⟩ <;> subst e
  · have := d0.2.2.2.2 p q0 q1
    exact ⟨this.1.1, this.2⟩
  · have := d1.2.2.2.2 p q0 q1
    exact ⟨this.1.1, this.2⟩
theorem bOkR {B : Int} {c m : Nat → Nat → Int} {rv : Nat → Nat → Option Nat} (h : RL B c rv m) : bOk c := by
  obtain ⟨⟨n0, n1⟩, bc⟩ := bcl_eq h
  have d0 := (sdR h (s := 0) (by decide)).1.2.1
  have d1 := (sdR h (s := 1) (by decide)).1.2.1
  have rr := h.2.2.2.2.1
  unfold bOk
  rw [n0, n1]
  refine ⟨⟨d0, d1⟩, by rw [rr.1.1]; exact rr.2.1.1, by rw [rr.1.2]; exact rr.2.1.2, fun r p q => ?_⟩
  rw [(bc r p q).1]; exact (bc r p q).2
theorem FB_eq {B : Int} {c m : Nat → Nat → Int} {rv : Nat → Nat → Option Nat} (h : RL B c rv m) : ∀ V, SolB (c 16 4) (c 20 4) (bcl c) (c 14 0) (c 14 1) V ↔ SM m V := by
  obtain ⟨⟨n0, n1⟩, bc⟩ := bcl_eq h
  have rr := h.2.2.2.2.1
  intro V
  unfold SM
  rw [n0, n1, rr.1.1, rr.1.2]
  exact ⟨SolB_c (fun r p q => (bc r p q).1), SolB_c (fun r p q => (bc r p q).1.symm)⟩
theorem RL_bs {B : Int} {c v m : Nat → Nat → Int} {rv : Nat → Nat → Option Nat} (h : RL B c rv m) (s : bSt c v) : RL B v rv m := by
  obtain ⟨a0, a1, a2, a3, a4, a5, a6, a7, a8, a9, a10, a11, a12, a13⟩ := h
  obtain ⟨f, s9, s10, sl⟩ := s
  have hc : ∀ i j, i ≠ 26 ∧ i ≠ 27 ∧ i ≠ 28 ∧ i ≠ 29 ∧ i ≠ 24 → v i j = c i j := fun i j q => f i j (by omega) (by omega) (by omega) (by omega) (by omega)
  have hm : ∀ i j, True → m i j = m i j := fun _ _ _ => rfl
  refine ⟨a0, by rw [hc 0 17 (by omega)]; exact a1, RT_f a2 (fun i j q => hc i j (by omega)) (fun i j q => rfl), RS_f a3 (fun i j q => hc i j (by omega)) (fun i j q => rfl), RR_f a4 (fun j => hc _ _ (by omega)) rfl rfl, RP_f a5 (fun i j q => hc i j (by omega)) (fun i j q => rfl), RSd_f a6 (fun i j q => hc i j (by omega)) (fun i j q => rfl), ?_, RO_f a8 (fun i j q => hc i j (by omega)), RK_f a9 (fun i j q => hc i j (by omega)) (fun i j q => rfl), RN_f a10 (fun i j q => hc i j (by omega)) (fun i j q => rfl), RF_f a11 (fun i j q => hc i j (by omega)) (fun i j q => rfl), RG_f a12 (fun i j q => hc i j (by omega)) (fun j q => rfl), RH_f a13 (fun i j q => hc i j (by omega)) (fun i j q => rfl)⟩
  have e17 : v 17 = c 17 := funext fun j => hc _ _ (by omega)
  have e21 : v 21 = c 21 := funext fun j => hc _ _ (by omega)
  have e14 : v 14 = c 14 := funext fun j => hc _ _ (by omega)
  have eb := bcl_f e17 e21
  have eN : bNow v = bNow c := by unfold bNow; rw [hc 16 6 (by omega), hc 20 6 (by omega), e14]
  have eF : FB v = FB c := by unfold FB; rw [eb, e14, hc 16 4 (by omega), hc 20 4 (by omega)]
  have eL : LB v v = LB c v := by unfold LB; rw [eb, e14, hc 16 4 (by omega), hc 20 4 (by omega)]
  refine ⟨by rw [eN, s9]; omega, fun _ => ?_⟩
  rw [eF, eL]
  exact ⟨s10, sl⟩
/-- what the model needs of both sides -/
theorem bside {B : Int} {c v m : Nat → Nat → Int} {rv : Nat → Nat → Option Nat} (h : RL B c rv m) (s : bSt c v) : ((¬ ∃ V, SM m V) ∨ ∃ y, SM m y ∧ ∀ r p, inK (m 7 0) (m 7 1) r p → y r p ≤ 160000) ∧ (FB c ↔ ∃ V, SM m V) ∧ (FB c → ∀ w, LstB (m 7 0) (m 7 1) (mcl m) (m 0 5) (m 0 6) (mcv w) → ∀ r p, inK (m 7 0) (m 7 1) r p → bcv v r p = mcv w r p) := by
  obtain ⟨⟨n0, n1⟩, bc⟩ := bcl_eq h
  have fe := FB_eq h
  have e : FB c ↔ ∃ V, SM m V := ⟨fun ⟨V, hV⟩ => ⟨V, (fe V).mp hV⟩, fun ⟨V, hV⟩ => ⟨V, (fe V).mpr hV⟩⟩
  have rr := h.2.2.2.2.1
  refine ⟨?_, e, fun f w lw r p q => ?_⟩
  · by_cases g : FB c
    · have l := s.2.2.2 g
      refine Or.inr ⟨bcv v, (fe _).mp l.1.1, fun r p q => (l.2 r p (by rw [n0, n1]; exact q)).2⟩
    · exact Or.inl (fun z => g (e.mpr z))
  · have l := s.2.2.2 f
    have a := l.1.2 (mcv w) ((fe _).mpr lw.1) r p (by rw [n0, n1]; exact q)
    have b := lw.2 (bcv v) ((fe _).mp l.1.1) r p q
    omega
theorem P_placeBeside {G G' : ZG} {c m : Nat → Nat → Int} {rv : Nat → Nat → Option Nat} {B : Int} {x1 x2 : Int} (h : RL B c rv m) (hB : 0 ≤ B ∧ B ≤ 10000000) (hx1 : -2147483648 ≤ x1 ∧ x1 ≤ 2147483647) (hx2 : -2147483648 ≤ x2 ∧ x2 ≤ 2147483647) : Z G mX11_placeBeside 40 0 0 0 [vr (some 0), vi x1, vi x2] [] (mkC c rv) (QC G' mX12_placeBeside [vr (some 0), vi x1, vi x2] m (B + 1000)) := by
  obtain ⟨⟨n0, n1⟩, bc⟩ := bcl_eq h
  have a6 := h.2.2.2.2.2.2.1
  have s0 := sdR h (s := 0) (by decide)
  have s1 := sdR h (s := 1) (by decide)
  have rr := h.2.2.2.2.1
  rw [show sdA 0 = 16 from rfl] at s0
  rw [show sdA 1 = 20 from rfl] at s1
  apply sX11_placeBeside_0 h.1
  refine ⟨fun p q => by have a := (sdR h ⟨p, q⟩).1; have := a.2.1; have := a.1; omega, fun p => ⟨bOkR h, h.2.2.2.2.2.2.2.1.2, by have := rr.2.2; omega, fun v sv => ?_⟩, fun p => ⟨_, rv, rfl, ?_⟩⟩
  · have r := RL_bs h sv
    obtain ⟨b1, b2, b3⟩ := bside h sv
    have d := (sdR h p.1).1
    have n4 := d.1
    have n7 := d.2.1
    have ik : inK (m 7 0) (m 7 1) x1 x2 := by
      have : x1 = 0 ∨ x1 = 1 := by omega
      rcases this with e | e <;> subst e
      · exact Or.inl ⟨rfl, p.2.1, by have := p.2.2; rw [show sdA 0 = 16 from rfl] at this; omega⟩
      · exact Or.inr ⟨rfl, p.2.1, by have := p.2.2; rw [show sdA 1 = 20 from rfl] at this; omega⟩
    have pm : (0 ≤ x1 ∧ x1 ≤ 1) ∧ 0 ≤ x2 ∧ x2 < m 7 x1.toNat := ⟨p.1, by omega⟩
    refine ⟨fun f => ⟨by omega, by omega, _, rv, rfl, ?_⟩, fun f => ⟨_, rv, rfl, ?_⟩⟩
    · refine sX12_placeBeside_0 ⟨fun _ => M_besides (okM h (by decide)) (okM h (by decide)) b1 (fun w fw lw _ => ?_) (fun w fw n => absurd (b2.mp f) n), fun n => absurd pm n⟩
      show Z G' mX12_placeBeside (37 + 3) 0 0 19 [vr (some 0), vi x1, vi x2] [vi 1] (mkM w) _
      apply sX12_placeBeside_19
      refine ⟨fun e => by omega, fun _ => ⟨by omega, by omega, ?_⟩⟩
      have := b3 f w lw x1 x2 ik
      unfold bcv mcv at this
      rw [this]
      exact QM_v r (scr_mS fw)
    · refine sX12_placeBeside_0 ⟨fun _ => M_besides (okM h (by decide)) (okM h (by decide)) b1 (fun w fw lw _ => absurd (b2.mpr ⟨_, lw.1⟩) f) (fun w fw n => ?_), fun n => absurd pm n⟩
      show Z G' mX12_placeBeside (37 + 3) 0 0 19 [vr (some 0), vi x1, vi x2] [vi 0] (mkM w) _
      apply sX12_placeBeside_19
      exact ⟨fun _ => QM_v r (scr_mS fw), fun e => absurd rfl e⟩
  · refine sX12_placeBeside_0 ⟨fun e => absurd ?_ p, fun _ => QM_u h⟩
    have d := (sdR h e.1).1
    exact ⟨e.1, by have := d.1; omega⟩
theorem P_roomBeside {G G' : ZG} {c m : Nat → Nat → Int} {rv : Nat → Nat → Option Nat} {B : Int} (h : RL B c rv m) (hB : 0 ≤ B ∧ B ≤ 10000000) : Z G mX11_roomBeside 40 0 0 0 [vr (some 0)] [] (mkC c rv) (QC G' mX12_roomBeside [vr (some 0), vu, vu] m (B + 1000)) := by
  obtain ⟨⟨n0, n1⟩, bc⟩ := bcl_eq h
  have s0 := sdR h (s := 0) (by decide)
  have s1 := sdR h (s := 1) (by decide)
  have rr := h.2.2.2.2.1
  rw [show sdA 0 = 16 from rfl] at s0
  rw [show sdA 1 = 20 from rfl] at s1
  have m0 : 0 ≤ m 7 0 ∧ m 7 0 ≤ 400 := s0.1.2.1
  have m1 : 0 ≤ m 7 1 ∧ m 7 1 ≤ 400 := s1.1.2.1
  apply sX11_roomBeside_0 h.1
  refine ⟨bOkR h, h.2.2.2.2.2.2.2.1.2, by have := rr.2.2; omega, fun v sv => ?_⟩
  have r := RL_bs h sv
  obtain ⟨b1, b2, b3⟩ := bside h sv
  obtain ⟨⟨w0, w1⟩, bv⟩ := bcl_eq r
  refine ⟨fun f => ?_, fun f => ⟨_, rv, rfl, ?_⟩⟩
  · have lb := (sv.2.2.2 f).2
    rw [n0, n1] at lb
    have i0 : 0 < m 7 0 → inK (m 7 0) (m 7 1) 0 (m 7 0 - 1) := fun g => Or.inl ⟨rfl, by omega, by omega⟩
    have i1 : 0 < m 7 1 → inK (m 7 0) (m 7 1) 1 (m 7 1 - 1) := fun g => Or.inr ⟨rfl, by omega, by omega⟩
    rw [show rwA 0 = 16 from rfl, show rwA 1 = 20 from rfl, w0, w1]
    have q0 : 0 < m 7 0 → (0 ≤ bcv v 0 (m 7 0 - 1) ∧ bcv v 0 (m 7 0 - 1) ≤ 160000) ∧ (0 ≤ bcl v 0 (m 7 0 - 1) ∧ bcl v 0 (m 7 0 - 1) ≤ 40) := fun g => ⟨lb _ _ (i0 g), by rw [(bv _ _ (i0 g)).1]; exact (bv _ _ (i0 g)).2⟩
    have q1 : 0 < m 7 1 → (0 ≤ bcv v 1 (m 7 1 - 1) ∧ bcv v 1 (m 7 1 - 1) ≤ 160000) ∧ (0 ≤ bcl v 1 (m 7 1 - 1) ∧ bcl v 1 (m 7 1 - 1) ≤ 40) := fun g => ⟨lb _ _ (i1 g), by rw [(bv _ _ (i1 g)).1]; exact (bv _ _ (i1 g)).2⟩
    refine ⟨by decide, m0, q0, by decide, m1, q1, _, rv, rfl, ?_⟩
    apply sX12_roomBeside_0
    refine M_besides (okM h (by decide)) (okM h (by decide)) b1 (fun w fw lw _ => ?_) (fun w fw n => absurd (b2.mp f) n)
    show Z G' mX12_roomBeside (37 + 3) 0 0 4 [vr (some 0), vu, vu] [vi 1] (mkM w) _
    apply sX12_roomBeside_4
    refine ⟨fun _ => ?_, fun e => by omega⟩
    have e7 : ∀ j, w 7 j = m 7 j := fun j => fw 7 j (by decide) (by omega)
    have e8 : ∀ j, w 8 j = m 8 j := fun j => fw 8 j (by decide) (by omega)
    have x0 : 0 < m 7 0 → bcv v 0 (m 7 0 - 1) = w 15 (400 * 0 + (m 7 0 - 1)).toNat ∧ bcl v 0 (m 7 0 - 1) = m 8 (400 * 0 + (m 7 0 - 1)).toNat := fun g => ⟨b3 f w lw _ _ (i0 g), (bv _ _ (i0 g)).1⟩
    have x1 : 0 < m 7 1 → bcv v 1 (m 7 1 - 1) = w 15 (400 * 1 + (m 7 1 - 1)).toNat ∧ bcl v 1 (m 7 1 - 1) = m 8 (400 * 1 + (m 7 1 - 1)).toNat := fun g => ⟨b3 f w lw _ _ (i1 g), (bv _ _ (i1 g)).1⟩
    have x0e : extB v 0 = if m 7 0 = 0 then 0 else bcv v 0 (m 7 0 - 1) + bcl v 0 (m 7 0 - 1) := by unfold extB; rw [show rwA 0 = 16 from rfl, w0]
    have x1e : extB v 1 = if m 7 1 = 0 then 0 else bcv v 1 (m 7 1 - 1) + bcl v 1 (m 7 1 - 1) := by unfold extB; rw [show rwA 1 = 20 from rfl, w1]
    have fin : ∀ y : Int, y = max (extB v 0) (extB v 1) → Z G' mX12_roomBeside (37 + 3) 0 0 17 [vr (some 0), vi y, vi 2] [] (mkM w) (QM (some (vi (max (extB v 0) (extB v 1)))) (iu v 0 17 0) rv (B + 1000)) := fun y ey => by
      apply sX12_roomBeside_17
      refine ⟨fun _ => ?_, fun e => by omega⟩
      rw [ey]; exact QM_v r (scr_mS fw)
    have two : ∀ y : Int, y = extB v 0 → Z G' mX12_roomBeside (37 + 3) 0 0 17 [vr (some 0), vi y, vi 1] [] (mkM w) (QM (some (vi (max (extB v 0) (extB v 1)))) (iu v 0 17 0) rv (B + 1000)) := fun y ey => by
      apply sX12_roomBeside_17
      rw [show (1 : Int).toNat = 1 from rfl, e7, e8, show (1 : Int) + 1 = 2 from rfl]
      refine ⟨fun e => by omega, fun _ => ⟨by omega, fun g => ⟨by omega, fin _ ?_⟩, fun g => ⟨by omega, by omega, by omega, by omega, by omega, by omega, by omega, by omega, ?_, by omega, fin _ ?_⟩⟩⟩
      · have : 0 ≤ extB v 0 := by rw [x0e]; split <;> omega
        rw [x1e, if_pos (by omega), ey]; omega
      · have := q1 g; have := x1 g; omega
      · rw [x1e, if_neg (by omega), ey, (x1 g).1, (x1 g).2]
    apply sX12_roomBeside_17
    rw [show (0 : Int).toNat = 0 from rfl, e7, e8, show (0 : Int) + 1 = 1 from rfl]
    refine ⟨fun e => by omega, fun _ => ⟨by omega, fun g => ⟨by omega, two _ ?_⟩, fun g => ⟨by omega, by omega, by omega, by omega, by omega, by omega, by omega, by omega, ?_, by omega, two _ ?_⟩⟩⟩
    · rw [x0e, if_pos (by omega)]
    · have := q0 g; have := x0 g; omega
    · have := q0 g
      rw [x0e, if_neg (by omega), ← (x0 g).1, ← (x0 g).2]; omega
  · apply sX12_roomBeside_0
    refine M_besides (okM h (by decide)) (okM h (by decide)) b1 (fun w fw lw _ => absurd (b2.mpr ⟨_, lw.1⟩) f) (fun w fw n => ?_)
    show Z G' mX12_roomBeside (37 + 3) 0 0 4 [vr (some 0), vu, vu] [vi 0] (mkM w) _
    apply sX12_roomBeside_4
    exact ⟨fun e => absurd rfl e, fun _ => QM_v r (scr_mS fw)⟩
/-! ===== the tape ===== -/
theorem tp1_f {a c : Nat} {iv : Nat → Nat → Int} {x k : Int} : ∀ i j, i ≠ a → ¬ (i = 0 ∧ j = c) → tp1 a c iv x k i j = iv i j := fun i j p q => by unfold tp1; rw [iu_ap, if_neg q, iu_o p]
theorem tp4_f {a c : Nat} {iv : Nat → Nat → Int} {x : Int} : ∀ i j, i ≠ a → ¬ (i = 0 ∧ j = c) → tp4 a c iv x i j = iv i j := fun i j p q => by unfold tp4; rw [tp1_f i j p q, tp1_f i j p q, tp1_f i j p q, tp1_f i j p q]
theorem RF_1 {c m : Nat → Nat → Int} {x k : Int} (h : RF c m) (hn : m 0 43 < 600) : RF (tp1 54 10 c x k) (tp1 28 43 m x k) := by
  obtain ⟨a1, a2, a3, a4, a5, a6⟩ := h
  have e54 : ∀ j, tp1 54 10 c x k 54 j = if j = (m 0 43).toNat then zi2b (zshr x k) else c 54 j := fun j => by unfold tp1; rw [iu_o (by decide), a1, iu_i]
  have e28 : ∀ j, tp1 28 43 m x k 28 j = if j = (m 0 43).toNat then zi2b (zshr x k) else m 28 j := fun j => by unfold tp1; rw [iu_o (by decide), iu_i]
  have zr := zi2b_r (zshr x k)
  refine ⟨by rw [tp1_c, tp1_c, a1], by rw [tp1_c]; omega, fun q q0 q1 => ?_, fun q q0 q1 => ?_, fun q q0 q1 => ?_, ?_⟩
  · rw [tp1_c] at q1
    rw [e54, e28]
    by_cases g : q.toNat = (m 0 43).toNat
    · rw [if_pos g, if_pos g]
    · rw [if_neg g, if_neg g]; exact a3 q q0 (by omega)
  · rw [e54]
    by_cases g : q.toNat = (m 0 43).toNat
    · rw [if_pos g]; exact zr
    · rw [if_neg g]; exact a4 q q0 q1
  · rw [e28]
    by_cases g : q.toNat = (m 0 43).toNat
    · rw [if_pos g]; exact zr
    · rw [if_neg g]; exact a5 q q0 q1
  · rw [show tp1 28 43 m x k 29 = m 29 from funext fun j => tp1_f _ _ (by decide) (by omega)]; exact a6
theorem RF_4 {c m : Nat → Nat → Int} {x : Int} (h : RF c m) (hn : m 0 43 ≤ 596) : RF (tp4 54 10 c x) (tp4 28 43 m x) := by
  unfold tp4
  have h1 := RF_1 (x := x) (k := 24) h (by omega)
  have h2 := RF_1 (x := x) (k := 16) h1 (by rw [tp1_c]; omega)
  have h3 := RF_1 (x := x) (k := 8) h2 (by rw [tp1_c, tp1_c]; omega)
  exact RF_1 (x := x) (k := 0) h3 (by rw [tp1_c, tp1_c, tp1_c]; omega)
theorem P_feed {G G' : ZG} {c m : Nat → Nat → Int} {rv : Nat → Nat → Option Nat} {B : Int} {x1 x2 x3 x4 x5 : Int} (h : RL B c rv m) (hB : 0 ≤ B ∧ B ≤ 10000000) (hx1 : -2147483648 ≤ x1 ∧ x1 ≤ 2147483647) (hx2 : -2147483648 ≤ x2 ∧ x2 ≤ 2147483647) (hx3 : -2147483648 ≤ x3 ∧ x3 ≤ 2147483647) (hx4 : -2147483648 ≤ x4 ∧ x4 ≤ 2147483647) (hx5 : -2147483648 ≤ x5 ∧ x5 ≤ 2147483647) : Z G mX11_feed 40 0 0 0 [vr (some 0), vi x1, vi x2, vi x3, vi x4, vi x5] [] (mkC c rv) (QC G' mX12_feed [vr (some 0), vi x1, vi x2, vi x3, vi x4, vi x5] m (B + 1000)) := by
  obtain ⟨a0, a1, a2, a3, a4, a5, a6, a7, a8, a9, a10, a11, a12, a13⟩ := id h
  have t1 := a11.1
  have t2 := a11.2.1
  apply sX11_feed_0 a0
  refine ⟨fun p => ?_, fun p => ⟨c, rv, rfl, sX12_feed_0 ⟨by omega, fun e => by omega, fun _ => QM_i rfl (RL_B h (by omega))⟩⟩⟩
  simp only [tp4_c]
  refine ⟨by omega, by omega, by omega, by omega, by omega, _, rv, rfl, ?_⟩
  apply sX12_feed_0
  simp only [tp4_c]
  refine ⟨by omega, fun _ => ⟨by omega, by omega, by omega, by omega, by omega, QM_i (by omega) (RL_B (B := B) ?_ (by omega))⟩, fun e => by omega⟩
  have f1 := RF_4 (x := x1) a11 (by omega)
  have f2 := RF_4 (x := x2) f1 (by rw [tp4_c]; omega)
  have f3 := RF_4 (x := x3) f2 (by rw [tp4_c, tp4_c]; omega)
  have f4 := RF_4 (x := x4) f3 (by rw [tp4_c, tp4_c, tp4_c]; omega)
  have f5 := RF_4 (x := x5) f4 (by rw [tp4_c, tp4_c, tp4_c, tp4_c]; omega)
  have hc : ∀ i j, i ≠ 54 ∧ ¬ (i = 0 ∧ j = 10) → tp4 54 10 (tp4 54 10 (tp4 54 10 (tp4 54 10 (tp4 54 10 c x1) x2) x3) x4) x5 i j = c i j := fun i j q => by rw [tp4_f i j q.1 q.2, tp4_f i j q.1 q.2, tp4_f i j q.1 q.2, tp4_f i j q.1 q.2, tp4_f i j q.1 q.2]
  have hm : ∀ i j, i ≠ 28 ∧ ¬ (i = 0 ∧ j = 43) → tp4 28 43 (tp4 28 43 (tp4 28 43 (tp4 28 43 (tp4 28 43 m x1) x2) x3) x4) x5 i j = m i j := fun i j q => by rw [tp4_f i j q.1 q.2, tp4_f i j q.1 q.2, tp4_f i j q.1 q.2, tp4_f i j q.1 q.2, tp4_f i j q.1 q.2]
  generalize tp4 54 10 (tp4 54 10 (tp4 54 10 (tp4 54 10 (tp4 54 10 c x1) x2) x3) x4) x5 = c' at *
  generalize tp4 28 43 (tp4 28 43 (tp4 28 43 (tp4 28 43 (tp4 28 43 m x1) x2) x3) x4) x5 = m' at *
  refine ⟨a0, ?_, RT_f a2 (fun i j q => hc i j (by omega)) (fun i j q => hm i j (by omega)), RS_f a3 (fun i j q => hc i j (by omega)) (fun i j q => hm i j (by omega)), RR_f a4 (fun j => hc _ _ (by omega)) (hm _ _ (by omega)) (hm _ _ (by omega)), RP_f a5 (fun i j q => hc i j (by omega)) (fun i j q => hm i j (by omega)), RSd_f a6 (fun i j q => hc i j (by omega)) (fun i j q => hm i j (by omega)), RB_f a7 (fun i j q => hc i j (by omega)), RO_f a8 (fun i j q => hc i j (by omega)), RK_f a9 (fun i j q => hc i j (by omega)) (fun i j q => hm i j (by omega)), RN_f a10 (fun i j q => hc i j (by omega)) (fun i j q => hm i j (by omega)), ?_, RG_f a12 (fun i j q => hc i j (by omega)) (fun j q => hm _ _ (by omega)), RH_f a13 (fun i j q => hc i j (by omega)) (fun i j q => hm i j (by omega))⟩
  · rw [hc 0 17 (by omega), hm 0 0 (by omega)]; exact a1
  · exact f5

