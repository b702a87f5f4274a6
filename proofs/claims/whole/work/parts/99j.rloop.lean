/-! ===== a run: the model's loop ===== -/
def LJ (G : ZG) (d : Nat) (K : Option AV → AH → Prop) (n x i : Int) (v : Nat → Nat → Int) : Prop := Z G mX12_run (d + 5) 0 0 95 [vr (some 0), vi n, vi x, vi i, vu, vu, vu, vu] [] (mkM v) K
def XJ (G : ZG) (d : Nat) (K : Option AV → AH → Prop) (v : Nat → Nat → Int) : Prop := Z G mX12_run (d + 5) 0 0 425 [vr (some 0), vu, vu, vu, vu, vu, vu, vu] [] (mkM v) K
def DJ (G : ZG) (d : Nat) (K : Option AV → AH → Prop) (n x i : Int) (v : Nat → Nat → Int) : Prop := Z G mX12_run (d + 5) 0 0 210 [vr (some 0), vi n, vi x, vi i, vu, vu, vu, vu] [] (mkM v) K
/-- the model goes on from a state, whatever its scratch rows hold -/
def JZ (G : ZG) (d : Nat) (K : Option AV → AH → Prop) (n x i : Int) (m : Nat → Nat → Int) : Prop := ∀ v, mScr m v → (m 0 79 = 0 → LJ G d K n x i v) ∧ (¬ m 0 79 = 0 → XJ G d K v)
theorem LJ_of {G : ZG} {d : Nat} {K : Option AV → AH → Prop} {n x i : Int} {m v : Nat → Nat → Int} (h : JZ G d K n x i m) (s : mScr m v) : LJ G d K n x i v := by
  by_cases z : m 0 79 = 0
  · exact (h v s).1 z
  · have e := s 0 79 (by decide) (by omega)
    have q := (h v s).2 z
    apply sX12_run_95
    rw [e]
    exact ⟨fun _ => q, fun _ => ⟨fun _ => q, fun g => absurd g z⟩⟩
theorem JZ_e {G : ZG} {d : Nat} {K : Option AV → AH → Prop} {n n' x x' i i' : Int} {m : Nat → Nat → Int} (z : ¬ m 0 79 = 0) (h : JZ G d K n x i m) : JZ G d K n' x' i' m := fun v s => ⟨fun q => absurd q z, (h v s).2⟩
theorem J_last0 {G : ZG} {d : Nat} {K : Option AV → AH → Prop} {n x i : Int} {m : Nat → Nat → Int} (hx : 0 ≤ x ∧ x < 8) (z : m 0 79 = 0) (hi : i = m 52 x.toNat) (ht : m 53 x.toNat ≤ 0) (h : JZ G d K n (x - 1) (m 54 x.toNat) m) : JZ G d K n x i m := by
  intro v s
  refine ⟨fun _ => ?_, fun q => absurd z q⟩
  have h' := LJ_of h s
  unfold LJ at h'
  apply sX12_run_95
  rw [s 0 79 (by decide) (by omega), s 52 _ (by decide) (by omega), s 53 _ (by decide) (by omega), s 54 _ (by decide) (by omega), show x + (-1) = x - 1 by omega]
  exact ⟨fun q => by omega, fun _ => ⟨fun q => absurd z q, fun _ => ⟨by omega, fun q => absurd hi q, fun _ => ⟨by omega, fun _ => ⟨by omega, by omega, h'⟩, fun q => by omega⟩⟩⟩⟩
theorem J_last1 {G : ZG} {d : Nat} {K : Option AV → AH → Prop} {n x i : Int} {m : Nat → Nat → Int} (hx : 0 ≤ x ∧ x < 8) (z : m 0 79 = 0) (hi : i = m 52 x.toNat) (ht : 0 < m 53 x.toNat ∧ m 53 x.toNat ≤ 100) (h : JZ G d K n x (m 51 x.toNat) (iu m 53 x.toNat (m 53 x.toNat - 1))) : JZ G d K n x i m := by
  intro v s
  refine ⟨fun _ => ?_, fun q => absurd z q⟩
  have h' := LJ_of h (mScr_u (o := 53) (k := x.toNat) (x := m 53 x.toNat - 1) (y := m 53 x.toNat - 1) s rfl)
  unfold LJ at h'
  apply sX12_run_95
  rw [s 0 79 (by decide) (by omega), s 52 _ (by decide) (by omega), s 53 _ (by decide) (by omega), s 51 _ (by decide) (by omega)]
  exact ⟨fun q => by omega, fun _ => ⟨fun q => absurd z q, fun _ => ⟨by omega, fun q => absurd hi q, fun _ => ⟨by omega, fun q => by omega, fun _ => ⟨by omega, by omega, by omega, by omega, h'⟩⟩⟩⟩⟩
theorem mB_r {m : Nat → Nat → Int} {i : Int} (h : -1 ≤ m 32 i.toNat ∧ m 32 i.toNat ≤ 59) : 0 ≤ mB m i ∧ mB m i ≤ 59 := by unfold mB; split <;> omega
theorem mE_r {m : Nat → Nat → Int} {i : Int} (h : m 33 i.toNat = -1 ∨ (1 ≤ m 33 i.toNat ∧ m 33 i.toNat ≤ 60)) (l : 0 ≤ m 4 (m 31 i.toNat).toNat ∧ m 4 (m 31 i.toNat).toNat ≤ 60) : 0 ≤ mE m i ∧ mE m i ≤ 60 := by unfold mE; split <;> omega
/-- what the model's steps lie upon -/
theorem st_pre {B i : Int} {p a b : Nat} {c m : Nat → Nat → Int} {rv : Nat → Nat → Option Nat} (hX : RX B p c m rv) (hY : RY B a b c m) (hi : 0 ≤ i ∧ i < m 0 68) : (0 ≤ i ∧ i < 60) ∧ okSide m (m 0 81) ∧ (0 ≤ m 0 4 ∧ m 0 4 ≤ 10) ∧ (m 30 i.toNat = 1 → 0 ≤ m 31 i.toNat ∧ m 31 i.toNat ≤ 100) ∧ (m 30 i.toNat = 2 → (0 ≤ mB m i ∧ mB m i ≤ 59) ∧ (0 ≤ mE m i ∧ mE m i ≤ 60)) := by
  obtain ⟨rs, rr, sh⟩ := hX
  obtain ⟨st, wf, nb⟩ := sh.2.2.2.2.2 i hi.1 hi.2
  have w := wf_at hi.1 wf
  have cu := hY.2.2.1.2
  refine ⟨by have := sh.2.1; clear w; omega, okSide_of (by clear w; omega) rr (hY.1 _ cu).1, rs.1.2, fun e => by have := w.2.2.1 e; clear w; omega, fun e => ?_⟩
  have k := w.2.2.2.1 (Or.inl e)
  have o := w.2.2.2.2.1 e
  clear w
  exact ⟨mB_r o.1, mE_r o.2.1 (rs.2.1 (m 31 i.toNat) k.1 (by omega)).2⟩
theorem J_wr {G : ZG} {d : Nat} {K : Option AV → AH → Prop} {B n x i : Int} {p a b : Nat} {c m : Nat → Nat → Int} {rv : Nat → Nat → Option Nat} (hX : RX B p c m rv) (hY : RY B a b c m) (hab : 50 ≤ a ∧ 50 ≤ b) (hi : 0 ≤ i ∧ i < m 0 68) (hx : 0 ≤ x ∧ x < 8) (z : m 0 79 = 0) (ne : ¬ i = m 52 x.toNat) (hn : 0 ≤ n ∧ n ≤ 1000) (hb : ¬ wrM m i = 0 → ∃ i', JZ G d K (n + 1) x i' (iu (iu m 0 79 (wrM m i)) 0 80 (m 36 i.toNat))) (h6 : wrM m i = 0 → 1000 < n + 1 → ∃ i', JZ G d K (n + 1) x i' (iu (iu m 0 79 6) 0 80 (m 36 i.toNat))) (h0 : wrM m i = 0 → n + 1 ≤ 1000 → ∀ v, mScr m v → DJ G d K (n + 1) x i v) : JZ G d K n x i m := by
  intro v s
  refine ⟨fun _ => ?_, fun q => absurd z q⟩
  have hXv := RX_v hX s
  have hYv := RY_v hY hab s
  have e68 : v 0 68 = m 0 68 := s 0 68 (by decide) (by omega)
  have ew : wrM v i = wrM m i := (wr_eq hXv hYv (by omega)).symm.trans (wr_eq hX hY hi)
  obtain ⟨q1, q2, q3, q4, q5⟩ := st_pre hXv hYv (i := i) (by omega)
  have wr := wrS_r (kd := m 30 i.toNat) (nu := m 31 i.toNat) (bg := mB m i) (en := mE m i) (ts := m 39 i.toNat) (sg := m 0 4) (ln := m 4 (m 31 i.toNat).toNat) (cn := m 7 (m 0 81).toNat) (lk := m 10 (m 0 81).toNat) (sk := stuckM m (m 0 81))
  have wr' : 0 ≤ wrM m i ∧ wrM m i ≤ 5 := wr
  clear wr
  apply sX12_run_95
  rw [s 0 79 (by decide) (by omega), s 52 _ (by decide) (by omega)]
  refine ⟨fun q => by omega, fun _ => ⟨fun q => absurd z q, fun _ => ⟨by omega, fun _ => ⟨by omega, ?_⟩, fun q => absurd q ne⟩⟩⟩
  refine M_wrongStep q1 q2 q3 q4 (fun e => by have := q5 e; clear q5 q4; omega) ?_
  rw [ew]
  apply sX12_run_167
  rw [s 36 _ (by decide) (by omega)]
  clear q4 q5 q2
  have bad : ¬ wrM m i = 0 → LJ G d K (n + 1) x i (iu (iu v 0 79 (wrM m i)) 0 80 (m 36 i.toNat)) := fun g => by
    obtain ⟨i', j⟩ := hb g
    refine LJ_of (JZ_e (n := n + 1) (x := x) (i := i') ?_ j) (mScr_u (mScr_u s rfl) rfl)
    rw [iu_k (by decide), iu_eq]; exact g
  have six : wrM m i = 0 → 1000 < n + 1 → LJ G d K (n + 1) x i (iu (iu (iu v 0 79 (wrM m i)) 0 79 6) 0 80 (m 36 i.toNat)) := fun g l => by
    obtain ⟨i', j⟩ := h6 g l
    refine LJ_of (JZ_e (n := n + 1) (x := x) (i := i') ?_ j) (mScr_u ?_ rfl)
    · rw [iu_k (by decide), iu_eq]; decide
    · intro i j e f
      rw [iu_ap, iu_ap, iu_ap]
      by_cases y : i = 0 ∧ j = 79
      · rw [if_pos y, if_pos y]
      · rw [if_neg y, if_neg y, if_neg y]; exact s i j e f
  have go : wrM m i = 0 → n + 1 ≤ 1000 → DJ G d K (n + 1) x i (iu v 0 79 (wrM m i)) := fun g l => by
    refine h0 g l _ ?_
    rw [g]
    intro i j e f
    rw [iu_ap]
    by_cases y : i = 0 ∧ j = 79
    · rw [if_pos y, y.1, y.2, z]
    · rw [if_neg y]; exact s i j e f
  exact ⟨fun a => ⟨fun b => by omega, fun b => ⟨by omega, bad a⟩⟩, fun a => ⟨fun b => ⟨fun _ => go a b, fun e => by omega⟩, fun b => ⟨by omega, six a b⟩⟩⟩
theorem mScr_lay {m v : Nat → Nat → Int} {s n k w : Int} {f : Nat → Int} (h : mScr m v) : mScr (layM m s n k f w) (layM v s n k f w) := by
  intro i j e g
  by_cases e7 : i = 7
  · subst e7
    by_cases q : j = s.toNat
    · subst q; rw [layM_7, layM_7]
    · rw [layM_7o q, layM_7o q]; exact h 7 j e g
  by_cases e8 : i = 8
  · subst e8; rw [layM_8, layM_8, h 8 j e g]
  by_cases e9 : i = 9
  · subst e9; rw [layM_9, layM_9, h 9 j e g]
  rw [layM_o e7 e8 e9, layM_o e7 e8 e9]; exact h i j e g
theorem mScr_pl {m v : Nat → Nat → Int} {i : Int} (h : mScr m v) : mScr (plM2 m i) (plM2 v i) := by
  have r : ∀ t, t ≠ 15 → t ≠ 0 → v t = m t := fun t a b => funext fun j => h t j a (by omega)
  have e81 : v 0 81 = m 0 81 := h 0 81 (by decide) (by omega)
  have eB : mB v i = mB m i := by unfold mB; rw [r 32 (by decide) (by decide)]
  have eE : mE v i = mE m i := by unfold mE; rw [r 33 (by decide) (by decide), r 4 (by decide) (by decide), r 31 (by decide) (by decide)]
  have eF : ∀ x y, fM v i x y = fM m i x y := fun x y => by unfold fM; rw [eB, eE, r 6 (by decide) (by decide), r 31 (by decide) (by decide), r 34 (by decide) (by decide), r 35 (by decide) (by decide)]
  unfold plM2
  rw [r 30 (by decide) (by decide), r 31 (by decide) (by decide), r 7 (by decide) (by decide), r 41 (by decide) (by decide), e81, eB, eE, eF]
  split
  · exact mScr_u h rfl
  · split
    · exact mScr_lay h
    · split
      · exact mScr_lay h
      · split
        · exact mScr_u h rfl
        · exact mScr_u (mScr_u h rfl) rfl
theorem D_plain {G : ZG} {d : Nat} {K : Option AV → AH → Prop} {B n x i : Int} {p a b : Nat} {c m v : Nat → Nat → Int} {rv : Nat → Nat → Option Nat} (hX : RX B p c m rv) (hY : RY B a b c m) (hab : 50 ≤ a ∧ 50 ≤ b) (hi : 0 ≤ i ∧ i < m 0 68) (hk : m 30 i.toNat ≤ 4) (hw : wrM m i = 0) (s : mScr m v) (h : JZ G d K n x (i + 1) (plM2 m i)) : DJ G d K n x i v := by
  have hXv := RX_v hX s
  have hYv := RY_v hY hab s
  have e68 : v 0 68 = m 0 68 := s 0 68 (by decide) (by omega)
  have ew : wrM v i = wrM m i := (wr_eq hXv hYv (by omega)).symm.trans (wr_eq hX hY hi)
  have hiv : 0 ≤ i ∧ i < v 0 68 := by omega
  obtain ⟨q1, q2, q3, q4, q5⟩ := st_pre hXv hYv (i := i) hiv
  have e30 : v 30 i.toNat = m 30 i.toNat := s 30 _ (by decide) (by omega)
  obtain ⟨w1, w2, w3, w4⟩ := wr0 (ew.trans hw)
  obtain ⟨rs, rr, sh⟩ := hXv
  obtain ⟨st, wf, nb⟩ := sh.2.2.2.2.2 i hiv.1 hiv.2
  have w := wf_at hi.1 wf
  have k06 := w.1
  have h' := LJ_of h (mScr_pl (i := i) s)
  unfold DJ
  apply sX12_run_210
  refine ⟨by clear w w1 w2 w3 w4 q4 q5; omega, fun e => by clear w w1 w2 w3 w4 q4 q5; omega, fun e => ⟨by clear w w1 w2 w3 w4 q4 q5; omega, fun e6 => ?_, fun e6 => by clear w w1 w2 w3 w4 q4 q5; omega⟩⟩
  refine M_does q1 (by clear w w1 w2 w3 w4 q4 q5; omega) q2.1 q2.2.1.1 (fun e1 => ?_) (fun e2 => ?_) (w.2.2.2.2.2.1) ?_
  · have t := w1 e1; have u := q4 e1
    exact ⟨u, t.2⟩
  · obtain ⟨t1, t2, t3, t4⟩ := w2 e2
    obtain ⟨o1, o2, o3, o4⟩ := w.2.2.2.2.1 e2
    obtain ⟨u1, u2⟩ := q5 e2
    clear w w1 w2 w3 w4 q4 q5
    exact ⟨⟨t1.1, by omega⟩, ⟨u1.1, t2.1, u2.2⟩, o4, o3.1, fun q q0 qq => ((rs.2.2 (v 31 i.toNat) t1.1 t1.2).2.2 q q0 (by omega)).2, t4⟩
  · apply sX12_run_419
    exact ⟨by clear w w1 w2 w3 w4 q4 q5; omega, h'⟩
def pushF (m : Nat → Nat → Int) (y f e t g : Int) : Nat → Nat → Int := iu (iu (iu (iu m 51 y.toNat f) 52 y.toNat e) 53 y.toNat t) 54 y.toNat g
theorem mScr_push {m v : Nat → Nat → Int} {y f e t g : Int} (h : mScr m v) : mScr (pushF m y f e t g) (pushF v y f e t g) := mScr_u (mScr_u (mScr_u (mScr_u h rfl) rfl) rfl) rfl
theorem D_again {G : ZG} {d : Nat} {K : Option AV → AH → Prop} {n x i : Int} {m v : Nat → Nat → Int} (hi : 0 ≤ i ∧ i < 60) (hx : 0 ≤ x ∧ x < 7) (hk : m 30 i.toNat = 5) (hn : 0 ≤ m 31 i.toNat ∧ m 31 i.toNat ≤ 9) (s : mScr m v) (h0 : m 31 i.toNat = 0 → JZ G d K n x (m 38 i.toNat) m) (h1 : 0 < m 31 i.toNat → JZ G d K n (x + 1) (i + 1) (pushF m (x + 1) (i + 1) (m 37 i.toNat) (m 31 i.toNat - 1) (m 38 i.toNat))) : DJ G d K n x i v := by
  have r : ∀ t, t ≠ 15 → t ≠ 0 → v t = m t := fun t a b => funext fun j => s t j a (by omega)
  unfold DJ
  apply sX12_run_210
  rw [r 30 (by decide) (by decide), r 31 (by decide) (by decide)]
  refine ⟨by omega, fun _ => ⟨by omega, fun e => absurd hk e, fun _ => ⟨by omega, fun a => ?_, fun a => ?_⟩⟩, fun e => absurd hk e⟩
  · have h' := LJ_of (h0 (by omega)) s
    apply sX12_run_265
    rw [r 30 (by decide) (by decide), r 38 (by decide) (by decide)]
    exact ⟨by omega, fun _ => ⟨by omega, by omega, fun e => absurd rfl e, fun _ => ⟨by omega, h'⟩⟩, fun e => by omega⟩
  · have h' := LJ_of (h1 a) (mScr_push s)
    unfold LJ pushF at h'
    apply sX12_run_265
    rw [r 30 (by decide) (by decide), r 31 (by decide) (by decide), r 37 (by decide) (by decide), r 38 (by decide) (by decide)]
    exact ⟨by omega, fun _ => ⟨by omega, by omega, fun _ => ⟨by omega, by omega, by omega, by omega, fun e => absurd hk e, fun _ => ⟨by omega, by omega, by omega, by omega, by omega, h'⟩⟩, fun e => absurd e (by decide)⟩, fun e => by omega⟩
theorem D_when {G : ZG} {d : Nat} {K : Option AV → AH → Prop} {B n x i H : Int} {p a b : Nat} {c m v : Nat → Nat → Int} {rv : Nat → Nat → Option Nat} (hX : RX B p c m rv) (hY : RY B a b c m) (hab : 50 ≤ a ∧ 50 ≤ b) (hi : 0 ≤ i ∧ i < m 0 68) (hx : 0 ≤ x ∧ x < 7) (hk : m 30 i.toNat = 6) (hw : wrM m i = 0) (s : mScr m v) (hH : ∀ w r, mScr m w → (¬ w 39 i.toNat = 2 → ¬ w 39 i.toNat = 0 → roomM w (w 0 81) r) → hlM w i r = H) (h0 : H = 0 → JZ G d K n (x + 1) (m 37 i.toNat) (pushF m (x + 1) (m 37 i.toNat) (m 38 i.toNat) 0 (m 38 i.toNat))) (h1 : ¬ H = 0 → JZ G d K n (x + 1) (i + 1) (pushF m (x + 1) (i + 1) (m 37 i.toNat) 0 (m 38 i.toNat))) : DJ G d K n x i v := by
  have hXv := RX_v hX s
  have hYv := RY_v hY hab s
  have e68 : v 0 68 = m 0 68 := s 0 68 (by decide) (by omega)
  have ew : wrM v i = wrM m i := (wr_eq hXv hYv (by omega)).symm.trans (wr_eq hX hY hi)
  have hiv : 0 ≤ i ∧ i < v 0 68 := by omega
  obtain ⟨q1, q2, q3, -, -⟩ := st_pre hXv hYv (i := i) hiv
  have e30 : v 30 i.toNat = 6 := (s 30 _ (by decide) (by omega)).trans hk
  have w4 := (wr0 (ew.trans hw)).2.2.2 e30
  obtain ⟨rs, rr, sh⟩ := hXv
  obtain ⟨st, wf, nb⟩ := sh.2.2.2.2.2 i hiv.1 hiv.2
  have w := (wf_at hi.1 wf).2.2.2.2.2.2 e30
  unfold DJ
  apply sX12_run_210
  rw [e30]
  refine ⟨by clear w w4; omega, fun e => absurd e (by decide), fun _ => ⟨by clear w w4; omega, fun e => absurd rfl e, fun _ => ⟨by clear w w4; omega, fun _ => ?_, fun e => absurd e (by decide)⟩⟩⟩
  refine M_holds q1 q2 (fun a b => w4 (by omega)) (fun a => by omega) (fun u r f rm => ?_)
  have su := mScr_t s f
  rw [hH v r s rm]
  show Z G mX12_run (d + 5) 0 0 263 [vr (some 0), vi n, vi x, vi i, vu, vu, vu, vu] [vi H] (mkM u) K
  apply sX12_run_263
  have r : ∀ t, t ≠ 15 → t ≠ 0 → u t = m t := fun t a b => funext fun j => su t j a (by omega)
  apply sX12_run_265
  rw [r 30 (by decide) (by decide), r 37 (by decide) (by decide), r 38 (by decide) (by decide)]
  clear w w4
  refine ⟨by omega, fun e => absurd hk e, fun _ => ⟨fun a => ⟨by omega, by omega, fun _ => ⟨by omega, by omega, by omega, by omega, fun _ => ⟨by omega, by omega, by omega, ?_⟩, fun e => by omega⟩, fun e => absurd e a⟩, fun a => ⟨by omega, by omega, fun e => absurd a e, fun _ => ⟨by omega, by omega, by omega, by omega, fun _ => ⟨by omega, by omega, by omega, ?_⟩, fun e => by omega⟩⟩⟩⟩
  · exact LJ_of (h1 a) (mScr_push su)
  · exact LJ_of (h0 a) (mScr_push su)

