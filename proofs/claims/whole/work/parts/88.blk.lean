/-! ===== reading in step: blocks of steps ===== -/
/-- what the reading of a sheet changes in the model -/
def mF (m v : Nat → Nat → Int) : Prop := ∀ i j, i ≠ 42 → i ≠ 44 → i ≠ 45 → i ≠ 46 → ¬ (i = 0 ∧ (j = 45 ∨ j = 46 ∨ j = 47 ∨ j = 48 ∨ j = 50 ∨ j = 51 ∨ j = 70 ∨ j = 71 ∨ j = 74)) → v i j = m i j
theorem mF_r {m : Nat → Nat → Int} : mF m m := fun _ _ _ _ _ _ _ => rfl
theorem mF_t {m v w : Nat → Nat → Int} (h : mF m v) (h' : mF v w) : mF m w := fun i j a b c e f => by rw [h' i j a b c e f, h i j a b c e f]
theorem mF_k {m v : Nat → Nat → Int} (h : kF m v) : mF m v := fun i j a b _ _ f => h i j a b (by omega)
theorem mF_nws {m : Nat → Nat → Int} {kd : Int} (h : MT m) : mF m (nws m kd) := fun i j a _ _ _ f => (nws_f h).2.1 i j a (by omega)
theorem mF_push {i : Int} {m : Nat → Nat → Int} : mF m (pushV i m) := fun a j _ _ c e f => by
  unfold pushV
  rw [iu_ap, if_neg (by omega), iu_o e, iu_o c]
theorem mF_cl {i : Int} {m : Nat → Nat → Int} : mF m (cl2 i m) := fun a j b _ _ _ _ => by rw [cl2_f a b]
theorem mF_u {m v : Nat → Nat → Int} {a j : Nat} {x : Int} (h : mF m v) (ha : a = 42 ∨ a = 46 ∨ (a = 0 ∧ j = 74)) : mF m (iu v a j x) := fun i q b c d e f => by
  rw [iu_ap, if_neg (by omega)]; exact h i q b c d e f
theorem mF_end {kd i : Int} {m : Nat → Nat → Int} : mF m (endV kd i m).2 := by
  unfold endV
  split
  · split
    · exact mF_t (mF_k kF_nx) mF_push
    · exact mF_k kF_fail
  · split
    · exact mF_k kF_nx
    · exact mF_k kF_fail
theorem mF_step {m : Nat → Nat → Int} (h : MT m) : mF m (stepV m).2 := by
  have a := mF_nws (kd := knd (wM m)) h
  have t1 := (nws_f (kd := knd (wM m)) h).1
  have b := mid_f (kd := knd (wM m)) (i := m 0 70) t1
  have e := optW_f (kd := knd (wM m)) (i := m 0 70) b.2
  unfold stepV
  split
  · exact mF_k kF_fail
  · split
    · exact mF_k kF_fail
    · split
      · exact mF_t a (mF_k b.1)
      · split
        · exact mF_t (mF_t a (mF_k b.1)) (mF_k e.1)
        · exact mF_t (mF_t (mF_t a (mF_k b.1)) (mF_k e.1)) mF_end
theorem mF_close {m : Nat → Nat → Int} : mF m (closeV m).2 := by
  have n : mF m (nx m) := mF_k kF_nx
  unfold closeV
  split
  · exact mF_u (mF_u n (Or.inl rfl)) (Or.inr (Or.inr ⟨rfl, rfl⟩))
  · split
    · exact mF_u (mF_t n mF_cl) (Or.inr (Or.inr ⟨rfl, rfl⟩))
    · split
      · exact mF_u (mF_t n mF_cl) (Or.inr (Or.inr ⟨rfl, rfl⟩))
      · split
        · exact mF_t (mF_u (mF_t (mF_t n mF_cl) (mF_k kF_nx)) (Or.inr (Or.inl rfl))) (mF_k kF_nx)
        · exact mF_t (mF_u (mF_t (mF_t n mF_cl) (mF_k kF_nx)) (Or.inr (Or.inl rfl))) (mF_k kF_fail)
/-- the class cannot see the model's stack, nor where blocks end -/
theorem PR_m {o : Nat} {c m m' : Nat → Nat → Int} (h : PR o c m) (e29 : m' 29 = m 29) (e44 : m' 44 = m 44) (e0 : ∀ j, j ≠ 74 → m' 0 j = m 0 j) (e42 : ∀ i w : Int, 0 ≤ i → 0 ≤ w → w < 12 → w ≠ 7 → w ≠ 8 → m' 42 (12 * i + w).toNat = m 42 (12 * i + w).toNat) : PR o c m' := by
  obtain ⟨a, b, e, f⟩ := h
  refine ⟨?_, ?_, ?_, ?_⟩
  · unfold PT TxM at *
    rw [e29, e0 44 (by decide), e0 45 (by decide), e0 46 (by decide), e0 47 (by decide), e0 48 (by decide)]; exact a
  · unfold PF at *
    rw [e0 50 (by decide), e0 51 (by decide)]; exact b
  · unfold PN at *
    rw [e29, e44, e0 44 (by decide), e0 71 (by decide)]; exact e
  · unfold PS at *
    rw [e0 70 (by decide), e0 51 (by decide)]
    refine ⟨f.1, f.2.1, fun z i i0 i1 => ?_⟩
    have s := f.2.2 z i i0 i1
    unfold stE at *
    rw [e42 i 0 i0 (by omega) (by omega) (by omega) (by omega), e42 i 1 i0 (by omega) (by omega) (by omega) (by omega), e42 i 2 i0 (by omega) (by omega) (by omega) (by omega), e42 i 3 i0 (by omega) (by omega) (by omega) (by omega), e42 i 4 i0 (by omega) (by omega) (by omega) (by omega), e42 i 5 i0 (by omega) (by omega) (by omega) (by omega), e42 i 6 i0 (by omega) (by omega) (by omega) (by omega), e42 i 9 i0 (by omega) (by omega) (by omega) (by omega), e42 i 10 i0 (by omega) (by omega) (by omega) (by omega), e42 i 11 i0 (by omega) (by omega) (by omega) (by omega)]
    exact s
theorem PR_push {o : Nat} {c m : Nat → Nat → Int} {i : Int} (h : PR o c m) : PR o c (pushV i m) := by
  unfold pushV
  refine PR_m h ?_ ?_ ?_ ?_
  · rw [iu_row (by decide), iu_row (by decide), iu_row (by decide)]
  · rw [iu_row (by decide), iu_row (by decide), iu_row (by decide)]
  · intro j n
    rw [iu_k n, iu_o (by decide), iu_o (by decide)]
  · intro a w _ _ _ _ _
    rw [iu_o (by decide), iu_o (by decide), iu_o (by decide)]
theorem PR_e {o j : Nat} {c m : Nat → Nat → Int} {i x : Int} (h : PR o c m) (hi : 0 ≤ i) (hj : j = (12 * i + 7).toNat ∨ j = (12 * i + 8).toNat) : PR o c (iu m 42 j x) := by
  refine PR_m h (iu_row (by decide)) (iu_row (by decide)) (fun j _ => iu_o (by decide)) (fun a w _ _ _ _ _ => iu_k (by omega))
theorem PR_cl {o : Nat} {c m : Nat → Nat → Int} {i : Int} (h : PR o c m) (hi : 0 ≤ i) : PR o c (cl2 i m) := by
  unfold cl2
  exact PR_e (PR_e h hi (Or.inl rfl)) hi (Or.inr rfl)
theorem PR_74 {o : Nat} {c m : Nat → Nat → Int} {x : Int} (h : PR o c m) : PR o c (iu m 0 74 x) := PR_m h (iu_row (by decide)) (iu_row (by decide)) (fun j n => iu_k n) (fun a w _ _ _ _ _ => iu_o (by decide))
theorem PR_46 {o j : Nat} {c m : Nat → Nat → Int} {x : Int} (h : PR o c m) : PR o c (iu m 46 j x) := PR_m h (iu_row (by decide)) (iu_row (by decide)) (fun j n => iu_o (by decide)) (fun a w _ _ _ _ _ => iu_o (by decide))
/-- the head of a row of steps -/
def hd (o : Nat) (a e : Int) : Option Nat := if a = e then none else some (o + 2 + a.toNat)
/-- one step with what it holds -/
def StB (P : Int → Int → Prop) (o : Nat) (rv : Nat → Nat → Option Nat) (b : Nat → Int) (a n : Int) : Prop := a < n ∧ ((0 ≤ b (12 * a).toNat ∧ b (12 * a).toNat ≤ 4 ∧ n = a + 1) ∨ (b (12 * a).toNat = 5 ∧ b (12 * a + 7).toNat = n ∧ b (12 * a + 8).toNat = n ∧ rv (o + 2 + a.toNat) 10 = hd o (a + 1) n ∧ P (a + 1) n) ∨ (b (12 * a).toNat = 6 ∧ (a + 1 ≤ b (12 * a + 7).toNat ∧ b (12 * a + 7).toNat ≤ n) ∧ b (12 * a + 8).toNat = n ∧ rv (o + 2 + a.toNat) 10 = hd o (a + 1) (b (12 * a + 7).toNat) ∧ P (a + 1) (b (12 * a + 7).toNat) ∧ rv (o + 2 + a.toNat) 11 = hd o (b (12 * a + 7).toNat) n ∧ P (b (12 * a + 7).toNat) n))
/-- a row of steps, nested at most n deep -/
def Blk (o : Nat) (rv : Nat → Nat → Option Nat) (b : Nat → Int) : Nat → Int → Int → Prop
  | 0 => fun a e => a = e
  | n + 1 => fun a e => ∃ (k : Nat) (f : Nat → Int), f 0 = a ∧ f k = e ∧ ∀ i, i < k → StB (Blk o rv b n) o rv b (f i) (f (i + 1)) ∧ rv (o + 2 + (f i).toNat) 12 = if i + 1 < k then some (o + 2 + (f (i + 1)).toNat) else none
theorem up_le {k : Nat} {f : Nat → Int} (h : ∀ i, i < k → f i < f (i + 1)) : ∀ j, j ≤ k → f 0 + j ≤ f j ∧ f j + (k - j) ≤ f k := by
  have a : ∀ j, j ≤ k → f 0 + j ≤ f j := by
    intro j
    induction j with
    | zero => intro _; omega
    | succ j ih => intro q; have := ih (by omega); have := h j (by omega); omega
  have b : ∀ t, t ≤ k → f (k - t) + t ≤ f k := by
    intro t
    induction t with
    | zero => intro _; simp
    | succ t ih =>
      intro q
      have e1 := ih (by omega)
      have e2 := h (k - (t + 1)) (by omega)
      rw [show k - (t + 1) + 1 = k - t by omega] at e2
      omega
  intro j q
  have e := b (k - j) (by omega)
  rw [show k - (k - j) = j by omega] at e
  exact ⟨a j q, by omega⟩
theorem Blk_le {o : Nat} {rv : Nat → Nat → Option Nat} {b : Nat → Int} : ∀ {n : Nat} {a e : Int}, Blk o rv b n a e → a ≤ e
  | 0, a, e, h => by unfold Blk at h; omega
  | n + 1, a, e, h => by
    unfold Blk at h
    obtain ⟨k, f, h0, hk, hh⟩ := h
    have := up_le (fun i q => (hh i q).1.1) k (by omega)
    omega
theorem StB_c {P P' : Int → Int → Prop} {o : Nat} {rv rv' : Nat → Nat → Option Nat} {b b' : Nat → Int} {a n : Int} (h : StB P o rv b a n) (hP : ∀ x y, a < x → y ≤ n → P x y → P' x y) (hr : ∀ j, j ≠ 12 → rv' (o + 2 + a.toNat) j = rv (o + 2 + a.toNat) j) (h0 : b' (12 * a).toNat = b (12 * a).toNat) (h7 : b' (12 * a + 7).toNat = b (12 * a + 7).toNat) (h8 : b' (12 * a + 8).toNat = b (12 * a + 8).toNat) : StB P' o rv' b' a n := by
  unfold StB at *
  rw [h0, h7, h8, hr 10 (by decide), hr 11 (by decide)]
  refine ⟨h.1, ?_⟩
  rcases h.2 with q | ⟨q1, q2, q3, q4, q5⟩ | ⟨q1, q2, q3, q4, q5, q6, q7⟩
  · exact Or.inl q
  · exact Or.inr (Or.inl ⟨q1, q2, q3, q4, hP _ _ (by omega) (by omega) q5⟩)
  · exact Or.inr (Or.inr ⟨q1, q2, q3, q4, hP _ _ (by omega) (by omega) q5, q6, hP _ _ (by omega) (by omega) q7⟩)
theorem Blk_c {o : Nat} {rv rv' : Nat → Nat → Option Nat} {b b' : Nat → Int} : ∀ (n : Nat) (a e : Int), Blk o rv b n a e → 0 ≤ a → (∀ i : Int, a ≤ i → i < e → (∀ j, rv' (o + 2 + i.toNat) j = rv (o + 2 + i.toNat) j) ∧ b' (12 * i).toNat = b (12 * i).toNat ∧ b' (12 * i + 7).toNat = b (12 * i + 7).toNat ∧ b' (12 * i + 8).toNat = b (12 * i + 8).toNat) → Blk o rv' b' n a e
  | 0, a, e, h, _, _ => by unfold Blk at *; exact h
  | n + 1, a, e, h, ha, hh => by
    unfold Blk at *
    obtain ⟨k, f, f0, fk, ff⟩ := h
    have up := up_le (fun i q => (ff i q).1.1)
    refine ⟨k, f, f0, fk, fun i q => ?_⟩
    have u1 := up i (by omega)
    have u2 := up (i + 1) (by omega)
    obtain ⟨s, nx⟩ := ff i q
    obtain ⟨r, b0, b7, b8⟩ := hh (f i) (by omega) (by omega)
    refine ⟨StB_c s (fun x y xl yl p => Blk_c n x y p (by omega) (fun i' il ir => hh i' (by omega) (by omega))) (fun j _ => r j) b0 b7 b8, ?_⟩
    rw [r 12]; exact nx
/-- a row of steps, with its beginnings -/
def Chn (o : Nat) (rv : Nat → Nat → Option Nat) (b : Nat → Int) (n k : Nat) (f : Nat → Int) : Prop := ∀ i, i < k → StB (Blk o rv b n) o rv b (f i) (f (i + 1)) ∧ rv (o + 2 + (f i).toNat) 12 = if i + 1 < k then some (o + 2 + (f (i + 1)).toNat) else none
def fsn (k : Nat) (f : Nat → Int) (z : Int) : Nat → Int := fun i => if i ≤ k then f i else z
/-- one step more at the end -/
theorem Chn_snoc {o : Nat} {rv rv' : Nat → Nat → Option Nat} {b b' : Nat → Int} {n k : Nat} {f : Nat → Int} {z : Int} (h : Chn o rv b n k f) (h0 : 0 ≤ f 0) (hs : StB (Blk o rv' b' n) o rv' b' (f k) z) (hz : rv' (o + 2 + (f k).toNat) 12 = none) (hl : 0 < k → rv' (o + 2 + (f (k - 1)).toNat) 12 = some (o + 2 + (f k).toNat)) (hr : ∀ i : Int, f 0 ≤ i → i < f k → ∀ j, ¬ (0 < k ∧ i = f (k - 1) ∧ j = 12) → rv' (o + 2 + i.toNat) j = rv (o + 2 + i.toNat) j) (hb : ∀ j, j < (12 * f k).toNat → b' j = b j) : Chn o rv' b' n (k + 1) (fsn k f z) := by
  have up := up_le (fun i q => (h i q).1.1)
  intro i q
  have ef : ∀ t, t ≤ k → fsn k f z t = f t := fun t g => by unfold fsn; rw [if_pos g]
  have el : fsn k f z (k + 1) = z := by unfold fsn; rw [if_neg (by omega)]
  have um := up k (by omega)
  rw [ef i (by omega)]
  by_cases g : i = k
  · subst g
    rw [el, if_neg (by omega)]
    exact ⟨hs, hz⟩
  · have u1 := up i (by omega)
    have u2 := up (i + 1) (by omega)
    have uk := up (k - 1) (by omega)
    obtain ⟨s, nx⟩ := h i (by omega)
    rw [ef (i + 1) (by omega), if_pos (by omega)]
    have ne : ∀ i' : Int, f i < i' → i' < f (i + 1) → ¬ i' = f (k - 1) := by
      intro i' a c e
      by_cases q' : i + 1 ≤ k - 1
      · have hm := up_le (k := k - 1) (f := f) (fun t w => (h t (by omega)).1.1) (i + 1) (by omega)
        omega
      · have : k - 1 = i := by omega
        rw [this] at e; omega
    have nb : ∀ (i' w : Int), i' < f k → 0 ≤ i' → 0 ≤ w → w < 12 → b' (12 * i' + w).toNat = b (12 * i' + w).toNat := fun i' w a c e g => hb _ (by omega)
    have nb0 : ∀ (i' : Int), i' < f k → 0 ≤ i' → b' (12 * i').toNat = b (12 * i').toNat := fun i' a c => hb _ (by omega)
    refine ⟨StB_c s (fun x y xl yl p => Blk_c n x y p (by omega) (fun i' il ir => ⟨fun j => hr i' (by omega) (by omega) j (fun w => ne i' (by omega) (by omega) w.2.1), nb0 i' (by omega) (by omega), nb i' 7 (by omega) (by omega) (by omega) (by omega), nb i' 8 (by omega) (by omega) (by omega) (by omega)⟩)) (fun j j12 => hr (f i) (by omega) (by omega) j (fun w => j12 w.2.2)) (nb0 _ (by omega) (by omega)) (nb _ 7 (by omega) (by omega) (by omega) (by omega)) (nb _ 8 (by omega) (by omega) (by omega) (by omega)), ?_⟩
    by_cases g2 : i + 1 = k
    · subst g2
      have := hl (by omega)
      rw [show i + 1 - 1 = i by omega] at this
      exact this
    · have s1 : f i < f (k - 1) := by
        have hm := up_le (k := k - 1) (f := f) (fun t w => (h t (by omega)).1.1) i (by omega)
        omega
      rw [hr (f i) (by omega) (by omega) 12 (fun w => by omega), nx, if_pos (by omega)]
theorem Chn_blk {o : Nat} {rv : Nat → Nat → Option Nat} {b : Nat → Int} {n k : Nat} {f : Nat → Int} (h : Chn o rv b n k f) : Blk o rv b (n + 1) (f 0) (f k) := ⟨k, f, rfl, rfl, h⟩
/-- the state behind a piece of reading: the class beside the model -/
def StO (o : Nat) (c : Nat → Nat → Int) (rv : Nat → Nat → Option Nat) (m c' : Nat → Nat → Int) (rv' : Nat → Nat → Option Nat) (m' : Nat → Nat → Int) : Prop := (∀ G d K, CZ G d K m' → CZ G d K m) ∧ QR o c' m' ∧ sF c c' o (m 0 70) ∧ sR rv rv' o (m 0 70) ∧ mF m m' ∧ (m' 0 51 = 0 → PM m' ∧ m' 0 74 = m 0 74 ∧ (∀ t : Int, 0 ≤ t → t < m 0 74 → m' 45 t.toNat = m 45 t.toNat ∧ m' 46 t.toNat = m 46 t.toNat) ∧ m 0 70 ≤ m' 0 70 ∧ (∀ j, j < (12 * m 0 70).toNat → m' 42 j = m 42 j))
theorem RC_sR {rv rv' : Nat → Nat → Option Nat} {o : Nat} {s : Int} (hR : RC rv) (ho : isSh o) (h : sR rv rv' o s) : RC rv' := by
  intro i
  rw [h]
  · exact hR i
  · intro g
    by_cases q : i < ctC.length
    · refine ctk_st i q ?_
      rcases ho with e | e <;> subst e <;> omega
    · have : ctk i = (0, 0, 1) := by unfold ctk; rw [List.getD_eq_getElem?_getD, List.getElem?_eq_none (by omega)]; rfl
      rw [this] at g
      dsimp only at g
      omega
theorem sR_4 {rv rv' : Nat → Nat → Option Nat} {o : Nat} {s : Int} (h : sR rv rv' o s) (ht : rv o 4 = some 54) : rv' o 4 = some 54 := by rw [h o 4 (by omega)]; exact ht
theorem sF_t {c c' c'' : Nat → Nat → Int} {o : Nat} {s t : Int} (h : sF c c' o s) (h' : sF c' c'' o t) (hs : s ≤ t) : sF c c'' o s := fun a j p q => by rw [h' a j (by omega) q, h a j p q]
theorem sR_t {c c' c'' : Nat → Nat → Option Nat} {o : Nat} {s t : Int} (h : sR c c' o s) (h' : sR c' c'' o t) (hs : s ≤ t) : sR c c'' o s := fun a j p => by rw [h' a j (by omega), h a j p]
theorem sF_h {c c' : Nat → Nat → Int} {o : Nat} {s : Int} (h : hF c c' o s.toNat) (hs : 0 ≤ s ∧ s < 60) : sF c c' o s := fun a j p q => h a j (by omega) (by omega) (by omega) (by omega)
theorem sR_u {rv rv' : Nat → Nat → Option Nat} {o p j : Nat} {s : Int} {x : Option Nat} (h : sR rv rv' o s) (hp : o + 2 + s.toNat ≤ p ∧ p < o + 62) : sR rv (ru rv' p j x) o s := fun a i q => by rw [ru_o (fun e => q (by rw [e]; exact hp))]; exact h a i q
theorem StO_t {o : Nat} {c c' c'' m m' m'' : Nat → Nat → Int} {rv rv' rv'' : Nat → Nat → Option Nat} (h : StO o c rv m c' rv' m') (z : m' 0 51 = 0) (h' : StO o c' rv' m' c'' rv'' m'') : StO o c rv m c'' rv'' m'' := by
  obtain ⟨a1, a2, a3, a4, a5, a6⟩ := h
  obtain ⟨b1, b2, b3, b4, b5, b6⟩ := h'
  obtain ⟨p1, p2, p3, p4, p5⟩ := a6 z
  refine ⟨fun G d K k => a1 G d K (b1 G d K k), b2, sF_t a3 b3 p4, sR_t a4 b4 p4, mF_t a5 b5, fun w => ?_⟩
  obtain ⟨q1, q2, q3, q4, q5⟩ := b6 w
  refine ⟨q1, by omega, fun t t0 t1 => ?_, by omega, fun j g => ?_⟩
  · rw [(q3 t t0 (by omega)).1, (q3 t t0 (by omega)).2]; exact p3 t t0 t1
  · rw [q5 j (by omega), p5 j g]

