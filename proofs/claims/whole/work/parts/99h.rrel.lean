/-! ===== a run: both worlds while it goes ===== -/
theorem sd_ne {s t : Int} (hs : s = 0 ∨ s = 1) (ht : t = 0 ∨ t = 1) (n : t ≠ s) : (sdA s = 16 ∧ sdA t = 20) ∨ (sdA s = 20 ∧ sdA t = 16) := by
  rcases hs with e | e <;> rcases ht with f | f <;> subst e <;> subst f <;> simp_all [sdA]
def RX (B : Int) (p : Nat) (c m : Nat → Nat → Int) (rv : Nat → Nat → Option Nat) : Prop := RS c m ∧ RR B c m ∧ ShR p c rv m
def RY (B : Int) (a b : Nat) (c m : Nat → Nat → Int) : Prop := (∀ s : Int, (s = 0 ∨ s = 1) → RD c m s ∧ SK c (sdA s) ∧ (0 ≤ c (sdA s) 6 ∧ c (sdA s) 6 ≤ B + c (sdA s) 4)) ∧ c 24 9 < bNow c ∧ (c 40 7 = m 0 81 ∧ (m 0 81 = 0 ∨ m 0 81 = 1)) ∧ mkR a b c m
def mA (a b : Nat) (rv : Nat → Nat → Option Nat) : Prop := rv 40 3 = some a ∧ rv 40 4 = some b ∧ ((a = 50 ∧ b = 51) ∨ (a = 52 ∧ b = 53))
theorem mA_s {a b : Nat} {rv : Nat → Nat → Option Nat} (h : mA a b rv) : ShC[a]? = some (.inr (0, 8)) ∧ ShC[b]? = some (.inr (0, 8)) := by
  rcases h.2.2 with ⟨e, f⟩ | ⟨e, f⟩ <;> subst e <;> subst f <;> exact ⟨rfl, rfl⟩
def rF (a b : Nat) (c c' : Nat → Nat → Int) : Prop := ∀ i j, ¬ (16 ≤ i ∧ i ≤ 23) → ¬ (i = 40 ∧ 7 ≤ j ∧ j ≤ 10) → ¬ ((i = a ∨ i = b) ∧ (50 ≤ i ∧ i ≤ 53)) → c' i j = c i j
def rM (m m' : Nat → Nat → Int) : Prop := ∀ i j, i ≠ 7 → i ≠ 8 → i ≠ 9 → i ≠ 10 → i ≠ 15 → i ≠ 47 → i ≠ 48 → ¬ (51 ≤ i ∧ i ≤ 54) → ¬ (i = 0 ∧ (j = 20 ∨ j = 79 ∨ j = 80 ∨ j = 81)) → m' i j = m i j
theorem rF_r {a b : Nat} {c : Nat → Nat → Int} : rF a b c c := fun _ _ _ _ _ => rfl
theorem rF_t {a b : Nat} {c c' c'' : Nat → Nat → Int} (h : rF a b c c') (h' : rF a b c' c'') : rF a b c c'' := fun i j x y z => by rw [h' i j x y z, h i j x y z]
theorem rM_r {c : Nat → Nat → Int} : rM c c := fun _ _ _ _ _ _ _ _ _ _ _ => rfl
theorem rM_t {c c' c'' : Nat → Nat → Int} (h : rM c c') (h' : rM c' c'') : rM c c'' := fun i j a1 a2 a3 a4 a5 a6 a7 a8 a9 => by rw [h' i j a1 a2 a3 a4 a5 a6 a7 a8 a9, h i j a1 a2 a3 a4 a5 a6 a7 a8 a9]
theorem RX_f {B : Int} {p a b : Nat} {c c' m m' : Nat → Nat → Int} {rv : Nat → Nat → Option Nat} (h : RX B p c m rv) (hc : rF a b c c') (hm : rM m m') : RX B p c' m' rv := by
  obtain ⟨a1, a2, a3⟩ := h
  have hp : p = 55 ∨ p = 119 := a3.1
  refine ⟨RS_f a1 (fun i j e => hc i j (by omega) (by omega) (by omega)) (fun i j e => hm i j (by omega) (by omega) (by omega) (by omega) (by omega) (by omega) (by omega) (by omega) (by omega)), RR_f a2 (fun j => hc _ _ (by omega) (by omega) (by omega)) (hm _ _ (by omega) (by omega) (by omega) (by omega) (by omega) (by omega) (by omega) (by omega) (by omega)) (hm _ _ (by omega) (by omega) (by omega) (by omega) (by omega) (by omega) (by omega) (by omega) (by omega)), ShR_f a3 (fun i j e f => hc i j (by omega) (by omega) (by omega)) (fun _ _ _ _ => rfl) (fun i j e => hm i j (by omega) (by omega) (by omega) (by omega) (by omega) (by omega) (by omega) (by omega) (by omega))⟩
theorem RY_c {B : Int} {a b : Nat} {c c' m m' : Nat → Nat → Int} (h : RY B a b c m) (hab : 50 ≤ a ∧ 50 ≤ b) (hc : ∀ i j, ¬ (i = 40 ∧ ¬ j = 7) → c' i j = c i j) (hm : ∀ i j, i ≠ 15 → ¬ (51 ≤ i ∧ i ≤ 54) → ¬ (i = 0 ∧ (j = 20 ∨ j = 79 ∨ j = 80)) → m' i j = m i j) : RY B a b c' m' := by
  obtain ⟨a1, a2, a3, a4⟩ := h
  refine ⟨fun s hs => ?_, ?_, ?_, mkR_f a4 (fun i j e => hc i j (by omega)) (fun i j e => hm i j (by omega) (by omega) (by omega))⟩
  · obtain ⟨b1, b2, b3⟩ := a1 s hs
    have so := sdA_c s
    refine ⟨RD_f b1 (fun i j e => hc i j (by omega)) (hm _ _ (by omega) (by omega) (by omega)) (hm _ _ (by omega) (by omega) (by omega)) (fun k _ _ => ⟨hm _ _ (by omega) (by omega) (by omega), hm _ _ (by omega) (by omega) (by omega)⟩) (hm _ _ (by omega) (by omega) (by omega)) (fun q _ _ => hm _ _ (by omega) (by omega) (by omega)), SK_f b2 (fun i j e => hc i j (by omega)), ?_⟩
    rw [hc (sdA s) 6 (by omega), hc (sdA s) 4 (by omega)]; exact b3
  · unfold bNow at *
    rw [hc 24 9 (by omega), hc 16 6 (by omega), hc 20 6 (by omega), hc 14 2 (by omega)]; exact a2
  · rw [hc 40 7 (by omega), hm 0 81 (by omega) (by omega) (by omega)]; exact a3
theorem RY_st {B : Int} {a b : Nat} {c v m : Nat → Nat → Int} {s : Int} (h : RY B a b c m) (hab : 50 ≤ a ∧ 50 ≤ b) (hs : s = 0 ∨ s = 1) (q : stQ c v (sdA s)) : RY B a b v m := by
  have f : SdF c v (sdA s) := by
    rcases q with e | e
    · rw [e]; exact fun _ _ _ _ => rfl
    · exact e.1
  have so := sdA_c s
  obtain ⟨a1, a2, a3, a4⟩ := h
  refine ⟨fun t ht => ?_, ?_, ?_, mkR_f a4 (fun i j e => f i j (by omega) (by omega)) (fun i j e => rfl)⟩
  · obtain ⟨b1, b2, b3⟩ := a1 t ht
    have to := sdA_c t
    have cs : t = s ∨ (sdA s = 16 ∧ sdA t = 20) ∨ (sdA s = 20 ∧ sdA t = 16) := by
      by_cases n : t = s
      · exact Or.inl n
      · exact Or.inr (sd_ne hs ht n)
    have dj : sdA t = sdA s ∨ (sdA s = 16 ∧ sdA t = 20) ∨ (sdA s = 20 ∧ sdA t = 16) := by
      rcases cs with e | e
      · left; rw [e]
      · exact Or.inr e
    refine ⟨RD_f b1 (fun i j e => f i j (by omega) (by omega)) rfl rfl (fun k _ _ => ⟨rfl, rfl⟩) rfl (fun q _ _ => rfl), ?_, ?_⟩
    · rcases cs with e | e
      · subst e; exact SK_st q b2 (sdA_is t)
      · exact SK_f b2 (fun i j g => f i j (by omega) (by omega))
    · rw [f (sdA t) 6 (by omega) (by omega), f (sdA t) 4 (by omega) (by omega)]; exact b3
  · unfold bNow at *
    rw [f 24 9 (by omega) (by omega), f 16 6 (by omega) (by omega), f 20 6 (by omega) (by omega), f 14 2 (by omega) (by omega)]; exact a2
  · rw [f 40 7 (by omega) (by omega)]; exact a3
theorem RY_lay {B : Int} {a b : Nat} {c m : Nat → Nat → Int} {s k w : Int} {fc fm : Nat → Int} (h : RY B a b c m) (hab : 50 ≤ a ∧ 50 ≤ b) (hs : s = 0 ∨ s = 1) (hk : 1 ≤ k ∧ m 7 s.toNat + k ≤ 400) (hl : m 10 s.toNat = -1) (hf : ∀ j : Int, m 7 s.toNat ≤ j → j < m 7 s.toNat + k → fc j.toNat = fm (400 * s + j).toNat ∧ (0 ≤ fm (400 * s + j).toNat ∧ fm (400 * s + j).toNat ≤ 40)) : RY B a b (layC c (sdA s) (c (sdA s) 4) k fc w (c (sdA s) 6)) (layM m s (m 7 s.toNat) k fm w) := by
  have so := sdA_c s
  obtain ⟨a1, a2, a3, a4⟩ := h
  have e4 : c (sdA s) 4 = m 7 s.toNat := (a1 s hs).1.1
  rw [e4]
  have cr : ∀ i, i ≠ sdA s → i ≠ sdA s + 1 → i ≠ sdA s + 2 → layC c (sdA s) (m 7 s.toNat) k fc w (c (sdA s) 6) i = c i := fun i x y z => layC_o x y z
  have mr : ∀ i, i ≠ 7 → i ≠ 8 → i ≠ 9 → layM m s (m 7 s.toNat) k fm w i = m i := fun i x y z => layM_o x y z
  refine ⟨fun t ht => ?_, ?_, ?_, mkR_f a4 (fun i j e => by rw [cr i (by omega) (by omega) (by omega)]) (fun i j e => by rw [mr i (by omega) (by omega) (by omega)])⟩
  · obtain ⟨b1, b2, b3⟩ := a1 t ht
    by_cases n : t = s
    · subst n
      refine ⟨RD_lay ht b1 (by omega) hl hf, SK_n b2.1 (layC_j (by decide) (by decide)) ?_, ?_⟩
      · rw [layC_6, cr 14 (by omega) (by omega) (by omega)]; omega
      · rw [layC_6, layC_4]; omega
    · have dj := sd_ne hs ht n
      have tn : t.toNat ≠ s.toNat := by omega
      refine ⟨RD_f b1 (fun i j e => by rw [cr i (by omega) (by omega) (by omega)]) (layM_7o tn) (by rw [mr 10 (by decide) (by decide) (by decide)]) (fun q q0 q1 => ?_) (by rw [mr 0 (by decide) (by decide) (by decide)]) (fun q _ _ => by rw [mr 4 (by decide) (by decide) (by decide)]), SK_f b2 (fun i j e => by rw [cr i (by omega) (by omega) (by omega)]), ?_⟩
      · have := b1.2.1
        have := (a1 s hs).1.2.1
        rw [layM_8, layM_9, if_neg (by omega), if_neg (by omega)]
        exact ⟨rfl, rfl⟩
      · rw [cr (sdA t) (by omega) (by omega) (by omega)]; exact b3
  · unfold bNow at *
    rw [cr 24 (by omega) (by omega) (by omega), cr 14 (by omega) (by omega) (by omega)]
    rcases so with e | e <;> rw [e] <;> rw [layC_6]
    · rw [layC_o (i := 20) (by omega) (by omega) (by omega)]; omega
    · rw [layC_o (i := 16) (by omega) (by omega) (by omega)]; omega
  · rw [cr 40 (by omega) (by omega) (by omega), mr 0 (by decide) (by decide) (by decide)]; exact a3
theorem RY_lock {B : Int} {a b : Nat} {c m : Nat → Nat → Int} {s w : Int} (h : RY B a b c m) (hab : 50 ≤ a ∧ 50 ≤ b) (hs : s = 0 ∨ s = 1) (hn : m 7 s.toNat ≠ 0) (hw : 0 ≤ w ∧ w < m 0 4 ∧ 8 ≤ m 4 w.toNat) : RY B a b (iu c (sdA s) 5 w) (iu m 10 s.toNat w) := by
  have so := sdA_c s
  obtain ⟨a1, a2, a3, a4⟩ := h
  refine ⟨fun t ht => ?_, ?_, ?_, mkR_f a4 (fun i j e => iu_o (by omega)) (fun i j e => iu_o (by omega))⟩
  · obtain ⟨b1, b2, b3⟩ := a1 t ht
    by_cases n : t = s
    · subst n
      obtain ⟨d1, d2, d3, d4, d5⟩ := b1
      refine ⟨⟨?_, ?_, ?_, Or.inr ?_, fun k k0 k1 => ?_⟩, SK_f b2 (fun i j e => ?_), ?_⟩
      · rw [iu_k (by decide), iu_o (by decide)]; exact d1
      · rw [iu_o (by decide)]; exact d2
      · rw [iu_eq, iu_eq]
      · rw [iu_o (by decide), iu_eq, iu_o (by decide), iu_o (by decide)]; exact ⟨hn, hw⟩
      · rw [iu_o (by decide)] at k1
        rw [iu_o (by omega), iu_o (by omega), iu_o (by omega), iu_o (by omega)]; exact d5 k k0 k1
      · rw [iu_ap, if_neg (by omega)]
      · rw [iu_k (by decide), iu_k (by decide)]; exact b3
    · have dj := sd_ne hs ht n
      have tn : t.toNat ≠ s.toNat := by omega
      refine ⟨RD_f b1 (fun i j e => iu_o (by omega)) (iu_o (by decide)) (iu_k tn) (fun q q0 q1 => ⟨iu_o (by decide), iu_o (by decide)⟩) (iu_o (by decide)) (fun q _ _ => iu_o (by decide)), SK_f b2 (fun i j e => iu_o (by omega)), ?_⟩
      rw [iu_o (by omega), iu_o (by omega)]; exact b3
  · unfold bNow at *
    rw [iu_o (by omega), iu_k (by decide), iu_k (by decide), iu_o (by omega)]; exact a2
  · rw [iu_o (by omega), iu_o (by decide)]; exact a3
theorem RY_side {B : Int} {a b : Nat} {c m : Nat → Nat → Int} {s : Int} (h : RY B a b c m) (hab : 50 ≤ a ∧ 50 ≤ b) (hs : s = 0 ∨ s = 1) : RY B a b (iu c 40 7 s) (iu m 0 81 s) := by
  obtain ⟨a1, a2, a3, a4⟩ := h
  refine ⟨fun t ht => ?_, ?_, ?_, mkR_f a4 (fun i j e => iu_o (by omega)) (fun i j e => by rw [iu_ap, if_neg (by omega)])⟩
  · obtain ⟨b1, b2, b3⟩ := a1 t ht
    have so := sdA_c t
    refine ⟨RD_f b1 (fun i j e => iu_o (by omega)) (iu_o (by decide)) (iu_o (by decide)) (fun q q0 q1 => ⟨iu_o (by decide), iu_o (by decide)⟩) (iu_k (by decide)) (fun q _ _ => iu_o (by decide)), SK_f b2 (fun i j e => iu_o (by omega)), ?_⟩
    rw [iu_o (by omega), iu_o (by omega)]; exact b3
  · unfold bNow at *
    rw [iu_o (by omega), iu_o (by decide), iu_o (by decide), iu_o (by omega)]; exact a2
  · rw [iu_eq, iu_eq]; exact ⟨rfl, hs⟩
theorem RY_mark {B : Int} {a b : Nat} {c m : Nat → Nat → Int} {n : Int} (h : RY B a b c m) (hab : (a = 50 ∧ b = 51) ∨ (a = 52 ∧ b = 53)) (hn : 0 ≤ n ∧ n < 8 ∧ n < m 0 69) : RY B a b (iu (iu c a n.toNat (c 40 7)) b n.toNat (c (sdA (c 40 7)) 4)) (iu (iu m 47 n.toNat (m 0 81)) 48 n.toNat (m 7 (m 0 81).toNat)) := by
  obtain ⟨a1, a2, a3, a4⟩ := h
  have cr : ∀ (i j : Nat) (x y : Int), i < 50 → iu (iu c a n.toNat x) b n.toNat y i j = c i j := fun i j x y e => by rw [iu_o (by omega), iu_o (by omega)]
  have mr : ∀ (i j : Nat) (x y : Int), i ≠ 47 → i ≠ 48 → iu (iu m 47 n.toNat x) 48 n.toNat y i j = m i j := fun i j x y e f => by rw [iu_o f, iu_o e]
  refine ⟨fun t ht => ?_, ?_, ?_, fun q q0 q1 => ?_⟩
  · obtain ⟨b1, b2, b3⟩ := a1 t ht
    have so := sdA_c t
    refine ⟨RD_f b1 (fun i j e => cr i j _ _ (by omega)) (mr _ _ _ _ (by decide) (by decide)) (mr _ _ _ _ (by decide) (by decide)) (fun q q0 q1 => ⟨mr _ _ _ _ (by decide) (by decide), mr _ _ _ _ (by decide) (by decide)⟩) (mr _ _ _ _ (by decide) (by decide)) (fun q _ _ => mr _ _ _ _ (by decide) (by decide)), SK_f b2 (fun i j e => cr i j _ _ (by omega)), ?_⟩
    rw [cr _ _ _ _ (by omega), cr _ _ _ _ (by omega)]; exact b3
  · unfold bNow at *
    rw [cr _ _ _ _ (by omega), cr _ _ _ _ (by omega), cr _ _ _ _ (by omega), cr _ _ _ _ (by omega)]; exact a2
  · rw [cr _ _ _ _ (by omega), mr _ _ _ _ (by decide) (by decide)]; exact a3
  · have hb := a4 q q0 q1
    rw [mr 0 69 _ _ (by decide) (by decide)]
    have e4 := (a1 (m 0 81) a3.2).1.1
    rw [a3.1, e4]
    by_cases g : q = n
    · subst g
      rw [iu_o (i := a) (by omega), iu_eq, iu_eq, iu_o (i := 47) (by decide), iu_eq, iu_eq]
      exact ⟨rfl, fun _ => rfl, fun z => by omega⟩
    · have gn : q.toNat ≠ n.toNat := by omega
      rw [iu_k gn, iu_k gn, iu_k gn, iu_k gn, iu_k gn, iu_k gn, iu_k gn, iu_k gn]
      exact hb

