/-! ===== the whole relation ===== -/
def RT (c m : Nat → Nat → Int) : Prop := ∀ t : Int, 0 ≤ t → t < 4 → (c (trA t) 1 = -1 ∧ c (trA t) 2 = 0 ∧ m 2 t.toNat = -1) ∨ ((0 ≤ m 2 t.toNat ∧ m 2 t.toNat ≤ 60) ∧ c (trA t) 2 = m 2 t.toNat ∧ c (trA t) 1 = m 1 t.toNat ∧ (0 ≤ m 1 t.toNat ∧ m 1 t.toNat ≤ 3) ∧ ∀ k : Int, 0 ≤ k → k < m 2 t.toNat → c (trA t + 1) k.toNat = m 3 (60 * t + k).toNat)
def RSd (B : Int) (c m : Nat → Nat → Int) : Prop := (∀ s : Int, (s = 0 ∨ s = 1) → RD c m s ∧ SK c (sdA s) ∧ (0 ≤ c (sdA s) 6 ∧ c (sdA s) 6 ≤ B)) ∧ (0 ≤ c 42 6 ∧ c 42 6 ≤ B) ∧ (0 ≤ c 46 6 ∧ c 46 6 ≤ B)
def RB (c : Nat → Nat → Int) : Prop := c 24 9 ≤ bNow c ∧ cacheB c
def RO (c : Nat → Nat → Int) : Prop := c 30 3 ≤ c 10 3 ∧ (c 10 3 = c 30 3 → bestOk c)
def RP (c m : Nat → Nat → Int) : Prop := (c 0 16 = m 0 7 ∧ 1 ≤ m 0 7 ∧ m 0 7 ≤ 400) ∧ c 12 = m 4 ∧ c 13 = m 5
def RK (c m : Nat → Nat → Int) : Prop := ckM m ∧ c 32 3 = m 0 30 ∧ (c 33 = m 21 ∧ c 34 = m 22) ∧ ckU (c 33) (c 34) (c 32 3)
def RN (c m : Nat → Nat → Int) : Prop := nOk c ∧ c 36 3 = m 0 37 ∧ kOk (m 25) (m 26) (m 0 37) ∧ ∀ x : Int, knv (c 37) (c 38) (c 36 3) x = knv (m 25) (m 26) (m 0 37) x
def RF (c m : Nat → Nat → Int) : Prop := c 0 10 = m 0 43 ∧ (0 ≤ m 0 43 ∧ m 0 43 ≤ 600) ∧ (∀ k : Int, 0 ≤ k → k < m 0 43 → c 54 k.toNat = m 28 k.toNat) ∧ bOK (c 54) ∧ bOK (m 28) ∧ bOK (m 29)
def RG (c m : Nat → Nat → Int) : Prop := (c 0 14 = m 0 49 ∧ c 0 15 = m 0 50) ∧ (c 40 9 = m 0 79 ∧ c 40 10 = m 0 80)
def RHx (p1 p2 a b a' b' : Nat) (c : Nat → Nat → Int) (rv : Nat → Nat → Option Nat) (m : Nat → Nat → Int) : Prop := ((p1 = 55 ∧ p2 = 119) ∨ (p1 = 119 ∧ p2 = 55)) ∧ rv 0 11 = some p1 ∧ rv 0 12 = some p2 ∧ (c 0 13 = m 0 52 ∧ (m 0 52 = 0 ∨ m 0 52 = 1)) ∧ (m 0 52 = 1 → ShR p1 c rv m) ∧ mA a b rv ∧ (rv 40 5 = some a' ∧ rv 40 6 = some b') ∧ ((a = 50 ∧ a' = 52 ∧ b' = 53) ∨ (a = 52 ∧ a' = 50 ∧ b' = 51)) ∧ mkR a b c m ∧ (0 ≤ m 0 69 ∧ m 0 69 ≤ 8)
def RH (c : Nat → Nat → Int) (rv : Nat → Nat → Option Nat) (m : Nat → Nat → Int) : Prop := ∃ p1 p2 a b a' b', RHx p1 p2 a b a' b' c rv m
/-- BOTH WORLDS AGREE; B bounds the counted changes -/
def RL (B : Int) (c : Nat → Nat → Int) (rv : Nat → Nat → Option Nat) (m : Nat → Nat → Int) : Prop := RC rv ∧ c 0 17 = m 0 0 ∧ RT c m ∧ RS c m ∧ RR B c m ∧ RP c m ∧ RSd B c m ∧ RB c ∧ RO c ∧ RK c m ∧ RN c m ∧ RF c m ∧ RG c m ∧ RH c rv m
theorem trA_c (t : Int) : trA t = 2 ∨ trA t = 4 ∨ trA t = 6 ∨ trA t = 8 := by unfold trA; (repeat' split) <;> simp
theorem RT_f {c c' m m' : Nat → Nat → Int} (h : RT c m) (hc : ∀ i j, 2 ≤ i ∧ i ≤ 9 → c' i j = c i j) (hm : ∀ i j, i = 1 ∨ i = 2 ∨ i = 3 → m' i j = m i j) : RT c' m' := by
  intro t t0 t1
  have to := trA_c t
  have f : ∀ k : Int, m' 3 (60 * t + k).toNat = m 3 (60 * t + k).toNat := fun k => hm _ _ (by omega)
  have g : ∀ k : Int, c' (trA t + 1) k.toNat = c (trA t + 1) k.toNat := fun k => hc _ _ (by omega)
  rw [hc (trA t) 1 (by omega), hc (trA t) 2 (by omega), hm 1 _ (by omega), hm 2 _ (by omega)]
  rcases h t t0 t1 with e | ⟨e1, e2, e3, e4, e5⟩
  · exact Or.inl e
  · exact Or.inr ⟨e1, e2, e3, e4, fun k k0 k1 => by rw [f, g]; exact e5 k k0 k1⟩
theorem RP_f {c c' m m' : Nat → Nat → Int} (h : RP c m) (hc : ∀ i j, (i = 0 ∧ j = 16) ∨ i = 12 ∨ i = 13 → c' i j = c i j) (hm : ∀ i j, (i = 0 ∧ j = 7) ∨ i = 4 ∨ i = 5 → m' i j = m i j) : RP c' m' := by
  have e12 : c' 12 = c 12 := funext fun j => hc 12 j (by omega)
  have e13 : c' 13 = c 13 := funext fun j => hc 13 j (by omega)
  have f4 : m' 4 = m 4 := funext fun j => hm 4 j (by omega)
  have f5 : m' 5 = m 5 := funext fun j => hm 5 j (by omega)
  unfold RP
  rw [hc 0 16 (by omega), hm 0 7 (by omega), e12, e13, f4, f5]
  exact h
theorem RSd_f {B : Int} {c c' m m' : Nat → Nat → Int} (h : RSd B c m) (hc : ∀ i j, i = 14 ∨ (16 ≤ i ∧ i ≤ 23) ∨ ((i = 42 ∨ i = 46) ∧ j = 6) → c' i j = c i j) (hm : ∀ i j, i = 4 ∨ i = 7 ∨ i = 8 ∨ i = 9 ∨ i = 10 ∨ (i = 0 ∧ j = 4) → m' i j = m i j) : RSd B c' m' := by
  obtain ⟨a1, a2, a3⟩ := h
  refine ⟨fun s hs => ?_, by rw [hc 42 6 (by omega)]; exact a2, by rw [hc 46 6 (by omega)]; exact a3⟩
  obtain ⟨b1, b2, b3⟩ := a1 s hs
  have so := sdA_c s
  refine ⟨RD_f b1 (fun i j e => hc i j (by omega)) (hm _ _ (by omega)) (hm _ _ (by omega)) (fun k _ _ => ⟨hm _ _ (by omega), hm _ _ (by omega)⟩) (hm _ _ (by omega)) (fun q _ _ => hm _ _ (by omega)), SK_f b2 (fun i j e => hc i j (by omega)), ?_⟩
  rw [hc (sdA s) 6 (by omega)]; exact b3
theorem RSd_B {B B' : Int} {c m : Nat → Nat → Int} (h : RSd B c m) (hB : B ≤ B') : RSd B' c m := by
  obtain ⟨a1, a2, a3⟩ := h
  refine ⟨fun s hs => ?_, by omega, by omega⟩
  obtain ⟨b1, b2, b3⟩ := a1 s hs
  exact ⟨b1, b2, by omega⟩
theorem bcl_f {c c' : Nat → Nat → Int} (h17 : c' 17 = c 17) (h21 : c' 21 = c 21) : bcl c' = bcl c := by
  unfold bcl; funext r p
  have : rwA r = 16 ∨ rwA r = 20 := by unfold rwA; split <;> simp
  rcases this with e | e <;> rw [e]
  · rw [h17]
  · rw [h21]
theorem RB_f {c c' : Nat → Nat → Int} (h : RB c) (hc : ∀ i j, i = 14 ∨ ((i = 16 ∨ i = 20) ∧ (j = 4 ∨ j = 6)) ∨ i = 17 ∨ i = 21 ∨ (i = 24 ∧ (j = 9 ∨ j = 10)) ∨ i = 26 → c' i j = c i j) : RB c' := by
  have e17 : c' 17 = c 17 := funext fun j => hc _ _ (by omega)
  have e21 : c' 21 = c 21 := funext fun j => hc _ _ (by omega)
  have e14 : c' 14 = c 14 := funext fun j => hc _ _ (by omega)
  have e26 : c' 26 = c 26 := funext fun j => hc _ _ (by omega)
  have eb := bcl_f e17 e21
  have ev : bcv c' = bcv c := by unfold bcv; rw [e26]
  unfold RB cacheB bNow FB LB at *
  rw [eb, ev, e14, hc 16 4 (by omega), hc 20 4 (by omega), hc 16 6 (by omega), hc 20 6 (by omega), hc 24 9 (by omega), hc 24 10 (by omega)]
  exact h
theorem RB_n {c c' : Nat → Nat → Int} (h : c 24 9 ≤ bNow c) (e : c' 24 9 = c 24 9) (l : bNow c < bNow c') : RB c' := ⟨by omega, fun q => by omega⟩
theorem bestOk_f {c c' : Nat → Nat → Int} (h12 : c' 12 = c 12) (h13 : c' 13 = c 13) (h30 : c' 30 = c 30) (h31 : c' 31 = c 31) : bestOk c' = bestOk c := by
  unfold bestOk seqOk lossC
  rw [h12, h13, h30, h31]
theorem RO_f {c c' : Nat → Nat → Int} (h : RO c) (hc : ∀ i j, (i = 10 ∧ j = 3) ∨ i = 12 ∨ i = 13 ∨ i = 30 ∨ i = 31 → c' i j = c i j) : RO c' := by
  have e12 : c' 12 = c 12 := funext fun j => hc _ _ (by omega)
  have e13 : c' 13 = c 13 := funext fun j => hc _ _ (by omega)
  have e30 : c' 30 = c 30 := funext fun j => hc _ _ (by omega)
  have e31 : c' 31 = c 31 := funext fun j => hc _ _ (by omega)
  unfold RO
  rw [bestOk_f e12 e13 e30 e31, e30, hc 10 3 (by omega)]
  exact h
theorem RK_f {c c' m m' : Nat → Nat → Int} (h : RK c m) (hc : ∀ i j, (i = 32 ∧ j = 3) ∨ i = 33 ∨ i = 34 → c' i j = c i j) (hm : ∀ i j, (i = 0 ∧ j = 30) ∨ i = 20 ∨ i = 21 ∨ i = 22 → m' i j = m i j) : RK c' m' := by
  have e33 : c' 33 = c 33 := funext fun j => hc _ _ (by omega)
  have e34 : c' 34 = c 34 := funext fun j => hc _ _ (by omega)
  have f20 : m' 20 = m 20 := funext fun j => hm _ _ (by omega)
  have f21 : m' 21 = m 21 := funext fun j => hm _ _ (by omega)
  have f22 : m' 22 = m 22 := funext fun j => hm _ _ (by omega)
  unfold RK ckM
  rw [e33, e34, f20, f21, f22, hc 32 3 (by omega), hm 0 30 (by omega)]
  exact h
theorem RN_f {c c' m m' : Nat → Nat → Int} (h : RN c m) (hc : ∀ i j, (i = 36 ∧ j = 3) ∨ i = 37 ∨ i = 38 → c' i j = c i j) (hm : ∀ i j, (i = 0 ∧ j = 37) ∨ i = 25 ∨ i = 26 → m' i j = m i j) : RN c' m' := by
  have e37 : c' 37 = c 37 := funext fun j => hc _ _ (by omega)
  have e38 : c' 38 = c 38 := funext fun j => hc _ _ (by omega)
  have f25 : m' 25 = m 25 := funext fun j => hm _ _ (by omega)
  have f26 : m' 26 = m 26 := funext fun j => hm _ _ (by omega)
  unfold RN nOk
  rw [e37, e38, f25, f26, hc 36 3 (by omega), hm 0 37 (by omega)]
  exact h
theorem RF_f {c c' m m' : Nat → Nat → Int} (h : RF c m) (hc : ∀ i j, (i = 0 ∧ j = 10) ∨ i = 54 → c' i j = c i j) (hm : ∀ i j, (i = 0 ∧ j = 43) ∨ i = 28 ∨ i = 29 → m' i j = m i j) : RF c' m' := by
  have e54 : c' 54 = c 54 := funext fun j => hc _ _ (by omega)
  have f28 : m' 28 = m 28 := funext fun j => hm _ _ (by omega)
  have f29 : m' 29 = m 29 := funext fun j => hm _ _ (by omega)
  unfold RF
  rw [e54, f28, f29, hc 0 10 (by omega), hm 0 43 (by omega)]
  exact h
theorem RG_f {c c' m m' : Nat → Nat → Int} (h : RG c m) (hc : ∀ i j, (i = 0 ∧ (j = 14 ∨ j = 15)) ∨ (i = 40 ∧ (j = 9 ∨ j = 10)) → c' i j = c i j) (hm : ∀ j, j = 49 ∨ j = 50 ∨ j = 79 ∨ j = 80 → m' 0 j = m 0 j) : RG c' m' := by
  unfold RG
  rw [hc 0 14 (by omega), hc 0 15 (by omega), hc 40 9 (by omega), hc 40 10 (by omega), hm 49 (by omega), hm 50 (by omega), hm 79 (by omega), hm 80 (by omega)]
  exact h
theorem RHx_f {p1 p2 a b a' b' : Nat} {c c' m m' : Nat → Nat → Int} {rv : Nat → Nat → Option Nat} (h : RHx p1 p2 a b a' b' c rv m) (hc : ∀ i j, (i = 0 ∧ j = 13) ∨ (50 ≤ i ∧ i ≤ 53) ∨ (55 ≤ i ∧ i ≤ 182) → c' i j = c i j) (hm : ∀ i j, (30 ≤ i ∧ i ≤ 41) ∨ i = 47 ∨ i = 48 ∨ (i = 0 ∧ (j = 52 ∨ j = 68 ∨ j = 69)) → m' i j = m i j) : RHx p1 p2 a b a' b' c' rv m' := by
  obtain ⟨a1, a2, a3, a4, a5, a6, a7, a8, a9, a10⟩ := h
  have ab := a6.2.2
  refine ⟨a1, a2, a3, ?_, fun z => ?_, a6, a7, a8, mkR_f a9 (fun i j e => hc i j (by omega)) (fun i j e => hm i j (by omega)), ?_⟩
  · rw [hc 0 13 (by omega), hm 0 52 (by omega)]; exact a4
  · rw [hm 0 52 (by omega)] at z
    exact ShR_f (a5 z) (fun i j e f => hc i j (by omega)) (fun _ _ _ _ => rfl) (fun i j e => hm i j (by omega))
  · rw [hm 0 69 (by omega)]; exact a10
theorem RH_f {c c' m m' : Nat → Nat → Int} {rv : Nat → Nat → Option Nat} (h : RH c rv m) (hc : ∀ i j, (i = 0 ∧ j = 13) ∨ (50 ≤ i ∧ i ≤ 53) ∨ (55 ≤ i ∧ i ≤ 182) → c' i j = c i j) (hm : ∀ i j, (30 ≤ i ∧ i ≤ 41) ∨ i = 47 ∨ i = 48 ∨ (i = 0 ∧ (j = 52 ∨ j = 68 ∨ j = 69)) → m' i j = m i j) : RH c' rv m' := by
  obtain ⟨p1, p2, a, b, a', b', h⟩ := h
  exact ⟨p1, p2, a, b, a', b', RHx_f h hc hm⟩
/-- what no later call sees -/
def cS (i j : Nat) : Prop := i = 39 ∨ i = 35 ∨ (i = 32 ∧ 4 ≤ j ∧ j ≤ 7) ∨ (i = 0 ∧ j = 17) ∨ (i = 40 ∧ (j = 7 ∨ j = 8))
def mS (i j : Nat) : Prop := (11 ≤ i ∧ i ≤ 19) ∨ i = 23 ∨ i = 24 ∨ i = 27 ∨ (49 ≤ i ∧ i ≤ 54) ∨ (i = 0 ∧ (j = 0 ∨ j = 20 ∨ j = 25 ∨ (31 ≤ j ∧ j ≤ 33) ∨ j = 38 ∨ j = 40 ∨ j = 81))
theorem RL_f {B : Int} {c c' m m' : Nat → Nat → Int} {rv : Nat → Nat → Option Nat} (h : RL B c rv m) (hc : ∀ i j, ¬ cS i j → c' i j = c i j) (hm : ∀ i j, ¬ mS i j → m' i j = m i j) (e : c' 0 17 = m' 0 0) : RL B c' rv m' := by
  obtain ⟨a0, a1, a2, a3, a4, a5, a6, a7, a8, a9, a10, a11, a12, a13⟩ := h
  unfold cS at hc
  unfold mS at hm
  refine ⟨a0, e, RT_f a2 (fun i j q => hc i j (by omega)) (fun i j q => hm i j (by omega)), RS_f a3 (fun i j q => hc i j (by omega)) (fun i j q => hm i j (by omega)), RR_f a4 (fun j => hc _ _ (by omega)) (hm _ _ (by omega)) (hm _ _ (by omega)), RP_f a5 (fun i j q => hc i j (by omega)) (fun i j q => hm i j (by omega)), RSd_f a6 (fun i j q => hc i j (by omega)) (fun i j q => hm i j (by omega)), RB_f a7 (fun i j q => hc i j (by omega)), RO_f a8 (fun i j q => hc i j (by omega)), RK_f a9 (fun i j q => hc i j (by omega)) (fun i j q => hm i j (by omega)), RN_f a10 (fun i j q => hc i j (by omega)) (fun i j q => hm i j (by omega)), RF_f a11 (fun i j q => hc i j (by omega)) (fun i j q => hm i j (by omega)), RG_f a12 (fun i j q => hc i j (by omega)) (fun j q => hm _ _ (by omega)), RH_f a13 (fun i j q => hc i j (by omega)) (fun i j q => hm i j (by omega))⟩
theorem RL_B {B B' : Int} {c m : Nat → Nat → Int} {rv : Nat → Nat → Option Nat} (h : RL B c rv m) (hB : B ≤ B') : RL B' c rv m := by
  obtain ⟨a0, a1, a2, a3, a4, a5, a6, a7⟩ := h
  exact ⟨a0, a1, a2, a3, RR_B a4 hB, a5, RSd_B a6 hB, a7⟩
/-- only the status -/
theorem RL_u {B : Int} {c m : Nat → Nat → Int} {rv : Nat → Nat → Option Nat} (h : RL B c rv m) (x : Int) : RL B (iu c 0 17 x) rv (iu m 0 0 x) := RL_f h (fun i j q => by unfold cS at q; rw [iu_ap, if_neg (by omega)]) (fun i j q => by unfold mS at q; rw [iu_ap, if_neg (by omega)]) (by rw [iu_eq, iu_eq])
/-- a side settled -/
theorem RL_st {B : Int} {c v m : Nat → Nat → Int} {rv : Nat → Nat → Option Nat} {s : Int} (h : RL B c rv m) (hs : s = 0 ∨ s = 1) (q : stQ c v (sdA s)) : RL B v rv m := by
  have f : SdF c v (sdA s) := by
    rcases q with e | e
    · rw [e]; exact fun _ _ _ _ => rfl
    · exact e.1
  have so := sdA_c s
  obtain ⟨a0, a1, a2, a3, a4, a5, a6, a7, a8, a9, a10, a11, a12, a13⟩ := h
  refine ⟨a0, by rw [f 0 17 (by omega) (by omega)]; exact a1, RT_f a2 (fun i j q => f i j (by omega) (by omega)) (fun i j q => rfl), RS_f a3 (fun i j q => f i j (by omega) (by omega)) (fun i j q => rfl), RR_f a4 (fun j => f _ _ (by omega) (by omega)) rfl rfl, RP_f a5 (fun i j q => f i j (by omega) (by omega)) (fun i j q => rfl), ?_, RB_f a7 (fun i j q => f i j (by omega) (by omega)), RO_f a8 (fun i j q => f i j (by omega) (by omega)), RK_f a9 (fun i j q => f i j (by omega) (by omega)) (fun i j q => rfl), RN_f a10 (fun i j q => f i j (by omega) (by omega)) (fun i j q => rfl), RF_f a11 (fun i j q => f i j (by omega) (by omega)) (fun i j q => rfl), RG_f a12 (fun i j q => f i j (by omega) (by omega)) (fun j q => rfl), RH_f a13 (fun i j q => f i j (by omega) (by omega)) (fun i j q => rfl)⟩
  obtain ⟨b1, b2, b3⟩ := a6
  refine ⟨fun t ht => ?_, by rw [f 42 6 (by omega) (by omega)]; exact b2, by rw [f 46 6 (by omega) (by omega)]; exact b3⟩
  obtain ⟨d1, d2, d3⟩ := b1 t ht
  have to := sdA_c t
  have cs : t = s ∨ (sdA s = 16 ∧ sdA t = 20) ∨ (sdA s = 20 ∧ sdA t = 16) := by
    by_cases n : t = s
    · exact Or.inl n
    · exact Or.inr (sd_ne hs ht n)
  have dj : sdA t = sdA s ∨ (sdA s = 16 ∧ sdA t = 20) ∨ (sdA s = 20 ∧ sdA t = 16) := by
    rcases cs with e | e
    · left; rw [e]
    · exact Or.inr e
  refine ⟨RD_f d1 (fun i j e => f i j (by omega) (by omega)) rfl rfl (fun k _ _ => ⟨rfl, rfl⟩) rfl (fun q _ _ => rfl), ?_, ?_⟩
  · rcases cs with e | e
    · subst e; exact SK_st q d2 (sdA_is t)
    · exact SK_f d2 (fun i j g => f i j (by omega) (by omega))
  · rw [f (sdA t) 6 (by omega) (by omega)]; exact d3

