/-! ===== both worlds agree at the start ===== -/
def c0 : Nat → Nat → Int := (iu (iu (iu (iu (iu (iu (ifill (iu (iu (iu (iu (iu (iu (iu (iu (iu (iu (iu (iu (iu (iu (iu (iu (fun _ _ => 0) 2 1 (-1)) 4 1 (-1)) 6 1 (-1)) 8 1 (-1)) 14 0 4) 14 1 8) 16 5 (-1)) 16 7 (-1)) 20 5 (-1)) 20 7 (-1)) 24 9 (-1)) 30 3 (-1)) 42 5 (-1)) 42 7 (-1)) 46 5 (-1)) 46 7 (-1)) 50 0 8 (-1)) 40 9 (-1)) 40 10 (-1)) 0 14 (-1)) 0 15 (-1)) 0 16 200) 0 17 0)
def rv0 : Nat → Nat → Option Nat := (ru (shR (ru (shR (ru (ru (ru (ru (ru (ru (ru (ru (ru (ru (ru (ru (ru (ru (ru (ru (ru (ru (ru (ru (ru (ru (ru (ru (ru (ru (ru (ru (ru (ru (ru (ru (ru (ru (ru (ru (ru (ru (ru (ru (ru (ru (ru (ru (ru (ru (ru (ru (ru (ru (ru (ru (ru (ru (ru (ru (ru (ru (ru (ru (ru (ru (ru (fun _ _ => none) 0 0 (some 1)) 2 0 (some 3)) 1 0 (some 2)) 4 0 (some 5)) 1 1 (some 4)) 6 0 (some 7)) 1 2 (some 6)) 8 0 (some 9)) 1 3 (some 8)) 10 0 (some 11)) 10 1 (some 12)) 10 2 (some 13)) 0 1 (some 10)) 0 2 (some 14)) 0 3 (some 15)) 16 0 (some 14)) 16 1 (some 17)) 16 2 (some 18)) 16 3 (some 19)) 15 0 (some 16)) 20 0 (some 14)) 20 1 (some 21)) 20 2 (some 22)) 20 3 (some 23)) 15 1 (some 20)) 24 0 (some 25)) 25 0 (some 16)) 25 1 (some 20)) 24 1 (some 14)) 24 2 (some 26)) 24 3 (some 27)) 24 4 (some 28)) 24 5 (some 29)) 0 4 (some 24)) 30 0 (some 31)) 0 5 (some 30)) 32 0 (some 33)) 32 1 (some 34)) 32 2 (some 35)) 0 6 (some 32)) 36 0 (some 37)) 36 1 (some 38)) 36 2 (some 39)) 0 7 (some 36)) 40 0 (some 10)) 40 1 (some 15)) 40 2 (some 41)) 42 0 (some 14)) 42 1 (some 43)) 42 2 (some 44)) 42 3 (some 45)) 41 0 (some 42)) 46 0 (some 14)) 46 1 (some 47)) 46 2 (some 48)) 46 3 (some 49)) 41 1 (some 46)) 40 3 (some 50)) 40 4 (some 51)) 40 5 (some 52)) 40 6 (some 53)) 0 8 (some 40)) 0 9 (some 54)) 55) 0 11 (some 55)) 119) 0 12 (some 119))
def m0 : Nat → Nat → Int := (iu (iu (iu (iu (iu (iu (iu (iu (iu (iu (iu (iu (iu (iu (iu (iu (iu (iu (iu (iu (iu (fun _ _ => 0) 2 0 (-1)) 2 1 (-1)) 2 2 (-1)) 2 3 (-1)) 0 5 4) 0 6 8) 0 7 200) 10 0 (-1)) 10 1 (-1)) 0 49 (-1)) 0 50 (-1)) 47 0 (-1)) 47 1 (-1)) 47 2 (-1)) 47 3 (-1)) 47 4 (-1)) 47 5 (-1)) 47 6 (-1)) 47 7 (-1)) 0 79 (-1)) 0 80 (-1))
def rvm0 : Nat → Nat → Option Nat := (ru (ru (ru (ru (ru (ru (ru (ru (ru (ru (ru (ru (ru (ru (ru (ru (ru (ru (ru (ru (ru (ru (ru (ru (ru (ru (ru (ru (ru (ru (ru (ru (ru (ru (ru (ru (ru (ru (ru (ru (ru (ru (ru (ru (ru (ru (ru (ru (ru (ru (ru (ru (ru (ru (fun _ _ => none) 0 1 (some 1)) 0 2 (some 2)) 0 3 (some 3)) 0 8 (some 4)) 0 9 (some 5)) 0 10 (some 6)) 0 11 (some 7)) 0 12 (some 8)) 0 13 (some 9)) 0 14 (some 10)) 0 15 (some 11)) 0 16 (some 12)) 0 17 (some 13)) 0 18 (some 14)) 0 19 (some 15)) 0 21 (some 16)) 0 22 (some 17)) 0 23 (some 18)) 0 24 (some 19)) 0 26 (some 20)) 0 27 (some 21)) 0 28 (some 22)) 0 29 (some 23)) 0 34 (some 24)) 0 35 (some 25)) 0 36 (some 26)) 0 39 (some 27)) 0 41 (some 28)) 0 42 (some 29)) 0 53 (some 30)) 0 54 (some 31)) 0 55 (some 32)) 0 56 (some 33)) 0 57 (some 34)) 0 58 (some 35)) 0 59 (some 36)) 0 60 (some 37)) 0 61 (some 38)) 0 62 (some 39)) 0 63 (some 40)) 0 64 (some 41)) 0 65 (some 42)) 0 66 (some 43)) 0 67 (some 44)) 0 72 (some 45)) 0 73 (some 46)) 0 75 (some 47)) 0 76 (some 48)) 0 77 (some 49)) 0 78 (some 50)) 0 82 (some 51)) 0 83 (some 52)) 0 84 (some 53)) 0 85 (some 54))
theorem RC_st : RC rv0 := by
  have a : ∀ i, i < 188 → rv0 (ctk i).1 (ctk i).2.1 = some (ctk i).2.2 := by decide +kernel
  intro i
  by_cases h : i < 188
  · exact a i h
  · have e : ctk i = (0, 0, 1) := by
      unfold ctk
      rw [List.getD_eq_getElem?_getD, List.getElem?_eq_none (by show ctC.length ≤ i; have : ctC.length ≤ 188 := by decide +kernel
                                                                omega)]
      rfl
    rw [e]; rfl
theorem c0_k (i j : Nat) (h : i ≠ 0 ∧ i ≠ 2 ∧ i ≠ 4 ∧ i ≠ 6 ∧ i ≠ 8 ∧ i ≠ 14 ∧ i ≠ 16 ∧ i ≠ 20 ∧ i ≠ 24 ∧ i ≠ 30 ∧ i ≠ 40 ∧ i ≠ 42 ∧ i ≠ 46 ∧ i ≠ 50) : c0 i j = 0 := by
  unfold c0
  simp only [iu_ap, ifill_ap]
  repeat (rw [if_neg (by omega)])
theorem m0_k (i j : Nat) (h : i ≠ 0 ∧ i ≠ 2 ∧ i ≠ 10 ∧ i ≠ 47) : m0 i j = 0 := by
  unfold m0
  simp only [iu_ap]
  repeat (rw [if_neg (by omega)])
theorem RT_0 : RT c0 m0 := by
  intro t t0 t1
  left
  have : t = 0 ∨ t = 1 ∨ t = 2 ∨ t = 3 := by omega
  rcases this with rfl | rfl | rfl | rfl <;> exact ⟨rfl, rfl, rfl⟩
theorem RS_0 : RS c0 m0 := by
  refine ⟨⟨rfl, by decide, by decide⟩, fun s s0 s1 => ?_, fun s s0 s1 => absurd s1 (by show ¬ s < 0; omega)⟩
  rw [c0_k 12 _ (by omega), c0_k 13 _ (by omega), m0_k 4 _ (by omega), m0_k 5 _ (by omega)]
  exact ⟨⟨rfl, rfl⟩, by decide, by decide⟩
theorem RSd_0 : RSd 0 c0 m0 := by
  refine ⟨fun s hs => ?_, ⟨by decide, by decide⟩, ⟨by decide, by decide⟩⟩
  rcases hs with rfl | rfl
  · exact ⟨⟨rfl, ⟨by decide, by decide⟩, rfl, Or.inl rfl, fun k k0 k1 => absurd k1 (by show ¬ k < 0; omega)⟩, ⟨by decide, fun e => absurd e (by decide)⟩, ⟨by decide, by decide⟩⟩
  · exact ⟨⟨rfl, ⟨by decide, by decide⟩, rfl, Or.inl rfl, fun k k0 k1 => absurd k1 (by show ¬ k < 0; omega)⟩, ⟨by decide, fun e => absurd e (by decide)⟩, ⟨by decide, by decide⟩⟩
theorem row0 {i i' : Nat} (h : i ≠ 0 ∧ i ≠ 2 ∧ i ≠ 4 ∧ i ≠ 6 ∧ i ≠ 8 ∧ i ≠ 14 ∧ i ≠ 16 ∧ i ≠ 20 ∧ i ≠ 24 ∧ i ≠ 30 ∧ i ≠ 40 ∧ i ≠ 42 ∧ i ≠ 46 ∧ i ≠ 50) (h' : i' ≠ 0 ∧ i' ≠ 2 ∧ i' ≠ 10 ∧ i' ≠ 47) : c0 i = m0 i' := funext fun j => (c0_k i j h).trans (m0_k i' j h').symm
theorem ckA_0 {f g : Nat → Int} {t p : Int} : ckA f g 0 t p = -1 := rfl
theorem RK_0 : RK c0 m0 := by
  refine ⟨⟨⟨by decide, by decide⟩, fun k k0 k1 => absurd k1 (by show ¬ k < 0; omega), fun t p ht hp => ?_⟩, rfl, ⟨row0 (by omega) (by omega), row0 (by omega) (by omega)⟩, ⟨by decide, by decide⟩, fun k k0 k1 => absurd k1 (by show ¬ k < 0; omega), fun i j i0 i1 => absurd i1 (by show ¬ i < 0; omega)⟩
  rw [m0_k 20 _ (by omega)]
  exact ⟨fun _ => ckA_0, fun _ => rfl⟩
theorem RN_0 : RN c0 m0 := by
  have e1 : c0 37 = m0 25 := row0 (by omega) (by omega)
  have e2 : c0 38 = m0 26 := row0 (by omega) (by omega)
  have k0 : kOk (m0 25) (m0 26) (m0 0 37) := ⟨⟨by decide, by decide⟩, fun k k0 k1 => absurd k1 (by show ¬ k < 0; omega)⟩
  refine ⟨⟨by rw [e1, e2]; exact k0, fun k k0 k1 => absurd k1 (by show ¬ k < 0; omega), ?_⟩, rfl, k0, fun x => by rw [e1, e2]; rfl⟩
  exact fun i j i0 ij j1 => absurd j1 (by show ¬ j < 0; omega)
theorem RF_0 : RF c0 m0 := by
  refine ⟨rfl, ⟨by decide, by decide⟩, fun k k0 k1 => absurd k1 (by show ¬ k < 0; omega), fun k _ _ => ?_, fun k _ _ => ?_, fun k _ _ => ?_⟩
  · rw [c0_k 54 _ (by omega)]; decide
  · rw [m0_k 28 _ (by omega)]; decide
  · rw [m0_k 29 _ (by omega)]; decide
theorem RH_0 : RH c0 rv0 m0 := by
  refine ⟨55, 119, 50, 51, 52, 53, Or.inl ⟨rfl, rfl⟩, rfl, rfl, ⟨rfl, Or.inl rfl⟩, fun e => absurd e (by decide), ⟨rfl, rfl, Or.inl ⟨rfl, rfl⟩⟩, ⟨rfl, rfl⟩, Or.inl ⟨rfl, rfl, rfl⟩, fun n n0 n1 => ?_, ⟨by decide, by decide⟩⟩
  have : n = 0 ∨ n = 1 ∨ n = 2 ∨ n = 3 ∨ n = 4 ∨ n = 5 ∨ n = 6 ∨ n = 7 := by omega
  rcases this with rfl | rfl | rfl | rfl | rfl | rfl | rfl | rfl <;> exact ⟨rfl, fun z => absurd rfl z, fun _ => rfl⟩
theorem RL_0 : RL 0 c0 rv0 m0 := ⟨RC_st, rfl, RT_0, RS_0, ⟨⟨rfl, rfl⟩, ⟨⟨by decide, by decide⟩, ⟨by decide, by decide⟩⟩, ⟨by decide, by decide⟩⟩, ⟨⟨rfl, by decide, by decide⟩, row0 (by omega) (by omega), row0 (by omega) (by omega)⟩, RSd_0, ⟨by decide, fun e => absurd e (by decide)⟩, ⟨by decide, fun e => absurd e (by decide)⟩, RK_0, RN_0, RF_0, ⟨⟨rfl, rfl⟩, ⟨rfl, rfl⟩⟩, RH_0⟩
/-! ===== closing a world ===== -/
theorem Hp_cl {G : ZG} {S : List ZS} {iv : Nat → Nat → Int} {rv rv' : Nat → Nat → Option Nat} {b : Bool} {H : Heap} (h : Hp G (S, iv, rv, b) H) (e : ∀ id s, S[id]? = some s → ze G (S, iv, rv, b) s id = ze G (S, iv, rv', false) s id) : Hp G (S, iv, rv', false) H := by
  obtain ⟨h1, h2, h3, h4⟩ := h
  refine ⟨?_, h2, fun z => absurd z (show ¬ (false = true) by decide), h4⟩
  have : zws G (S, iv, rv, b) = zws G (S, iv, rv', false) := by
    unfold zws
    refine List.ext_getElem? fun i => ?_
    rw [List.getElem?_mapIdx, List.getElem?_mapIdx]
    show Option.map _ S[i]? = Option.map _ S[i]?
    cases q : S[i]? with
    | none => rfl
    | some s => show some (G.1 + i, ze G (S, iv, rv, b) s i) = some (G.1 + i, ze G (S, iv, rv', false) s i); rw [e i s q]
  rw [← this]; exact h1
theorem Hp_C {G : ZG} {H : Heap} (h : Hp G (ow ShC 183 c0 rv0) H) : Hp G (mkC c0 rv0) H := by
  have e : ow ShC 183 c0 rv0 = (ShC, c0, rv0, true) := rfl
  rw [e] at h
  refine Hp_cl h (fun id s _ => ?_)
  cases s <;> rfl
theorem ShM_k : ∀ id, id < 55 → ShM[id]? = some (.inl 12) ∧ id = 0 ∨ ∃ t n, ShM[id]? = some (.inr (t, n)) ∧ t < 4 := by
  intro id h
  have : ∀ id, id < 55 → ((ShM.getD id (.inl 0)).elim (fun ci => (id == 0 && ci == 12)) (fun q => decide (q.1 < 4))) = true := by decide +kernel
  have a := this id h
  have l : id < ShM.length := h
  rw [List.getD_eq_getElem?_getD, List.getElem?_eq_getElem l, Option.getD_some] at a
  rw [List.getElem?_eq_getElem l]
  cases q : ShM[id] with
  | inl ci =>
    rw [q] at a
    have a : (id == 0 && ci == 12) = true := a
    simp at a
    left; rw [a.2]; exact ⟨rfl, a.1⟩
  | inr q' =>
    rw [q] at a
    have a : decide (q'.1 < 4) = true := a
    exact Or.inr ⟨q'.1, q'.2, rfl, of_decide_eq_true a⟩
theorem rvm0_k : ∀ k, k < 86 → rvm0 0 k = RvM 0 k := by decide +kernel
theorem Hp_M {G : ZG} {H : Heap} (h : Hp G (ow ShM 55 m0 rvm0) H) : Hp G (mkM m0) H := by
  have e : ow ShM 55 m0 rvm0 = (ShM, m0, rvm0, true) := rfl
  rw [e] at h
  refine Hp_cl h (fun id s hs => ?_)
  have l : id < 55 := (List.getElem?_eq_some_iff.mp hs).1
  rcases ShM_k id l with ⟨a, rfl⟩ | ⟨t, n, a, ht⟩
  · rw [hs] at a
    cases a
    show Sum.inr (12, zfs G (ShM, m0, rvm0, true) 12 0) = Sum.inr (12, zfs G (ShM, m0, RvM, false) 12 0)
    have : zfs G (ShM, m0, rvm0, true) 12 0 = zfs G (ShM, m0, RvM, false) 12 0 := by
      unfold zfs
      refine List.map_congr_left fun k hk => ?_
      have hk : k < 86 := List.mem_range.mp hk
      show fv G _ (m0 0 k) (rvm0 0 k) = fv G _ (m0 0 k) (RvM 0 k)
      rw [rvm0_k k hk]
    rw [this]
  · rw [hs] at a
    cases a
    have : t = 0 ∨ t = 1 ∨ t = 2 ∨ t = 3 := by omega
    rcases this with rfl | rfl | rfl | rfl <;> rfl

