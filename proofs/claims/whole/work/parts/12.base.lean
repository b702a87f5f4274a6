/-! ===== loops ===== -/
theorem lp_m {σ : Type} {P : σ → Prop} (μ : σ → Nat) (I : σ → Prop) (step : ∀ s, I s → (∀ s', I s' → μ s' < μ s → P s') → P s) (s : σ) (h : I s) : P s := by
  have key : ∀ (n : Nat) (s : σ), μ s ≤ n → I s → P s := by
    intro n
    induction n with
    | zero => exact fun s hn hs => step s hs (fun s' _ hm => absurd hm (by omega))
    | succ n ih => exact fun s hn hs => step s hs (fun s' hs' hm => ih s' (by omega) hs')
  exact key (μ s) s (Nat.le_refl _) h
theorem lp_up {σ : Type} {P : Int → σ → Prop} (b : Int) (I : Int → σ → Prop) (exit : ∀ s, I b s → P b s) (step : ∀ k s, k < b → I k s → (∀ s', I (k + 1) s' → P (k + 1) s') → P k s) (k : Int) (s : σ) (hk : k ≤ b) (h : I k s) : P k s := by
  have key : ∀ (n : Nat) (k : Int) (s : σ), (b - k).toNat = n → k ≤ b → I k s → P k s := by
    intro n
    induction n with
    | zero => intro k s hn hk hs; have : k = b := by omega
              subst this; exact exit s hs
    | succ n ih => intro k s hn hk hs; exact step k s (by omega) hs (fun s' hs' => ih (k + 1) s' (by omega) (by omega) hs')
  exact key _ k s rfl hk h
theorem lp_dn {σ : Type} {P : Int → σ → Prop} (b : Int) (I : Int → σ → Prop) (exit : ∀ s, I b s → P b s) (step : ∀ k s, b < k → I k s → (∀ s', I (k - 1) s' → P (k - 1) s') → P k s) (k : Int) (s : σ) (hk : b ≤ k) (h : I k s) : P k s := by
  have key : ∀ (n : Nat) (k : Int) (s : σ), (k - b).toNat = n → b ≤ k → I k s → P k s := by
    intro n
    induction n with
    | zero => intro k s hn hk hs; have : k = b := by omega
              subst this; exact exit s hs
    | succ n ih => intro k s hn hk hs; exact step k s (by omega) hs (fun s' hs' => ih (k - 1) s' (by omega) (by omega) hs')
  exact key _ k s rfl hk h
noncomputable def c01 (p : Prop) : Int := @ite _ p (Classical.propDecidable p) 1 0
theorem c01_t {p : Prop} (h : p) : c01 p = 1 := by unfold c01; exact if_pos h
theorem c01_f {p : Prop} (h : ¬ p) : c01 p = 0 := by unfold c01; exact if_neg h
theorem c01_0 {p : Prop} : c01 p = 0 ↔ ¬ p := ⟨fun h q => (by rw [c01_t q] at h; exact absurd h (by decide)), c01_f⟩
theorem c01_n {p : Prop} : ¬ c01 p = 0 ↔ p := ⟨fun h => Classical.byContradiction fun q => h (c01_f q), fun h q => (by rw [c01_t h] at q; exact absurd q (by decide))⟩
theorem c01_or {p : Prop} : c01 p = 0 ∨ c01 p = 1 := (Classical.em p).elim (fun h => Or.inr (c01_t h)) (fun h => Or.inl (c01_f h))
theorem c01_c {p q : Prop} (h : p ↔ q) : c01 p = c01 q := by rw [propext h]

