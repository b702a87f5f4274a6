/-! ===== the order of songs: lists ===== -/
/-- the first n of a row, the last one first -/
def rl (f : Int → Int) : Nat → List Int
  | 0 => []
  | n + 1 => f n :: rl f n
theorem rl_congr {f g : Int → Int} : ∀ n : Nat, (∀ i : Int, 0 ≤ i → i < n → f i = g i) → rl f n = rl g n
  | 0, _ => rfl
  | n + 1, h => by
    unfold rl
    rw [h n (by omega) (by omega), rl_congr n (fun i a b => h i a (by omega))]
theorem rl_len {f : Int → Int} : ∀ n : Nat, (rl f n).length = n
  | 0 => rfl
  | n + 1 => by unfold rl; rw [List.length_cons, rl_len n]
theorem rl_mem {f : Int → Int} {x : Int} : ∀ n : Nat, x ∈ rl f n ↔ ∃ i : Int, 0 ≤ i ∧ i < n ∧ f i = x
  | 0 => by
    constructor
    · intro h; unfold rl at h; simp at h
    · rintro ⟨i, a, b, _⟩; omega
  | n + 1 => by
    unfold rl
    rw [List.mem_cons, rl_mem n]
    constructor
    · rintro (h | ⟨i, a, b, c⟩)
      · exact ⟨n, by omega, by omega, h.symm⟩
      · exact ⟨i, a, by omega, c⟩
    · rintro ⟨i, a, b, c⟩
      by_cases e : i = n
      · subst e; exact Or.inl c.symm
      · exact Or.inr ⟨i, a, by omega, c⟩
/-- putting s into a row, read from its end -/
def insR (A : Int → Int → Prop) [∀ a b, Decidable (A a b)] (s : Int) : List Int → List Int
  | [] => [s]
  | e :: es => if A s e then e :: insR A s es else s :: e :: es
theorem rl_ins {A : Int → Int → Prop} [∀ a b, Decidable (A a b)] {f g : Int → Int} {s : Int} {k : Int} (hk : 0 ≤ k) (h1 : ∀ i, 0 ≤ i → i < k → f i = g i) (h2 : f k = s) (h5 : k = 0 ∨ ¬ A s (g (k - 1))) : ∀ n : Nat, k ≤ n → (∀ i, k ≤ i → i < n → f (i + 1) = g i) → (∀ i, k ≤ i → i < n → A s (g i)) → rl f (n + 1) = insR A s (rl g n)
  | 0, hn, _, _ => by
    have : k = 0 := by omega
    subst this
    unfold rl rl insR
    rw [show ((0 : Nat) : Int) = 0 from rfl, h2]
  | n + 1, hn, h3, h4 => by
    by_cases e : k = (n + 1 : Nat)
    · have c : rl f (n + 1) = rl g (n + 1) := rl_congr _ (fun i a b => h1 i a (by omega))
      rw [show rl f (n + 1 + 1) = f (n + 1 : Nat) :: rl f (n + 1) from rfl, c, ← e, h2]
      rw [show rl g (n + 1) = g n :: rl g n from rfl]
      unfold insR
      rw [if_neg]
      rcases h5 with q | q
      · omega
      · rw [show k - 1 = (n : Int) by omega] at q; exact q
    · have ih := rl_ins hk h1 h2 h5 n (by omega) (fun i a b => h3 i a (by omega)) (fun i a b => h4 i a (by omega))
      rw [show rl f (n + 1 + 1) = f (n + 1 : Nat) :: rl f (n + 1) from rfl, ih, show rl g (n + 1) = g n :: rl g n from rfl]
      conv => rhs; unfold insR
      rw [if_pos (h4 n (by omega) (by omega)), ← h3 n (by omega) (by omega)]
      rfl
theorem insR_mem {A : Int → Int → Prop} [∀ a b, Decidable (A a b)] {s x : Int} : ∀ L : List Int, x ∈ insR A s L ↔ x = s ∨ x ∈ L
  | [] => by unfold insR; simp
  | e :: es => by
    unfold insR
    split
    · rw [List.mem_cons, insR_mem es, List.mem_cons]
      constructor
      · rintro (h | h | h) <;> simp [h]
      · rintro (h | h | h) <;> simp [h]
    · simp
theorem insR_len {A : Int → Int → Prop} [∀ a b, Decidable (A a b)] {s : Int} : ∀ L : List Int, (insR A s L).length = L.length + 1
  | [] => rfl
  | e :: es => by
    unfold insR
    split
    · rw [List.length_cons, insR_len es, List.length_cons]
    · rfl
/-- never ahead of what stands ahead -/
def Srt (A : Int → Int → Prop) : List Int → Prop
  | [] => True
  | e :: es => (∀ x ∈ es, ¬ A e x) ∧ Srt A es
theorem insR_srt {A : Int → Int → Prop} [∀ a b, Decidable (A a b)] {s : Int} (hr : ∀ x, ¬ A x x) (ht : ∀ a b c : Int, ¬ A a b → ¬ A b c → ¬ A a c) (ha : ∀ a b : Int, A a b → ¬ A b a) : ∀ L : List Int, Srt A L → Srt A (insR A s L)
  | [], _ => ⟨fun x h => by simp at h, trivial⟩
  | e :: es, h => by
    unfold insR
    split
    · rename_i q
      refine ⟨fun x hx => ?_, insR_srt hr ht ha es h.2⟩
      rcases (insR_mem es).mp hx with r | r
      · subst r; exact ha _ _ q
      · exact h.1 x r
    · rename_i q
      refine ⟨fun x hx => ?_, h⟩
      rcases List.mem_cons.mp hx with r | r
      · subst r; exact q
      · exact ht _ _ _ q (h.1 x r)
theorem insR_filter {A : Int → Int → Prop} [∀ a b, Decidable (A a b)] {s : Int} {p : Int → Bool} (ht : ∀ a b c : Int, ¬ A a b → ¬ A b c → ¬ A a c) : ∀ L : List Int, Srt A L → (insR A s L).filter p = if p s then insR A s (L.filter p) else L.filter p
  | [], _ => by
    unfold insR
    cases e : p s <;> simp [e, insR]
  | e :: es, h => by
    have ih := insR_filter (s := s) (p := p) ht es h.2
    by_cases q : A s e
    · rw [show insR A s (e :: es) = e :: insR A s es by conv => lhs; unfold insR; rw [if_pos q]]
      by_cases c : p e = true
      · rw [List.filter_cons_of_pos c, List.filter_cons_of_pos c, ih]
        by_cases cs : p s = true
        · rw [if_pos cs, if_pos cs]
          conv => rhs; unfold insR
          rw [if_pos q]
        · rw [if_neg cs, if_neg cs]
      · rw [List.filter_cons_of_neg c, List.filter_cons_of_neg c, ih]
    · rw [show insR A s (e :: es) = s :: e :: es by conv => lhs; unfold insR; rw [if_neg q]]
      by_cases cs : p s = true
      · rw [List.filter_cons_of_pos cs, if_pos cs]
        have all : ∀ L : List Int, (∀ x ∈ L, ¬ A s x) → insR A s L = s :: L := by
          intro L hL
          cases L with
          | nil => rfl
          | cons a as => unfold insR; rw [if_neg (hL a (by simp))]
        rw [all]
        intro x hx
        have hx := (List.mem_filter.mp hx).1
        rcases List.mem_cons.mp hx with r | r
        · subst r; exact q
        · exact ht _ _ _ q (h.1 x r)
      · rw [List.filter_cons_of_neg cs, if_neg cs]
/-- the songs that p takes, in their order, the last one first -/
def srt (A : Int → Int → Prop) [∀ a b, Decidable (A a b)] (p : Int → Bool) : Nat → List Int
  | 0 => []
  | n + 1 => if p n then insR A n (srt A p n) else srt A p n
theorem srt_srt {A : Int → Int → Prop} [∀ a b, Decidable (A a b)] {p : Int → Bool} (hr : ∀ x, ¬ A x x) (ht : ∀ a b c : Int, ¬ A a b → ¬ A b c → ¬ A a c) (ha : ∀ a b : Int, A a b → ¬ A b a) : ∀ n, Srt A (srt A p n)
  | 0 => trivial
  | n + 1 => by
    unfold srt
    split
    · exact insR_srt hr ht ha _ (srt_srt hr ht ha n)
    · exact srt_srt hr ht ha n
theorem srt_filter {A : Int → Int → Prop} [∀ a b, Decidable (A a b)] {p : Int → Bool} (hr : ∀ x, ¬ A x x) (ht : ∀ a b c : Int, ¬ A a b → ¬ A b c → ¬ A a c) (ha : ∀ a b : Int, A a b → ¬ A b a) : ∀ n, (srt A (fun _ => true) n).filter p = srt A p n
  | 0 => rfl
  | n + 1 => by
    unfold srt
    rw [if_pos rfl, insR_filter ht _ (srt_srt hr ht ha n), srt_filter hr ht ha n]
theorem srt_mem {A : Int → Int → Prop} [∀ a b, Decidable (A a b)] {p : Int → Bool} {x : Int} : ∀ n : Nat, x ∈ srt A p n ↔ (0 ≤ x ∧ x < n) ∧ p x = true
  | 0 => by
    unfold srt
    constructor
    · intro h; simp at h
    · rintro ⟨h, _⟩; omega
  | n + 1 => by
    unfold srt
    by_cases c : p n = true
    · rw [if_pos c, insR_mem, srt_mem n]
      constructor
      · rintro (h | ⟨h, q⟩)
        · subst h; exact ⟨by omega, c⟩
        · exact ⟨by omega, q⟩
      · rintro ⟨h, q⟩
        by_cases e : x = n
        · exact Or.inl e
        · exact Or.inr ⟨by omega, q⟩
    · rw [if_neg c, srt_mem n]
      constructor
      · rintro ⟨h, q⟩; exact ⟨by omega, q⟩
      · rintro ⟨h, q⟩
        by_cases e : x = n
        · subst e; exact absurd q c
        · exact ⟨by omega, q⟩
theorem srt_len {A : Int → Int → Prop} [∀ a b, Decidable (A a b)] {p : Int → Bool} : ∀ n : Nat, (srt A p n).length ≤ n
  | 0 => Nat.le_refl _
  | n + 1 => by
    unfold srt
    have := srt_len (A := A) (p := p) n
    split
    · rw [insR_len]; omega
    · omega

