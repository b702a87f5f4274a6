/-! ===== the two worlds: the model (55 cells, all its references fixed) and the class (183 cells) ===== -/
def ShM : List ZS := [.inl 12, .inr (0, 4), .inr (0, 4), .inr (1, 240), .inr (0, 10), .inr (0, 10), .inr (0, 600), .inr (0, 2), .inr (0, 800), .inr (0, 800), .inr (0, 2), .inr (0, 2), .inr (0, 800), .inr (0, 800), .inr (0, 2), .inr (0, 800), .inr (0, 20), .inr (0, 2), .inr (0, 20), .inr (0, 2), .inr (3, 800), .inr (0, 16), .inr (0, 16), .inr (0, 65536), .inr (0, 48), .inr (0, 16), .inr (0, 16), .inr (3, 408), .inr (2, 600), .inr (2, 600), .inr (0, 60), .inr (0, 60), .inr (0, 60), .inr (0, 60), .inr (0, 60), .inr (0, 60), .inr (0, 60), .inr (0, 60), .inr (0, 60), .inr (0, 60), .inr (0, 60), .inr (0, 60), .inr (0, 720), .inr (1, 8), .inr (1, 8), .inr (0, 8), .inr (3, 8), .inr (0, 8), .inr (0, 8), .inr (0, 8), .inr (0, 8), .inr (0, 8), .inr (0, 8), .inr (0, 8), .inr (0, 8)]
def ShC : List ZS := [.inl 11, .inr (4, 4), .inl 10, .inr (1, 60), .inl 10, .inr (1, 60), .inl 10, .inr (1, 60), .inl 10, .inr (1, 60), .inl 8, .inr (0, 600), .inr (0, 10), .inr (0, 10), .inl 4, .inr (5, 2), .inl 7, .inr (0, 400), .inr (0, 400), .inr (0, 400), .inl 7, .inr (0, 400), .inr (0, 400), .inr (0, 400), .inl 0, .inr (5, 2), .inr (0, 800), .inr (0, 800), .inr (3, 800), .inr (0, 2), .inl 3, .inr (0, 10), .inl 1, .inr (0, 16), .inr (0, 16), .inr (0, 48), .inl 2, .inr (0, 16), .inr (0, 16), .inr (3, 400), .inl 5, .inr (5, 2), .inl 7, .inr (0, 400), .inr (0, 400), .inr (0, 400), .inl 7, .inr (0, 400), .inr (0, 400), .inr (0, 400), .inr (0, 8), .inr (0, 8), .inr (0, 8), .inr (0, 8), .inr (2, 600), .inl 6, .inr (6, 60), .inl 9, .inl 9, .inl 9, .inl 9, .inl 9, .inl 9, .inl 9, .inl 9, .inl 9, .inl 9, .inl 9, .inl 9, .inl 9, .inl 9, .inl 9, .inl 9, .inl 9, .inl 9, .inl 9, .inl 9, .inl 9, .inl 9, .inl 9, .inl 9, .inl 9, .inl 9, .inl 9, .inl 9, .inl 9, .inl 9, .inl 9, .inl 9, .inl 9, .inl 9, .inl 9, .inl 9, .inl 9, .inl 9, .inl 9, .inl 9, .inl 9, .inl 9, .inl 9, .inl 9, .inl 9, .inl 9, .inl 9, .inl 9, .inl 9, .inl 9, .inl 9, .inl 9, .inl 9, .inl 9, .inl 9, .inl 9, .inl 9, .inl 9, .inl 9, .inl 9, .inr (0, 8), .inr (0, 8), .inl 6, .inr (6, 60), .inl 9, .inl 9, .inl 9, .inl 9, .inl 9, .inl 9, .inl 9, .inl 9, .inl 9, .inl 9, .inl 9, .inl 9, .inl 9, .inl 9, .inl 9, .inl 9, .inl 9, .inl 9, .inl 9, .inl 9, .inl 9, .inl 9, .inl 9, .inl 9, .inl 9, .inl 9, .inl 9, .inl 9, .inl 9, .inl 9, .inl 9, .inl 9, .inl 9, .inl 9, .inl 9, .inl 9, .inl 9, .inl 9, .inl 9, .inl 9, .inl 9, .inl 9, .inl 9, .inl 9, .inl 9, .inl 9, .inl 9, .inl 9, .inl 9, .inl 9, .inl 9, .inl 9, .inl 9, .inl 9, .inl 9, .inl 9, .inl 9, .inl 9, .inl 9, .inl 9, .inr (0, 8), .inr (0, 8)]
def RvM (i k : Nat) : Option Nat := match i with
  | 0 => (match k with
    | 1 => some 1
    | 2 => some 2
    | 3 => some 3
    | 8 => some 4
    | 9 => some 5
    | 10 => some 6
    | 11 => some 7
    | 12 => some 8
    | 13 => some 9
    | 14 => some 10
    | 15 => some 11
    | 16 => some 12
    | 17 => some 13
    | 18 => some 14
    | 19 => some 15
    | 21 => some 16
    | 22 => some 17
    | 23 => some 18
    | 24 => some 19
    | 26 => some 20
    | 27 => some 21
    | 28 => some 22
    | 29 => some 23
    | 34 => some 24
    | 35 => some 25
    | 36 => some 26
    | 39 => some 27
    | 41 => some 28
    | 42 => some 29
    | 53 => some 30
    | 54 => some 31
    | 55 => some 32
    | 56 => some 33
    | 57 => some 34
    | 58 => some 35
    | 59 => some 36
    | 60 => some 37
    | 61 => some 38
    | 62 => some 39
    | 63 => some 40
    | 64 => some 41
    | 65 => some 42
    | 66 => some 43
    | 67 => some 44
    | 72 => some 45
    | 73 => some 46
    | 75 => some 47
    | 76 => some 48
    | 77 => some 49
    | 78 => some 50
    | 82 => some 51
    | 83 => some 52
    | 84 => some 53
    | 85 => some 54
    | _ => none)
  | _ => none
def mkM (iv : Nat → Nat → Int) : AH := (ShM, iv, RvM, false)
def mkC (iv : Nat → Nat → Int) (rv : Nat → Nat → Option Nat) : AH := (ShC, iv, rv, false)
def iu (iv : Nat → Nat → Int) (o k : Nat) (x : Int) : Nat → Nat → Int := fun i j => if i = o ∧ j = k then x else iv i j
def ru (rv : Nat → Nat → Option Nat) (o k : Nat) (r : Option Nat) : Nat → Nat → Option Nat := fun i j => if i = o ∧ j = k then r else rv i j
def icpy (iv : Nat → Nat → Int) (o0 sp o1 dp n : Nat) : Nat → Nat → Int := fun i j => if i = o1 ∧ dp ≤ j ∧ j < dp + n then iv o0 (sp + (j - dp)) else iv i j
theorem hset_M {iv : Nat → Nat → Int} {o k : Nat} {x : Int} : hset (mkM iv) o k x = mkM (iu iv o k x) := rfl
theorem hset_C {iv : Nat → Nat → Int} {rv : Nat → Nat → Option Nat} {o k : Nat} {x : Int} : hset (mkC iv rv) o k x = mkC (iu iv o k x) rv := rfl
theorem rset_C {iv : Nat → Nat → Int} {rv : Nat → Nat → Option Nat} {o k : Nat} {r : Option Nat} : rset (mkC iv rv) o k r = mkC iv (ru rv o k r) := rfl
theorem iu_eq {iv : Nat → Nat → Int} {o k : Nat} {x : Int} : iu iv o k x o k = x := if_pos ⟨rfl, rfl⟩
theorem iu_o {iv : Nat → Nat → Int} {o k i j : Nat} {x : Int} (h : i ≠ o) : iu iv o k x i j = iv i j := if_neg (fun q => h q.1)
theorem iu_k {iv : Nat → Nat → Int} {o k i j : Nat} {x : Int} (h : j ≠ k) : iu iv o k x i j = iv i j := if_neg (fun q => h q.2)
theorem iu_i {iv : Nat → Nat → Int} {o k j : Nat} {x : Int} : iu iv o k x o j = if j = k then x else iv o j := by unfold iu; simp
theorem ru_eq {rv : Nat → Nat → Option Nat} {o k : Nat} {x : Option Nat} : ru rv o k x o k = x := if_pos ⟨rfl, rfl⟩
theorem ru_o {rv : Nat → Nat → Option Nat} {o k i j : Nat} {x : Option Nat} (h : i ≠ o) : ru rv o k x i j = rv i j := if_neg (fun q => h q.1)
theorem ru_k {rv : Nat → Nat → Option Nat} {o k i j : Nat} {x : Option Nat} (h : j ≠ k) : ru rv o k x i j = rv i j := if_neg (fun q => h q.2)
def b01 (p : Prop) [Decidable p] : Int := if p then 1 else 0
theorem b01_0 {p : Prop} [Decidable p] : b01 p = 0 ↔ ¬ p := by unfold b01; split <;> simp_all
theorem b01_n {p : Prop} [Decidable p] : ¬ b01 p = 0 ↔ p := by unfold b01; split <;> simp_all
theorem b01_or {p : Prop} [Decidable p] : b01 p = 0 ∨ b01 p = 1 := by unfold b01; split <;> simp
theorem b01_t {p : Prop} [Decidable p] (h : p) : b01 p = 1 := if_pos h
theorem b01_f {p : Prop} [Decidable p] (h : ¬ p) : b01 p = 0 := if_neg h
theorem b01_c {p q : Prop} [Decidable p] [Decidable q] (h : p ↔ q) : b01 p = b01 q := by unfold b01; simp [h]
theorem b01_r {p : Prop} [Decidable p] : 0 ≤ b01 p ∧ b01 p ≤ 1 := by unfold b01; split <;> decide
def ctC : List (Nat × Nat × Nat) := [(0, 0, 1), (0, 1, 10), (0, 2, 14), (0, 3, 15), (0, 4, 24), (0, 5, 30), (0, 6, 32), (0, 7, 36), (0, 8, 40), (0, 9, 54), (1, 0, 2), (1, 1, 4), (1, 2, 6), (1, 3, 8), (2, 0, 3), (4, 0, 5), (6, 0, 7), (8, 0, 9), (10, 0, 11), (10, 1, 12), (10, 2, 13), (15, 0, 16), (15, 1, 20), (16, 0, 14), (16, 1, 17), (16, 2, 18), (16, 3, 19), (20, 0, 14), (20, 1, 21), (20, 2, 22), (20, 3, 23), (24, 0, 25), (24, 1, 14), (24, 2, 26), (24, 3, 27), (24, 4, 28), (24, 5, 29), (25, 0, 16), (25, 1, 20), (30, 0, 31), (32, 0, 33), (32, 1, 34), (32, 2, 35), (36, 0, 37), (36, 1, 38), (36, 2, 39), (40, 0, 10), (40, 1, 15), (40, 2, 41), (41, 0, 42), (41, 1, 46), (42, 0, 14), (42, 1, 43), (42, 2, 44), (42, 3, 45), (46, 0, 14), (46, 1, 47), (46, 2, 48), (46, 3, 49), (55, 0, 56), (55, 1, 117), (55, 2, 118), (56, 0, 57), (56, 1, 58), (56, 2, 59), (56, 3, 60), (56, 4, 61), (56, 5, 62), (56, 6, 63), (56, 7, 64), (56, 8, 65), (56, 9, 66), (56, 10, 67), (56, 11, 68), (56, 12, 69), (56, 13, 70), (56, 14, 71), (56, 15, 72), (56, 16, 73), (56, 17, 74), (56, 18, 75), (56, 19, 76), (56, 20, 77), (56, 21, 78), (56, 22, 79), (56, 23, 80), (56, 24, 81), (56, 25, 82), (56, 26, 83), (56, 27, 84), (56, 28, 85), (56, 29, 86), (56, 30, 87), (56, 31, 88), (56, 32, 89), (56, 33, 90), (56, 34, 91), (56, 35, 92), (56, 36, 93), (56, 37, 94), (56, 38, 95), (56, 39, 96), (56, 40, 97), (56, 41, 98), (56, 42, 99), (56, 43, 100), (56, 44, 101), (56, 45, 102), (56, 46, 103), (56, 47, 104), (56, 48, 105), (56, 49, 106), (56, 50, 107), (56, 51, 108), (56, 52, 109), (56, 53, 110), (56, 54, 111), (56, 55, 112), (56, 56, 113), (56, 57, 114), (56, 58, 115), (56, 59, 116), (119, 0, 120), (119, 1, 181), (119, 2, 182), (120, 0, 121), (120, 1, 122), (120, 2, 123), (120, 3, 124), (120, 4, 125), (120, 5, 126), (120, 6, 127), (120, 7, 128), (120, 8, 129), (120, 9, 130), (120, 10, 131), (120, 11, 132), (120, 12, 133), (120, 13, 134), (120, 14, 135), (120, 15, 136), (120, 16, 137), (120, 17, 138), (120, 18, 139), (120, 19, 140), (120, 20, 141), (120, 21, 142), (120, 22, 143), (120, 23, 144), (120, 24, 145), (120, 25, 146), (120, 26, 147), (120, 27, 148), (120, 28, 149), (120, 29, 150), (120, 30, 151), (120, 31, 152), (120, 32, 153), (120, 33, 154), (120, 34, 155), (120, 35, 156), (120, 36, 157), (120, 37, 158), (120, 38, 159), (120, 39, 160), (120, 40, 161), (120, 41, 162), (120, 42, 163), (120, 43, 164), (120, 44, 165), (120, 45, 166), (120, 46, 167), (120, 47, 168), (120, 48, 169), (120, 49, 170), (120, 50, 171), (120, 51, 172), (120, 52, 173), (120, 53, 174), (120, 54, 175), (120, 55, 176), (120, 56, 177), (120, 57, 178), (120, 58, 179), (120, 59, 180)]
def ctk (i : Nat) : Nat × Nat × Nat := ctC.getD i (0, 0, 1)
/-- the class's references that never change -/
def RC (rv : Nat → Nat → Option Nat) : Prop := ∀ i : Nat, rv (ctk i).1 (ctk i).2.1 = some (ctk i).2.2
def isTr (o : Nat) : Prop := o = 2 ∨ o = 4 ∨ o = 6 ∨ o = 8
def isSd (o : Nat) : Prop := o = 16 ∨ o = 20 ∨ o = 42 ∨ o = 46
def isSh (o : Nat) : Prop := o = 55 ∨ o = 119
def isSt (o : Nat) : Prop := (57 ≤ o ∧ o < 117) ∨ (121 ≤ o ∧ o < 181)
theorem Tr_sh {o : Nat} (h : isTr o) : ShC[o]? = some (.inl 10) := by rcases h with rfl | rfl | rfl | rfl <;> rfl
theorem Tr_r0 {rv : Nat → Nat → Option Nat} {o : Nat} (hR : RC rv) (h : isTr o) : rv o 0 = some (o + 1) := by
  rcases h with rfl | rfl | rfl | rfl
  · exact hR 14
  · exact hR 15
  · exact hR 16
  · exact hR 17
theorem Tr_a1 {o : Nat} (h : isTr o) : ShC[o + 1]? = some (.inr (1, 60)) := by rcases h with rfl | rfl | rfl | rfl <;> rfl
theorem Sd_sh {o : Nat} (h : isSd o) : ShC[o]? = some (.inl 7) := by rcases h with rfl | rfl | rfl | rfl <;> rfl
theorem Sd_r0 {rv : Nat → Nat → Option Nat} {o : Nat} (hR : RC rv) (h : isSd o) : rv o 0 = some 14 := by
  rcases h with rfl | rfl | rfl | rfl
  · exact hR 23
  · exact hR 27
  · exact hR 51
  · exact hR 55
theorem Sd_r1 {rv : Nat → Nat → Option Nat} {o : Nat} (hR : RC rv) (h : isSd o) : rv o 1 = some (o + 1) := by
  rcases h with rfl | rfl | rfl | rfl
  · exact hR 24
  · exact hR 28
  · exact hR 52
  · exact hR 56
theorem Sd_r2 {rv : Nat → Nat → Option Nat} {o : Nat} (hR : RC rv) (h : isSd o) : rv o 2 = some (o + 2) := by
  rcases h with rfl | rfl | rfl | rfl
  · exact hR 25
  · exact hR 29
  · exact hR 53
  · exact hR 57
theorem Sd_r3 {rv : Nat → Nat → Option Nat} {o : Nat} (hR : RC rv) (h : isSd o) : rv o 3 = some (o + 3) := by
  rcases h with rfl | rfl | rfl | rfl
  · exact hR 26
  · exact hR 30
  · exact hR 54
  · exact hR 58
theorem Sd_a1 {o : Nat} (h : isSd o) : ShC[o + 1]? = some (.inr (0, 400)) := by rcases h with rfl | rfl | rfl | rfl <;> rfl
theorem Sd_a2 {o : Nat} (h : isSd o) : ShC[o + 2]? = some (.inr (0, 400)) := by rcases h with rfl | rfl | rfl | rfl <;> rfl
theorem Sd_a3 {o : Nat} (h : isSd o) : ShC[o + 3]? = some (.inr (0, 400)) := by rcases h with rfl | rfl | rfl | rfl <;> rfl
theorem Sh_sh {o : Nat} (h : isSh o) : ShC[o]? = some (.inl 6) := by rcases h with rfl | rfl <;> rfl
theorem Sh_r0 {rv : Nat → Nat → Option Nat} {o : Nat} (hR : RC rv) (h : isSh o) : rv o 0 = some (o + 1) := by
  rcases h with rfl | rfl
  · exact hR 59
  · exact hR 122
theorem Sh_r1 {rv : Nat → Nat → Option Nat} {o : Nat} (hR : RC rv) (h : isSh o) : rv o 1 = some (o + 62) := by
  rcases h with rfl | rfl
  · exact hR 60
  · exact hR 123
theorem Sh_r2 {rv : Nat → Nat → Option Nat} {o : Nat} (hR : RC rv) (h : isSh o) : rv o 2 = some (o + 63) := by
  rcases h with rfl | rfl
  · exact hR 61
  · exact hR 124
theorem Sh_a1 {o : Nat} (h : isSh o) : ShC[o + 1]? = some (.inr (6, 60)) := by rcases h with rfl | rfl <;> rfl
theorem Sh_a62 {o : Nat} (h : isSh o) : ShC[o + 62]? = some (.inr (0, 8)) := by rcases h with rfl | rfl <;> rfl
theorem Sh_a63 {o : Nat} (h : isSh o) : ShC[o + 63]? = some (.inr (0, 8)) := by rcases h with rfl | rfl <;> rfl
set_option maxRecDepth 4000 in
theorem St_sh {o : Nat} (h : isSt o) : ShC[o]? = some (.inl 9) := by
  have h1 : ∀ k, k < 60 → ShC[57 + k]? = some (.inl 9) := by decide +kernel
  have h2 : ∀ k, k < 60 → ShC[121 + k]? = some (.inl 9) := by decide +kernel
  rcases h with h | h
  · have := h1 (o - 57) (by omega)
    rwa [show 57 + (o - 57) = o by omega] at this
  · have := h2 (o - 121) (by omega)
    rwa [show 121 + (o - 121) = o by omega] at this
set_option maxRecDepth 4000 in
theorem ctk_in : ∀ i, i < 185 → ctk i = ctC[i]! := by decide +kernel
set_option maxRecDepth 8000 in
theorem Sh_st0 : ∀ k, k < 60 → (ctk (62 + k)).1 = 56 ∧ (ctk (62 + k)).2.1 = k ∧ (ctk (62 + k)).2.2 = 57 + k := by decide +kernel
set_option maxRecDepth 8000 in
theorem Sh_st1 : ∀ k, k < 60 → (ctk (125 + k)).1 = 120 ∧ (ctk (125 + k)).2.1 = k ∧ (ctk (125 + k)).2.2 = 121 + k := by decide +kernel
theorem Sh_st {rv : Nat → Nat → Option Nat} {o k : Nat} (hR : RC rv) (h : isSh o) (hk : k < 60) : rv (o + 1) k = some (o + 2 + k) := by
  rcases h with rfl | rfl
  · have h1 := hR (62 + k)
    obtain ⟨a, b, c⟩ := Sh_st0 k hk
    rw [a, b, c] at h1
    exact h1
  · have h1 := hR (125 + k)
    obtain ⟨a, b, c⟩ := Sh_st1 k hk
    rw [a, b, c] at h1
    exact h1
theorem sM0 : ShM[0]? = some (.inl 12) := rfl
theorem sM1 : ShM[1]? = some (.inr (0, 4)) := rfl
theorem sM2 : ShM[2]? = some (.inr (0, 4)) := rfl
theorem sM3 : ShM[3]? = some (.inr (1, 240)) := rfl
theorem sM4 : ShM[4]? = some (.inr (0, 10)) := rfl
theorem sM5 : ShM[5]? = some (.inr (0, 10)) := rfl
theorem sM6 : ShM[6]? = some (.inr (0, 600)) := rfl
theorem sM7 : ShM[7]? = some (.inr (0, 2)) := rfl
theorem sM8 : ShM[8]? = some (.inr (0, 800)) := rfl
theorem sM9 : ShM[9]? = some (.inr (0, 800)) := rfl
theorem sM10 : ShM[10]? = some (.inr (0, 2)) := rfl
theorem sM11 : ShM[11]? = some (.inr (0, 2)) := rfl
theorem sM12 : ShM[12]? = some (.inr (0, 800)) := rfl
theorem sM13 : ShM[13]? = some (.inr (0, 800)) := rfl
theorem sM14 : ShM[14]? = some (.inr (0, 2)) := rfl
theorem sM15 : ShM[15]? = some (.inr (0, 800)) := rfl
theorem sM16 : ShM[16]? = some (.inr (0, 20)) := rfl
theorem sM17 : ShM[17]? = some (.inr (0, 2)) := rfl
theorem sM18 : ShM[18]? = some (.inr (0, 20)) := rfl
theorem sM19 : ShM[19]? = some (.inr (0, 2)) := rfl
theorem sM20 : ShM[20]? = some (.inr (3, 800)) := rfl
theorem sM21 : ShM[21]? = some (.inr (0, 16)) := rfl
theorem sM22 : ShM[22]? = some (.inr (0, 16)) := rfl
theorem sM23 : ShM[23]? = some (.inr (0, 65536)) := rfl
theorem sM24 : ShM[24]? = some (.inr (0, 48)) := rfl
theorem sM25 : ShM[25]? = some (.inr (0, 16)) := rfl
theorem sM26 : ShM[26]? = some (.inr (0, 16)) := rfl
theorem sM27 : ShM[27]? = some (.inr (3, 408)) := rfl
theorem sM28 : ShM[28]? = some (.inr (2, 600)) := rfl
theorem sM29 : ShM[29]? = some (.inr (2, 600)) := rfl
theorem sM30 : ShM[30]? = some (.inr (0, 60)) := rfl
theorem sM31 : ShM[31]? = some (.inr (0, 60)) := rfl
theorem sM32 : ShM[32]? = some (.inr (0, 60)) := rfl
theorem sM33 : ShM[33]? = some (.inr (0, 60)) := rfl
theorem sM34 : ShM[34]? = some (.inr (0, 60)) := rfl
theorem sM35 : ShM[35]? = some (.inr (0, 60)) := rfl
theorem sM36 : ShM[36]? = some (.inr (0, 60)) := rfl
theorem sM37 : ShM[37]? = some (.inr (0, 60)) := rfl
theorem sM38 : ShM[38]? = some (.inr (0, 60)) := rfl
theorem sM39 : ShM[39]? = some (.inr (0, 60)) := rfl
theorem sM40 : ShM[40]? = some (.inr (0, 60)) := rfl
theorem sM41 : ShM[41]? = some (.inr (0, 60)) := rfl
theorem sM42 : ShM[42]? = some (.inr (0, 720)) := rfl
theorem sM43 : ShM[43]? = some (.inr (1, 8)) := rfl
theorem sM44 : ShM[44]? = some (.inr (1, 8)) := rfl
theorem sM45 : ShM[45]? = some (.inr (0, 8)) := rfl
theorem sM46 : ShM[46]? = some (.inr (3, 8)) := rfl
theorem sM47 : ShM[47]? = some (.inr (0, 8)) := rfl
theorem sM48 : ShM[48]? = some (.inr (0, 8)) := rfl
theorem sM49 : ShM[49]? = some (.inr (0, 8)) := rfl
theorem sM50 : ShM[50]? = some (.inr (0, 8)) := rfl
theorem sM51 : ShM[51]? = some (.inr (0, 8)) := rfl
theorem sM52 : ShM[52]? = some (.inr (0, 8)) := rfl
theorem sM53 : ShM[53]? = some (.inr (0, 8)) := rfl
theorem sM54 : ShM[54]? = some (.inr (0, 8)) := rfl
theorem sC0 : ShC[0]? = some (.inl 11) := rfl
theorem sC1 : ShC[1]? = some (.inr (4, 4)) := rfl
theorem sC2 : ShC[2]? = some (.inl 10) := rfl
theorem sC3 : ShC[3]? = some (.inr (1, 60)) := rfl
theorem sC4 : ShC[4]? = some (.inl 10) := rfl
theorem sC5 : ShC[5]? = some (.inr (1, 60)) := rfl
theorem sC6 : ShC[6]? = some (.inl 10) := rfl
theorem sC7 : ShC[7]? = some (.inr (1, 60)) := rfl
theorem sC8 : ShC[8]? = some (.inl 10) := rfl
theorem sC9 : ShC[9]? = some (.inr (1, 60)) := rfl
theorem sC10 : ShC[10]? = some (.inl 8) := rfl
theorem sC11 : ShC[11]? = some (.inr (0, 600)) := rfl
theorem sC12 : ShC[12]? = some (.inr (0, 10)) := rfl
theorem sC13 : ShC[13]? = some (.inr (0, 10)) := rfl
theorem sC14 : ShC[14]? = some (.inl 4) := rfl
theorem sC15 : ShC[15]? = some (.inr (5, 2)) := rfl
theorem sC16 : ShC[16]? = some (.inl 7) := rfl
theorem sC17 : ShC[17]? = some (.inr (0, 400)) := rfl
theorem sC18 : ShC[18]? = some (.inr (0, 400)) := rfl
theorem sC19 : ShC[19]? = some (.inr (0, 400)) := rfl
theorem sC20 : ShC[20]? = some (.inl 7) := rfl
theorem sC21 : ShC[21]? = some (.inr (0, 400)) := rfl
theorem sC22 : ShC[22]? = some (.inr (0, 400)) := rfl
theorem sC23 : ShC[23]? = some (.inr (0, 400)) := rfl
theorem sC24 : ShC[24]? = some (.inl 0) := rfl
theorem sC25 : ShC[25]? = some (.inr (5, 2)) := rfl
theorem sC26 : ShC[26]? = some (.inr (0, 800)) := rfl
theorem sC27 : ShC[27]? = some (.inr (0, 800)) := rfl
theorem sC28 : ShC[28]? = some (.inr (3, 800)) := rfl
theorem sC29 : ShC[29]? = some (.inr (0, 2)) := rfl
theorem sC30 : ShC[30]? = some (.inl 3) := rfl
theorem sC31 : ShC[31]? = some (.inr (0, 10)) := rfl
theorem sC32 : ShC[32]? = some (.inl 1) := rfl
theorem sC33 : ShC[33]? = some (.inr (0, 16)) := rfl
theorem sC34 : ShC[34]? = some (.inr (0, 16)) := rfl
theorem sC35 : ShC[35]? = some (.inr (0, 48)) := rfl
theorem sC36 : ShC[36]? = some (.inl 2) := rfl
theorem sC37 : ShC[37]? = some (.inr (0, 16)) := rfl
theorem sC38 : ShC[38]? = some (.inr (0, 16)) := rfl
theorem sC39 : ShC[39]? = some (.inr (3, 400)) := rfl
theorem sC40 : ShC[40]? = some (.inl 5) := rfl
theorem sC41 : ShC[41]? = some (.inr (5, 2)) := rfl
theorem sC42 : ShC[42]? = some (.inl 7) := rfl
theorem sC43 : ShC[43]? = some (.inr (0, 400)) := rfl
theorem sC44 : ShC[44]? = some (.inr (0, 400)) := rfl
theorem sC45 : ShC[45]? = some (.inr (0, 400)) := rfl
theorem sC46 : ShC[46]? = some (.inl 7) := rfl
theorem sC47 : ShC[47]? = some (.inr (0, 400)) := rfl
theorem sC48 : ShC[48]? = some (.inr (0, 400)) := rfl
theorem sC49 : ShC[49]? = some (.inr (0, 400)) := rfl
theorem sC50 : ShC[50]? = some (.inr (0, 8)) := rfl
theorem sC51 : ShC[51]? = some (.inr (0, 8)) := rfl
theorem sC52 : ShC[52]? = some (.inr (0, 8)) := rfl
theorem sC53 : ShC[53]? = some (.inr (0, 8)) := rfl
theorem sC54 : ShC[54]? = some (.inr (2, 600)) := rfl
theorem sC55 : ShC[55]? = some (.inl 6) := rfl
theorem sC56 : ShC[56]? = some (.inr (6, 60)) := rfl
theorem sC117 : ShC[117]? = some (.inr (0, 8)) := rfl
theorem sC118 : ShC[118]? = some (.inr (0, 8)) := rfl
theorem sC119 : ShC[119]? = some (.inl 6) := rfl
theorem sC120 : ShC[120]? = some (.inr (6, 60)) := rfl
theorem sC181 : ShC[181]? = some (.inr (0, 8)) := rfl
theorem sC182 : ShC[182]? = some (.inr (0, 8)) := rfl
section ZW
variable {G : ZG} {M : ZM} {d bc bs pc : Nat} {L S : List AV} {A : AH} {K : Option AV → AH → Prop}
def zsub (L' L : List AV) : Prop := match L', L with
  | [], _ => True
  | _ :: _, [] => False
  | v :: a, w :: b => (v = w ∨ v = vu) ∧ zsub a b
theorem zsub_get : ∀ {L' L : List AV} {i : Nat} {v : AV}, zsub L' L → L'[i]? = some v → isu v = false → L[i]? = some v
  | [], _, i, v, _, h, _ => by simp at h
  | _ :: _, [], _, _, hz, _, _ => hz.elim
  | w :: a, x :: b, 0, v, hz, h, hu => by
    have h : w = v := Option.some.inj h
    subst h
    rcases hz.1 with e | e
    · rw [e]; rfl
    · rw [e] at hu; cases hu
  | w :: a, x :: b, i + 1, v, hz, h, hu => zsub_get (L' := a) (L := b) hz.2 h hu
/-- what is no longer asked may be forgotten -/
theorem Z.fg {L' : List AV} (hz : zsub L' L) (k : Z G M d bc bs pc L' S A K) : Z G M d bc bs pc L S A K := by
  intro p l e R s m args below meth c H locs cells slots ls mc ms A0 hC hX hH hA hS hl hL hSt hc hs
  refine k p l e R s m args below meth c H locs cells slots ls mc ms A0 hC hX hH hA hS ⟨hl.1, hl.2.1, fun q hq => ?_⟩ (fun v hv => ?_) hSt hc hs
  · obtain ⟨v, h1, h2, h3⟩ := zl_mem.mp hq
    exact hl.2.2 q (zl_mem.mpr ⟨v, zsub_get hz h1 h2, h2, h3⟩)
  · obtain ⟨i, hi⟩ := List.getElem?_of_mem hv
    cases hu : isu v with
    | false => exact hL v (List.mem_of_getElem? (zsub_get hz hi hu))
    | true =>
      match v, hu with
      | .inr (.inr (.inr _)), _ => trivial
theorem Z_gI {o idx ci k : Nat} {x : Int} (hd : decode M.2.1 pc = .ok (.getfield idx, 3)) (hf : ZL M.1.cls idx ci k) (ho : A.1[o]? = some (.inl ci)) (ht : ftc (zty ci k) = 0 ∨ ftc (zty ci k) = 3) (e : A.2.1 o k = x) (kk : Z G M d bc bs (pc + 3) L (vi x :: S) A K) : Z G M d bc bs pc L (vr (some o) :: S) A K := Z_getI hd hf ho ht (by rw [e]; exact kk)
theorem Z_gR {o idx ci k : Nat} {r : Option Nat} (hd : decode M.2.1 pc = .ok (.getfield idx, 3)) (hf : ZL M.1.cls idx ci k) (ho : A.1[o]? = some (.inl ci)) (ht : ftc (zty ci k) = 4) (e : A.2.2.1 o k = r) (kk : Z G M d bc bs (pc + 3) L (vr r :: S) A K) : Z G M d bc bs pc L (vr (some o) :: S) A K := Z_getR hd hf ho ht (by rw [e]; exact kk)
theorem Z_il {o n : Nat} {i x : Int} (hd : decode M.2.1 pc = .ok (.iaload, 1)) (ho : A.1[o]? = some (.inr (0, n))) (hi : 0 ≤ i ∧ i < n) (e : A.2.1 o i.toNat = x) (kk : Z G M d bc bs (pc + 1) L (vi x :: S) A K) : Z G M d bc bs pc L (vi i :: vr (some o) :: S) A K := Z_iald hd ho hi (by rw [e]; exact kk)
theorem Z_ll {o n : Nat} {i x : Int} (hd : decode M.2.1 pc = .ok (.laload, 1)) (ho : A.1[o]? = some (.inr (1, n))) (hi : 0 ≤ i ∧ i < n) (e : A.2.1 o i.toNat = x) (kk : Z G M d bc bs (pc + 1) L (vl x :: S) A K) : Z G M d bc bs pc L (vi i :: vr (some o) :: S) A K := Z_lald hd ho hi (by rw [e]; exact kk)
theorem Z_bl {o n : Nat} {i x : Int} (hd : decode M.2.1 pc = .ok (.baload, 1)) (ho : A.1[o]? = some (.inr (2, n))) (hi : 0 ≤ i ∧ i < n) (e : A.2.1 o i.toNat = x) (kk : Z G M d bc bs (pc + 1) L (vi x :: S) A K) : Z G M d bc bs pc L (vi i :: vr (some o) :: S) A K := Z_bald hd ho hi (by rw [e]; exact kk)
theorem Z_zl {o n : Nat} {i x : Int} (hd : decode M.2.1 pc = .ok (.baload, 1)) (ho : A.1[o]? = some (.inr (3, n))) (hi : 0 ≤ i ∧ i < n) (e : A.2.1 o i.toNat = x) (kk : Z G M d bc bs (pc + 1) L (vi x :: S) A K) : Z G M d bc bs pc L (vi i :: vr (some o) :: S) A K := Z_zald hd ho hi (by rw [e]; exact kk)
theorem Z_al {o t n : Nat} {i : Int} {r : Option Nat} (hd : decode M.2.1 pc = .ok (.aaload, 1)) (ho : A.1[o]? = some (.inr (t, n))) (ht : t = 4 ∨ t = 5 ∨ t = 6) (hi : 0 ≤ i ∧ i < n) (e : A.2.2.1 o i.toNat = r) (kk : Z G M d bc bs (pc + 1) L (vr r :: S) A K) : Z G M d bc bs pc L (vi i :: vr (some o) :: S) A K := Z_aald hd ho ht hi (by rw [e]; exact kk)
theorem Z_cV {M' : ZM} {idx n o ci : Nat} {As : List AV} (hd : decode M.2.1 pc = .ok (.invokevirtual idx, 3)) (hv : ZV M.1.cls idx M' n) (ho : A.1[o]? = some (.inl ci)) (hci : ci < 13) (hcl : zR ci = M'.1.cls) (hn : As.length = n) (hsz : zsz S ≤ 8) (hlen : (zflat (vr (some o) :: As)).length ≤ M'.2.2.1)
    (k : Z G M' d 0 0 0 (zent (vr (some o) :: As) M'.2.2.1) [] A (fun r A1 => Z G M (d + 1) 0 0 (pc + 3) L (r.toList ++ S) A1 K)) : Z G M (d + 1) 0 0 pc L (As.reverse ++ vr (some o) :: S) A K := Z_callV hd hv ho hci hcl hn hsz hlen (bc1 := 0) (bs1 := 0) rfl rfl k
theorem Z_cX {M' : ZM} {idx n i : Nat} {As : List AV} {tx : List Int32} (hd : decode M.2.1 pc = .ok (.invokevirtual idx, 3)) (hv : ZV M.1.cls idx M' n) (hx : zstr[i]? = some tx) (hcl : "java/lang/String" = M'.1.cls) (hn : As.length = n) (hsz : zsz S ≤ 8) (hlen : (zflat (vr (some (1000000 + i)) :: As)).length ≤ M'.2.2.1)
    (k : Z G M' d 0 0 0 (zent (vr (some (1000000 + i)) :: As) M'.2.2.1) [] A (fun r A1 => Z G M (d + 1) 0 0 (pc + 3) L (r.toList ++ S) A1 K)) : Z G M (d + 1) 0 0 pc L (As.reverse ++ vr (some (1000000 + i)) :: S) A K := Z_callX hd hv hx hcl hn hsz hlen (bc1 := 0) (bs1 := 0) rfl rfl k
theorem Z_cS {M' : ZM} {idx n : Nat} {As : List AV} (hd : decode M.2.1 pc = .ok (.invokestatic idx, 3)) (hv : ZT M.1.cls idx M' n) (hn : As.length = n) (hsz : zsz S ≤ 8) (hlen : (zflat As).length ≤ M'.2.2.1)
    (k : Z G M' d 0 0 0 (zent As M'.2.2.1) [] A (fun r A1 => Z G M (d + 1) 0 0 (pc + 3) L (r.toList ++ S) A1 K)) : Z G M (d + 1) 0 0 pc L (As.reverse ++ S) A K := Z_callS hd hv hn hsz hlen (bc1 := 0) (bs1 := 0) rfl rfl k
theorem Z_cN {M' : ZM} {idx n : Nat} {As : List AV} (hd : decode M.2.1 pc = .ok (.invokestatic idx, 3)) (hv : ZTN M.1.cls idx M' n) (hn : As.length = n) (hsz : zsz S ≤ 8) (hlen : (zflat As).length ≤ M'.2.2.1)
    (k : Z G M' d 0 0 0 (zent As M'.2.2.1) [] A (fun r A1 => Z G M (d + 1) 0 0 (pc + 3) L (r.toList ++ S) A1 K)) : Z G M (d + 1) 0 0 pc L (As.reverse ++ S) A K := Z_callSN hd hv hn hsz hlen (bc1 := 0) (bs1 := 0) rfl rfl k
end ZW
section ZWM
variable {G : ZG} {M : ZM} {d bc bs pc : Nat} {L S : List AV} {K : Option AV → AH → Prop} {iv : Nat → Nat → Int}
theorem Z_putIM {o idx ci k : Nat} {x : Int} (hd : decode M.2.1 pc = .ok (.putfield idx, 3)) (hf : ZL M.1.cls idx ci k) (ho : ShM[o]? = some (.inl ci)) (ht : ftc (zty ci k) = 0) (hfin : (zT ci k).2.2.2 = false ∨ (zT ci k).2.2.2 = true ∧ M.1.name = "<init>" ∧ (zT ci k).1 = M.1.cls) (kk : Z G M d bc bs (pc + 3) L S (mkM (iu iv o k x)) K) : Z G M d bc bs pc L (vi x :: vr (some o) :: S) (mkM iv) K := Z_putI hd hf ho ht hfin kk
theorem Z_putZM {o idx ci k : Nat} {x : Int} (hd : decode M.2.1 pc = .ok (.putfield idx, 3)) (hf : ZL M.1.cls idx ci k) (ho : ShM[o]? = some (.inl ci)) (ht : ftc (zty ci k) = 3) (hx : x = 0 ∨ x = 1) (hfin : (zT ci k).2.2.2 = false ∨ (zT ci k).2.2.2 = true ∧ M.1.name = "<init>" ∧ (zT ci k).1 = M.1.cls) (kk : Z G M d bc bs (pc + 3) L S (mkM (iu iv o k x)) K) : Z G M d bc bs pc L (vi x :: vr (some o) :: S) (mkM iv) K := Z_putZ hd hf ho ht hx hfin kk
theorem Z_gIM {o idx ci k : Nat} {x : Int} (hd : decode M.2.1 pc = .ok (.getfield idx, 3)) (hf : ZL M.1.cls idx ci k) (ho : ShM[o]? = some (.inl ci)) (ht : ftc (zty ci k) = 0 ∨ ftc (zty ci k) = 3) (e : iv o k = x) (kk : Z G M d bc bs (pc + 3) L (vi x :: S) (mkM iv) K) : Z G M d bc bs pc L (vr (some o) :: S) (mkM iv) K := Z_gI hd hf ho ht e kk
theorem Z_gRM {o idx ci k : Nat} {r : Option Nat} (hd : decode M.2.1 pc = .ok (.getfield idx, 3)) (hf : ZL M.1.cls idx ci k) (ho : ShM[o]? = some (.inl ci)) (ht : ftc (zty ci k) = 4) (e : RvM o k = r) (kk : Z G M d bc bs (pc + 3) L (vr r :: S) (mkM iv) K) : Z G M d bc bs pc L (vr (some o) :: S) (mkM iv) K := Z_gR hd hf ho ht e kk
theorem Z_ilM {o n : Nat} {i x : Int} (hd : decode M.2.1 pc = .ok (.iaload, 1)) (ho : ShM[o]? = some (.inr (0, n))) (hi : 0 ≤ i ∧ i < n) (e : iv o i.toNat = x) (kk : Z G M d bc bs (pc + 1) L (vi x :: S) (mkM iv) K) : Z G M d bc bs pc L (vi i :: vr (some o) :: S) (mkM iv) K := Z_il hd ho hi e kk
theorem Z_llM {o n : Nat} {i x : Int} (hd : decode M.2.1 pc = .ok (.laload, 1)) (ho : ShM[o]? = some (.inr (1, n))) (hi : 0 ≤ i ∧ i < n) (e : iv o i.toNat = x) (kk : Z G M d bc bs (pc + 1) L (vl x :: S) (mkM iv) K) : Z G M d bc bs pc L (vi i :: vr (some o) :: S) (mkM iv) K := Z_ll hd ho hi e kk
theorem Z_blM {o n : Nat} {i x : Int} (hd : decode M.2.1 pc = .ok (.baload, 1)) (ho : ShM[o]? = some (.inr (2, n))) (hi : 0 ≤ i ∧ i < n) (e : iv o i.toNat = x) (kk : Z G M d bc bs (pc + 1) L (vi x :: S) (mkM iv) K) : Z G M d bc bs pc L (vi i :: vr (some o) :: S) (mkM iv) K := Z_bl hd ho hi e kk
theorem Z_zlM {o n : Nat} {i x : Int} (hd : decode M.2.1 pc = .ok (.baload, 1)) (ho : ShM[o]? = some (.inr (3, n))) (hi : 0 ≤ i ∧ i < n) (e : iv o i.toNat = x) (kk : Z G M d bc bs (pc + 1) L (vi x :: S) (mkM iv) K) : Z G M d bc bs pc L (vi i :: vr (some o) :: S) (mkM iv) K := Z_zl hd ho hi e kk
theorem Z_iastM {o n : Nat} {i x : Int} (hd : decode M.2.1 pc = .ok (.iastore, 1)) (ho : ShM[o]? = some (.inr (0, n))) (hi : 0 ≤ i ∧ i < n) (kk : Z G M d bc bs (pc + 1) L S (mkM (iu iv o i.toNat x)) K) : Z G M d bc bs pc L (vi x :: vi i :: vr (some o) :: S) (mkM iv) K := Z_iast hd ho hi kk
theorem Z_lastM {o n : Nat} {i x : Int} (hd : decode M.2.1 pc = .ok (.lastore, 1)) (ho : ShM[o]? = some (.inr (1, n))) (hi : 0 ≤ i ∧ i < n) (kk : Z G M d bc bs (pc + 1) L S (mkM (iu iv o i.toNat x)) K) : Z G M d bc bs pc L (vl x :: vi i :: vr (some o) :: S) (mkM iv) K := Z_last hd ho hi kk
theorem Z_bastM {o n : Nat} {i x : Int} (hd : decode M.2.1 pc = .ok (.bastore, 1)) (ho : ShM[o]? = some (.inr (2, n))) (hi : 0 ≤ i ∧ i < n) (hx : -128 ≤ x ∧ x ≤ 127) (kk : Z G M d bc bs (pc + 1) L S (mkM (iu iv o i.toNat x)) K) : Z G M d bc bs pc L (vi x :: vi i :: vr (some o) :: S) (mkM iv) K := Z_bast hd ho hi hx kk
theorem Z_zastM {o n : Nat} {i x : Int} (hd : decode M.2.1 pc = .ok (.bastore, 1)) (ho : ShM[o]? = some (.inr (3, n))) (hi : 0 ≤ i ∧ i < n) (hx : x = 0 ∨ x = 1) (kk : Z G M d bc bs (pc + 1) L S (mkM (iu iv o i.toNat x)) K) : Z G M d bc bs pc L (vi x :: vi i :: vr (some o) :: S) (mkM iv) K := Z_zast hd ho hi hx kk
theorem Z_alenM {o t n : Nat} (hd : decode M.2.1 pc = .ok (.arraylength, 1)) (ho : ShM[o]? = some (.inr (t, n))) (ht : t < 7) (hn : n ≤ 2147483647) (kk : Z G M d bc bs (pc + 1) L (vi n :: S) (mkM iv) K) : Z G M d bc bs pc L (vr (some o) :: S) (mkM iv) K := Z_alen hd ho ht hn kk
theorem Z_cVM {M' : ZM} {idx n o ci : Nat} {As : List AV} (hd : decode M.2.1 pc = .ok (.invokevirtual idx, 3)) (hv : ZV M.1.cls idx M' n) (ho : ShM[o]? = some (.inl ci)) (hci : ci < 13) (hcl : zR ci = M'.1.cls) (hn : As.length = n) (hsz : zsz S ≤ 8) (hlen : (zflat (vr (some o) :: As)).length ≤ M'.2.2.1) (k : Z G M' d 0 0 0 (zent (vr (some o) :: As) M'.2.2.1) [] (mkM iv) (fun r A1 => Z G M (d + 1) 0 0 (pc + 3) L (r.toList ++ S) A1 K)) : Z G M (d + 1) 0 0 pc L (As.reverse ++ vr (some o) :: S) (mkM iv) K := Z_cV hd hv ho hci hcl hn hsz hlen k
end ZWM
section ZWC
variable {G : ZG} {M : ZM} {d bc bs pc : Nat} {L S : List AV} {K : Option AV → AH → Prop} {iv : Nat → Nat → Int} {rv : Nat → Nat → Option Nat}
theorem Z_putIC {o idx ci k : Nat} {x : Int} (hd : decode M.2.1 pc = .ok (.putfield idx, 3)) (hf : ZL M.1.cls idx ci k) (ho : ShC[o]? = some (.inl ci)) (ht : ftc (zty ci k) = 0) (hfin : (zT ci k).2.2.2 = false ∨ (zT ci k).2.2.2 = true ∧ M.1.name = "<init>" ∧ (zT ci k).1 = M.1.cls) (kk : Z G M d bc bs (pc + 3) L S (mkC (iu iv o k x) rv) K) : Z G M d bc bs pc L (vi x :: vr (some o) :: S) (mkC iv rv) K := Z_putI hd hf ho ht hfin kk
theorem Z_putZC {o idx ci k : Nat} {x : Int} (hd : decode M.2.1 pc = .ok (.putfield idx, 3)) (hf : ZL M.1.cls idx ci k) (ho : ShC[o]? = some (.inl ci)) (ht : ftc (zty ci k) = 3) (hx : x = 0 ∨ x = 1) (hfin : (zT ci k).2.2.2 = false ∨ (zT ci k).2.2.2 = true ∧ M.1.name = "<init>" ∧ (zT ci k).1 = M.1.cls) (kk : Z G M d bc bs (pc + 3) L S (mkC (iu iv o k x) rv) K) : Z G M d bc bs pc L (vi x :: vr (some o) :: S) (mkC iv rv) K := Z_putZ hd hf ho ht hx hfin kk
theorem Z_putRC {o idx ci k : Nat} {r : Option Nat} (hd : decode M.2.1 pc = .ok (.putfield idx, 3)) (hf : ZL M.1.cls idx ci k) (ho : ShC[o]? = some (.inl ci)) (ht : ftc (zty ci k) = 4) (hfin : (zT ci k).2.2.2 = false ∨ (zT ci k).2.2.2 = true ∧ M.1.name = "<init>" ∧ (zT ci k).1 = M.1.cls) (kk : Z G M d bc bs (pc + 3) L S (mkC iv (ru rv o k r)) K) : Z G M d bc bs pc L (vr r :: vr (some o) :: S) (mkC iv rv) K := Z_putR hd hf ho ht hfin kk
theorem Z_gIC {o idx ci k : Nat} {x : Int} (hd : decode M.2.1 pc = .ok (.getfield idx, 3)) (hf : ZL M.1.cls idx ci k) (ho : ShC[o]? = some (.inl ci)) (ht : ftc (zty ci k) = 0 ∨ ftc (zty ci k) = 3) (e : iv o k = x) (kk : Z G M d bc bs (pc + 3) L (vi x :: S) (mkC iv rv) K) : Z G M d bc bs pc L (vr (some o) :: S) (mkC iv rv) K := Z_gI hd hf ho ht e kk
theorem Z_gRC {o idx ci k : Nat} {r : Option Nat} (hd : decode M.2.1 pc = .ok (.getfield idx, 3)) (hf : ZL M.1.cls idx ci k) (ho : ShC[o]? = some (.inl ci)) (ht : ftc (zty ci k) = 4) (e : rv o k = r) (kk : Z G M d bc bs (pc + 3) L (vr r :: S) (mkC iv rv) K) : Z G M d bc bs pc L (vr (some o) :: S) (mkC iv rv) K := Z_gR hd hf ho ht e kk
theorem Z_ilC {o n : Nat} {i x : Int} (hd : decode M.2.1 pc = .ok (.iaload, 1)) (ho : ShC[o]? = some (.inr (0, n))) (hi : 0 ≤ i ∧ i < n) (e : iv o i.toNat = x) (kk : Z G M d bc bs (pc + 1) L (vi x :: S) (mkC iv rv) K) : Z G M d bc bs pc L (vi i :: vr (some o) :: S) (mkC iv rv) K := Z_il hd ho hi e kk
theorem Z_llC {o n : Nat} {i x : Int} (hd : decode M.2.1 pc = .ok (.laload, 1)) (ho : ShC[o]? = some (.inr (1, n))) (hi : 0 ≤ i ∧ i < n) (e : iv o i.toNat = x) (kk : Z G M d bc bs (pc + 1) L (vl x :: S) (mkC iv rv) K) : Z G M d bc bs pc L (vi i :: vr (some o) :: S) (mkC iv rv) K := Z_ll hd ho hi e kk
theorem Z_blC {o n : Nat} {i x : Int} (hd : decode M.2.1 pc = .ok (.baload, 1)) (ho : ShC[o]? = some (.inr (2, n))) (hi : 0 ≤ i ∧ i < n) (e : iv o i.toNat = x) (kk : Z G M d bc bs (pc + 1) L (vi x :: S) (mkC iv rv) K) : Z G M d bc bs pc L (vi i :: vr (some o) :: S) (mkC iv rv) K := Z_bl hd ho hi e kk
theorem Z_zlC {o n : Nat} {i x : Int} (hd : decode M.2.1 pc = .ok (.baload, 1)) (ho : ShC[o]? = some (.inr (3, n))) (hi : 0 ≤ i ∧ i < n) (e : iv o i.toNat = x) (kk : Z G M d bc bs (pc + 1) L (vi x :: S) (mkC iv rv) K) : Z G M d bc bs pc L (vi i :: vr (some o) :: S) (mkC iv rv) K := Z_zl hd ho hi e kk
theorem Z_alC {o t n : Nat} {i : Int} {r : Option Nat} (hd : decode M.2.1 pc = .ok (.aaload, 1)) (ho : ShC[o]? = some (.inr (t, n))) (ht : t = 4 ∨ t = 5 ∨ t = 6) (hi : 0 ≤ i ∧ i < n) (e : rv o i.toNat = r) (kk : Z G M d bc bs (pc + 1) L (vr r :: S) (mkC iv rv) K) : Z G M d bc bs pc L (vi i :: vr (some o) :: S) (mkC iv rv) K := Z_al hd ho ht hi e kk
theorem Z_iastC {o n : Nat} {i x : Int} (hd : decode M.2.1 pc = .ok (.iastore, 1)) (ho : ShC[o]? = some (.inr (0, n))) (hi : 0 ≤ i ∧ i < n) (kk : Z G M d bc bs (pc + 1) L S (mkC (iu iv o i.toNat x) rv) K) : Z G M d bc bs pc L (vi x :: vi i :: vr (some o) :: S) (mkC iv rv) K := Z_iast hd ho hi kk
theorem Z_lastC {o n : Nat} {i x : Int} (hd : decode M.2.1 pc = .ok (.lastore, 1)) (ho : ShC[o]? = some (.inr (1, n))) (hi : 0 ≤ i ∧ i < n) (kk : Z G M d bc bs (pc + 1) L S (mkC (iu iv o i.toNat x) rv) K) : Z G M d bc bs pc L (vl x :: vi i :: vr (some o) :: S) (mkC iv rv) K := Z_last hd ho hi kk
theorem Z_bastC {o n : Nat} {i x : Int} (hd : decode M.2.1 pc = .ok (.bastore, 1)) (ho : ShC[o]? = some (.inr (2, n))) (hi : 0 ≤ i ∧ i < n) (hx : -128 ≤ x ∧ x ≤ 127) (kk : Z G M d bc bs (pc + 1) L S (mkC (iu iv o i.toNat x) rv) K) : Z G M d bc bs pc L (vi x :: vi i :: vr (some o) :: S) (mkC iv rv) K := Z_bast hd ho hi hx kk
theorem Z_zastC {o n : Nat} {i x : Int} (hd : decode M.2.1 pc = .ok (.bastore, 1)) (ho : ShC[o]? = some (.inr (3, n))) (hi : 0 ≤ i ∧ i < n) (hx : x = 0 ∨ x = 1) (kk : Z G M d bc bs (pc + 1) L S (mkC (iu iv o i.toNat x) rv) K) : Z G M d bc bs pc L (vi x :: vi i :: vr (some o) :: S) (mkC iv rv) K := Z_zast hd ho hi hx kk
theorem Z_copyIC {idx o0 o1 n0 n1 : Nat} {sp dp n : Int} (hd : decode M.2.1 pc = .ok (.invokestatic idx, 3)) (h1 : Cond.methodLink M.1.cls idx arraycopyName ∈ zw) (ho0 : ShC[o0]? = some (.inr (0, n0))) (ho1 : ShC[o1]? = some (.inr (0, n1))) (hsp : 0 ≤ sp) (hdp : 0 ≤ dp) (hn : 0 ≤ n) (hb0 : sp + n ≤ n0) (hb1 : dp + n ≤ n1) (hsz : zsz S ≤ 8) (kk : Z G M d bc bs (pc + 3) L S (mkC (icpy iv o0 sp.toNat o1 dp.toNat n.toNat) rv) K) : Z G M d bc bs pc L (vi n :: vi dp :: vr (some o1) :: vi sp :: vr (some o0) :: S) (mkC iv rv) K := Z_copyI hd h1 ac_nat ac_sta ac_ini rfl ho0 ho1 hsp hdp hn hb0 hb1 hsz kk
theorem Z_copyLC {idx o0 o1 n0 n1 : Nat} {sp dp n : Int} (hd : decode M.2.1 pc = .ok (.invokestatic idx, 3)) (h1 : Cond.methodLink M.1.cls idx arraycopyName ∈ zw) (ho0 : ShC[o0]? = some (.inr (1, n0))) (ho1 : ShC[o1]? = some (.inr (1, n1))) (hsp : 0 ≤ sp) (hdp : 0 ≤ dp) (hn : 0 ≤ n) (hb0 : sp + n ≤ n0) (hb1 : dp + n ≤ n1) (hsz : zsz S ≤ 8) (kk : Z G M d bc bs (pc + 3) L S (mkC (icpy iv o0 sp.toNat o1 dp.toNat n.toNat) rv) K) : Z G M d bc bs pc L (vi n :: vi dp :: vr (some o1) :: vi sp :: vr (some o0) :: S) (mkC iv rv) K := Z_copyL hd h1 ac_nat ac_sta ac_ini rfl ho0 ho1 hsp hdp hn hb0 hb1 hsz kk
theorem Z_alenC {o t n : Nat} (hd : decode M.2.1 pc = .ok (.arraylength, 1)) (ho : ShC[o]? = some (.inr (t, n))) (ht : t < 7) (hn : n ≤ 2147483647) (kk : Z G M d bc bs (pc + 1) L (vi n :: S) (mkC iv rv) K) : Z G M d bc bs pc L (vr (some o) :: S) (mkC iv rv) K := Z_alen hd ho ht hn kk
theorem Z_cVC {M' : ZM} {idx n o ci : Nat} {As : List AV} (hd : decode M.2.1 pc = .ok (.invokevirtual idx, 3)) (hv : ZV M.1.cls idx M' n) (ho : ShC[o]? = some (.inl ci)) (hci : ci < 13) (hcl : zR ci = M'.1.cls) (hn : As.length = n) (hsz : zsz S ≤ 8) (hlen : (zflat (vr (some o) :: As)).length ≤ M'.2.2.1) (k : Z G M' d 0 0 0 (zent (vr (some o) :: As) M'.2.2.1) [] (mkC iv rv) (fun r A1 => Z G M (d + 1) 0 0 (pc + 3) L (r.toList ++ S) A1 K)) : Z G M (d + 1) 0 0 pc L (As.reverse ++ vr (some o) :: S) (mkC iv rv) K := Z_cV hd hv ho hci hcl hn hsz hlen k
end ZWC
/-- sides, rows, kept sides and trays by their number -/
def trA (i : Int) : Nat := if i = 0 then 2 else if i = 1 then 4 else if i = 2 then 6 else 8
def sdA (i : Int) : Nat := if i = 0 then 16 else 20
def rwA (i : Int) : Nat := if i = 0 then 16 else 20
def kpA (i : Int) : Nat := if i = 0 then 42 else 46
theorem trA_is (i : Int) : isTr (trA i) := by unfold trA isTr; split <;> (try split) <;> (try split) <;> simp
theorem sdA_is (i : Int) : isSd (sdA i) := by unfold sdA isSd; split <;> simp
theorem rwA_is (i : Int) : isSd (rwA i) := by unfold rwA isSd; split <;> simp
theorem kpA_is (i : Int) : isSd (kpA i) := by unfold kpA isSd; split <;> simp
theorem trA_r {rv : Nat → Nat → Option Nat} {i : Int} (hR : RC rv) (h : 0 ≤ i ∧ i < ((4 : Nat) : Int)) : rv 1 i.toNat = some (trA i) := by
  rcases (show i = 0 ∨ i = 1 ∨ i = 2 ∨ i = 3 by omega) with rfl | rfl | rfl | rfl
  · exact hR 10
  · exact hR 11
  · exact hR 12
  · exact hR 13
theorem sdA_r {rv : Nat → Nat → Option Nat} {i : Int} (hR : RC rv) (h : 0 ≤ i ∧ i < ((2 : Nat) : Int)) : rv 15 i.toNat = some (sdA i) := by
  rcases (show i = 0 ∨ i = 1 by omega) with rfl | rfl
  · exact hR 21
  · exact hR 22
theorem rwA_r {rv : Nat → Nat → Option Nat} {i : Int} (hR : RC rv) (h : 0 ≤ i ∧ i < ((2 : Nat) : Int)) : rv 25 i.toNat = some (rwA i) := by
  rcases (show i = 0 ∨ i = 1 by omega) with rfl | rfl
  · exact hR 37
  · exact hR 38
theorem kpA_r {rv : Nat → Nat → Option Nat} {i : Int} (hR : RC rv) (h : 0 ≤ i ∧ i < ((2 : Nat) : Int)) : rv 41 i.toNat = some (kpA i) := by
  rcases (show i = 0 ∨ i = 1 by omega) with rfl | rfl
  · exact hR 49
  · exact hR 50
theorem Sh_stI {o k : Nat} (h : isSh o) (hk : k < 60) : isSt (o + 2 + k) := by
  rcases h with rfl | rfl
  · exact Or.inl ⟨by omega, by omega⟩
  · exact Or.inr ⟨by omega, by omega⟩
