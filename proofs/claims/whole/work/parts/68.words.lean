/-! ===== which word it is ===== -/
def wdP (b : Nat → Int) (t a e : Int) (tx : List Int32) : Prop := t = 2 ∧ e - a = tx.length ∧ ∀ k : Nat, k < tx.length → b (a + k).toNat = (tx.getD k 0).toInt
noncomputable def wn (b : Nat → Int) (t a e : Int) : Int := @dite _ (∃ j : Nat, j < 15 ∧ wdP b t a e (zstr.getD j [])) (Classical.propDecidable _) (fun h => (h.choose : Int)) (fun _ => -1)
theorem zstr_inj : ∀ j, j < 15 → ∀ i, i < 15 → zstr.getD j [] = zstr.getD i [] → j = i := by decide
theorem wd_inj {b : Nat → Int} {t a e : Int} {l l' : List Int32} (h : wdP b t a e l) (h' : wdP b t a e l') : l = l' := by
  have hl : l.length = l'.length := by have := h.2.1; have := h'.2.1; omega
  apply List.ext_getElem hl
  intro i h1 h2
  have e1 := h.2.2 i h1
  have e2 := h'.2.2 i h2
  rw [e1, List.getD_eq_getElem?_getD, List.getD_eq_getElem?_getD, List.getElem?_eq_getElem h1, List.getElem?_eq_getElem h2] at e2
  exact Int32.toInt_inj.mp e2
theorem wn_iff {b : Nat → Int} {t a e : Int} {j : Nat} {tx : List Int32} (hx : zstr[j]? = some tx) : wdP b t a e tx ↔ wn b t a e = (j : Int) := by
  have hj : j < 15 := by
    rcases Nat.lt_or_ge j 15 with q | q
    · exact q
    · rw [List.getElem?_eq_none (by exact q)] at hx; cases hx
  have ex : zstr.getD j [] = tx := by rw [List.getD_eq_getElem?_getD, hx]; rfl
  unfold wn
  constructor
  · intro h
    have q : ∃ j : Nat, j < 15 ∧ wdP b t a e (zstr.getD j []) := ⟨j, hj, by rw [ex]; exact h⟩
    rw [dif_pos q]
    have c := q.choose_spec
    have : q.choose = j := zstr_inj _ c.1 _ hj (by rw [ex]; exact wd_inj c.2 h)
    rw [this]
  · intro h
    by_cases q : ∃ j : Nat, j < 15 ∧ wdP b t a e (zstr.getD j [])
    · rw [dif_pos q] at h
      have c := q.choose_spec
      have : q.choose = j := by omega
      rw [this, ex] at c
      exact c.2
    · rw [dif_neg q] at h; omega
theorem wn_r {b : Nat → Int} {t a e : Int} : (-1 ≤ wn b t a e ∧ wn b t a e ≤ 14) ∧ (wn b t a e ≠ -1 → t = 2) := by
  unfold wn
  by_cases q : ∃ j : Nat, j < 15 ∧ wdP b t a e (zstr.getD j [])
  · rw [dif_pos q]
    have c := q.choose_spec
    exact ⟨by omega, fun _ => c.2.1⟩
  · rw [dif_neg q]; exact ⟨by omega, fun z => absurd rfl z⟩
theorem wd_congr {b b' : Nat → Int} {t a e : Int} {tx : List Int32} (h : ∀ k : Int, a ≤ k → k < e → b k.toNat = b' k.toNat) : wdP b t a e tx → wdP b' t a e tx := by
  rintro ⟨h1, h2, h3⟩
  exact ⟨h1, h2, fun k q => by rw [← h (a + k) (by omega) (by omega)]; exact h3 k q⟩
theorem wn_congr {b b' : Nat → Int} {t a e : Int} (h : ∀ k : Int, a ≤ k → k < e → b k.toNat = b' k.toNat) : wn b t a e = wn b' t a e := by
  have iff : ∀ j : Nat, wdP b t a e (zstr.getD j []) ↔ wdP b' t a e (zstr.getD j []) := fun j => ⟨wd_congr h, wd_congr (fun k p q => (h k p q).symm)⟩
  by_cases q : ∃ j : Nat, j < 15 ∧ wdP b t a e (zstr.getD j [])
  · obtain ⟨j, hj, w⟩ := q
    have gx : ∀ j, j < 15 → zstr[j]? = some (zstr.getD j []) := by decide
    have hx := gx j hj
    rw [(wn_iff hx).mp w, (wn_iff hx).mp ((iff j).mp w)]
  · unfold wn
    rw [dif_neg q, dif_neg (fun ⟨j, hj, w⟩ => q ⟨j, hj, (iff j).mpr w⟩)]
def TxM (iv : Nat → Nat → Int) : Prop := (0 ≤ iv 0 46 ∧ iv 0 46 ≤ iv 0 47 ∧ iv 0 47 ≤ iv 0 44 ∧ iv 0 44 ≤ 600) ∧ bOK (iv 29)
def TxC (iv : Nat → Nat → Int) (o : Nat) : Prop := (0 ≤ iv o 8 ∧ iv o 8 ≤ iv o 6 ∧ iv o 6 ≤ iv o 5 ∧ iv o 5 ≤ 600) ∧ bOK (iv 54) ∧ (0 ≤ iv o 7 ∧ iv o 7 ≤ 4)
noncomputable def wM (iv : Nat → Nat → Int) : Int := wn (iv 29) (iv 0 45) (iv 0 46) (iv 0 47)
noncomputable def wC (iv : Nat → Nat → Int) (o : Nat) : Int := wn (iv 54) (tkm (iv o 7)) (iv o 8) (iv o 6)
theorem M_isWord {G : ZG} {d : Nat} {iv : Nat → Nat → Int} {K : Option AV → AH → Prop} {w1 : Nat} {tx : List Int32} (hx : zstr[w1]? = some tx) (h : TxM iv) (k : K (some (vi (b01 (wM iv = (w1 : Int))))) (mkM iv)) : Z G mX12_isWord (d + 5) 0 0 0 [vr (some 0), vr (some (1000000 + w1)), vu] [] (mkM iv) K := by
  obtain ⟨hr, hb⟩ := h
  have iff := wn_iff (b := iv 29) (t := iv 0 45) (a := iv 0 46) (e := iv 0 47) hx
  have yes : wdP (iv 29) (iv 0 45) (iv 0 46) (iv 0 47) tx → K (some (vi 1)) (mkM iv) := fun q => by
    unfold b01 wM at k; rw [if_pos (iff.mp q)] at k; exact k
  have no : ¬ wdP (iv 29) (iv 0 45) (iv 0 46) (iv 0 47) tx → K (some (vi 0)) (mkM iv) := fun q => by
    unfold b01 wM at k; rw [if_neg (fun z => q (iff.mpr z))] at k; exact k
  apply sX12_isWord_0 hx
  refine ⟨fun n => no (fun z => n z.1), fun e => ⟨by omega, fun el => ?_, fun n => no (fun z => n z.2.1)⟩⟩
  have sg : ∀ x : Int, 0 ≤ x → x < (tx.length : Int) → (sgn (iv 29) (iv 0 44) (iv 0 46 + x) = (tx.getD x.toNat 0).toInt ↔ iv 29 (iv 0 46 + x).toNat = (tx.getD x.toNat 0).toInt) := by
    intro x a b
    have c := zstr_ch hx x.toNat (by omega)
    rw [sg_is hb hr.2.2.2 (by omega) _ (by omega)]
    exact ⟨fun z => z.2, fun z => ⟨by omega, z⟩⟩
  refine lp_up (P := fun x (_ : Unit) => Z G mX12_isWord (d + 5) 0 0 28 [vr (some 0), vr (some (1000000 + w1)), vi x] [] (mkM iv) K) (tx.length : Int) (fun x _ => 0 ≤ x ∧ ∀ j : Nat, (j : Int) < x → iv 29 (iv 0 46 + j).toNat = (tx.getD j 0).toInt) ?_ ?_ 0 () (by omega) ⟨by omega, fun j q => by omega⟩
  · rintro - ⟨-, q⟩
    apply sX12_isWord_28 hx
    exact ⟨fun _ => yes ⟨e, el, fun j z => q j (by omega)⟩, fun z => by omega⟩
  · rintro x - hx2 ⟨x0, q⟩ ih
    apply sX12_isWord_28 hx
    rw [sg x x0 hx2]
    refine ⟨fun z => by omega, fun _ => ⟨by omega, by omega, by omega, hb, by omega, fun c => ⟨by omega, ih () ⟨by omega, fun j z => ?_⟩⟩, fun c => no (fun z => c ?_)⟩⟩
    · by_cases g : (j : Int) = x
      · rw [g, show j = x.toNat by omega]; exact c
      · exact q j (by omega)
    · have := z.2.2 x.toNat (by omega)
      rw [show iv 0 46 + ((x.toNat : Nat) : Int) = iv 0 46 + x by omega] at this
      exact this
theorem C_isWord {G : ZG} {d : Nat} {iv : Nat → Nat → Int} {K : Option AV → AH → Prop} {rv : Nat → Nat → Option Nat} {o0 w1 : Nat} {tx : List Int32} (hR : RC rv) (ho : isSh o0) (hx : zstr[w1]? = some tx) (ht : rv o0 4 = some 54) (h : TxC iv o0) (k : K (some (vi (b01 (wC iv o0 = (w1 : Int))))) (mkC iv rv)) : Z G mX6_isWord (d + 5) 0 0 0 [vr (some o0), vr (some (1000000 + w1)), vu] [] (mkC iv rv) K := by
  obtain ⟨hr, hb, h7⟩ := h
  have iff := wn_iff (b := iv 54) (t := tkm (iv o0 7)) (a := iv o0 8) (e := iv o0 6) hx
  have t2 : tkm (iv o0 7) = 2 ↔ iv o0 7 = 1 := by unfold tkm; split <;> (try split) <;> (try split) <;> (try split) <;> omega
  have yes : wdP (iv 54) (tkm (iv o0 7)) (iv o0 8) (iv o0 6) tx → K (some (vi 1)) (mkC iv rv) := fun q => by
    unfold b01 wC at k; rw [if_pos (iff.mp q)] at k; exact k
  have no : ¬ wdP (iv 54) (tkm (iv o0 7)) (iv o0 8) (iv o0 6) tx → K (some (vi 0)) (mkC iv rv) := fun q => by
    unfold b01 wC at k; rw [if_neg (fun z => q (iff.mpr z))] at k; exact k
  apply sX6_isWord_0 hR ho hx ht
  refine ⟨fun n => no (fun z => n (t2.mp z.1)), fun e => ⟨by omega, fun el => ?_, fun n => no (fun z => n z.2.1)⟩⟩
  refine lp_up (P := fun x (_ : Unit) => Z G mX6_isWord (d + 5) 0 0 28 [vr (some o0), vr (some (1000000 + w1)), vi x] [] (mkC iv rv) K) (tx.length : Int) (fun x _ => 0 ≤ x ∧ ∀ j : Nat, (j : Int) < x → iv 54 (iv o0 8 + j).toNat = (tx.getD j 0).toInt) ?_ ?_ 0 () (by omega) ⟨by omega, fun j q => by omega⟩
  · rintro - ⟨-, q⟩
    apply sX6_isWord_28 hR ho hx ht
    exact ⟨fun _ => yes ⟨t2.mpr e, el, fun j z => q j (by omega)⟩, fun z => by omega⟩
  · rintro x - hx2 ⟨x0, q⟩ ih
    apply sX6_isWord_28 hR ho hx ht
    refine ⟨fun z => by omega, fun _ => ⟨by omega, by omega, by omega, fun c => ⟨by omega, ih () ⟨by omega, fun j z => ?_⟩⟩, fun c => no (fun z => c ?_)⟩⟩
    · by_cases g : (j : Int) = x
      · rw [g, show j = x.toNat by omega]; exact c
      · exact q j (by omega)
    · have := z.2.2 x.toNat (by omega)
      rw [show iv o0 8 + ((x.toNat : Nat) : Int) = iv o0 8 + x by omega] at this
      exact this
set_option maxRecDepth 20000 in
theorem sX6_stepKind_0 {G : ZG} {d : Nat} {iv : Nat → Nat → Int} {K : Option AV → AH → Prop} {rv : Nat → Nat → Option Nat} {o0 : Nat} (hR : RC rv) (h_o0 : isSh o0) (ht : rv o0 4 = some 54) (h : (TxC iv o0) ∧ ((¬ (wC iv o0 = 0) → ((TxC iv o0) ∧ ((¬ (wC iv o0 = 1) → ((TxC iv o0) ∧ ((¬ (wC iv o0 = 2) → ((TxC iv o0) ∧ ((¬ (wC iv o0 = 3) → ((TxC iv o0) ∧ ((¬ (wC iv o0 = 4) → ((TxC iv o0) ∧ ((¬ (wC iv o0 = 5) → ((TxC iv o0) ∧ ((¬ (wC iv o0 = 6) → (K (some (vi (-1))) (mkC iv rv))) ∧ (wC iv o0 = 6 → (K (some (vi 6)) (mkC iv rv)))))) ∧ (wC iv o0 = 5 → (K (some (vi 5)) (mkC iv rv)))))) ∧ (wC iv o0 = 4 → (K (some (vi 4)) (mkC iv rv)))))) ∧ (wC iv o0 = 3 → (K (some (vi 3)) (mkC iv rv)))))) ∧ (wC iv o0 = 2 → (K (some (vi 2)) (mkC iv rv)))))) ∧ (wC iv o0 = 1 → (K (some (vi 1)) (mkC iv rv)))))) ∧ (wC iv o0 = 0 → (K (some (vi 0)) (mkC iv rv))))) : Z G mX6_stepKind (d + 6) 0 0 0 [vr (some o0)] [] (mkC iv rv) K := (Z_aload_n (dX6_stepKind 0) rfl (Z_ldcS (dX6_stepKind 1) lk_X6_145 (Z_cVC (As := [vr (some (1000000 + 0))]) (S := []) (dX6_stepKind 2) lk_X6_125 (Sh_sh h_o0) (by decide) rfl rfl (Nat.le_of_ble_eq_true rfl) (Nat.le_of_ble_eq_true rfl) (C_isWord hR h_o0 rfl ht h.1 ((Z_if_eq (dX6_stepKind 3) rfl (fun c1 => (Z_aload_n (dX6_stepKind 6) rfl (Z_ldcS (dX6_stepKind 7) lk_X6_147 (Z_cVC (As := [vr (some (1000000 + 1))]) (S := []) (dX6_stepKind 8) lk_X6_125 (Sh_sh h_o0) (by decide) rfl rfl (Nat.le_of_ble_eq_true rfl) (Nat.le_of_ble_eq_true rfl) (C_isWord hR h_o0 rfl ht (h.2.1 (b01_0.mp c1)).1 ((Z_if_eq (dX6_stepKind 9) rfl (fun c3 => (Z_aload_n (dX6_stepKind 12) rfl (Z_ldcS (dX6_stepKind 13) lk_X6_149 (Z_cVC (As := [vr (some (1000000 + 2))]) (S := []) (dX6_stepKind 14) lk_X6_125 (Sh_sh h_o0) (by decide) rfl rfl (Nat.le_of_ble_eq_true rfl) (Nat.le_of_ble_eq_true rfl) (C_isWord hR h_o0 rfl ht ((h.2.1 (b01_0.mp c1)).2.1 (b01_0.mp c3)).1 ((Z_if_eq (dX6_stepKind 15) rfl (fun c5 => (Z_aload_n (dX6_stepKind 18) rfl (Z_ldcS (dX6_stepKind 19) lk_X6_151 (Z_cVC (As := [vr (some (1000000 + 3))]) (S := []) (dX6_stepKind 20) lk_X6_125 (Sh_sh h_o0) (by decide) rfl rfl (Nat.le_of_ble_eq_true rfl) (Nat.le_of_ble_eq_true rfl) (C_isWord hR h_o0 rfl ht (((h.2.1 (b01_0.mp c1)).2.1 (b01_0.mp c3)).2.1 (b01_0.mp c5)).1 ((Z_if_eq (dX6_stepKind 21) rfl (fun c7 => (Z_aload_n (dX6_stepKind 24) rfl (Z_ldcS (dX6_stepKind 25) lk_X6_153 (Z_cVC (As := [vr (some (1000000 + 4))]) (S := []) (dX6_stepKind 26) lk_X6_125 (Sh_sh h_o0) (by decide) rfl rfl (Nat.le_of_ble_eq_true rfl) (Nat.le_of_ble_eq_true rfl) (C_isWord hR h_o0 rfl ht ((((h.2.1 (b01_0.mp c1)).2.1 (b01_0.mp c3)).2.1 (b01_0.mp c5)).2.1 (b01_0.mp c7)).1 ((Z_if_eq (dX6_stepKind 27) rfl (fun c9 => (Z_aload_n (dX6_stepKind 30) rfl (Z_ldcS (dX6_stepKind 31) lk_X6_155 (Z_cVC (As := [vr (some (1000000 + 5))]) (S := []) (dX6_stepKind 32) lk_X6_125 (Sh_sh h_o0) (by decide) rfl rfl (Nat.le_of_ble_eq_true rfl) (Nat.le_of_ble_eq_true rfl) (C_isWord hR h_o0 rfl ht (((((h.2.1 (b01_0.mp c1)).2.1 (b01_0.mp c3)).2.1 (b01_0.mp c5)).2.1 (b01_0.mp c7)).2.1 (b01_0.mp c9)).1 ((Z_if_eq (dX6_stepKind 33) rfl (fun c11 => (Z_aload_n (dX6_stepKind 36) rfl (Z_ldcS (dX6_stepKind 37) lk_X6_157 (Z_cVC (As := [vr (some (1000000 + 6))]) (S := []) (dX6_stepKind 38) lk_X6_125 (Sh_sh h_o0) (by decide) rfl rfl (Nat.le_of_ble_eq_true rfl) (Nat.le_of_ble_eq_true rfl) (C_isWord hR h_o0 rfl ht ((((((h.2.1 (b01_0.mp c1)).2.1 (b01_0.mp c3)).2.1 (b01_0.mp c5)).2.1 (b01_0.mp c7)).2.1 (b01_0.mp c9)).2.1 (b01_0.mp c11)).1 ((Z_if_eq (dX6_stepKind 39) rfl (fun c13 => (Z_iconst (dX6_stepKind 42) ⟨by decide, by decide⟩ (Z_ireturn (dX6_stepKind 43) rfl (((((((h.2.1 (b01_0.mp c1)).2.1 (b01_0.mp c3)).2.1 (b01_0.mp c5)).2.1 (b01_0.mp c7)).2.1 (b01_0.mp c9)).2.1 (b01_0.mp c11)).2.1 (b01_0.mp c13))))) (fun c14 => (Z_bipush (dX6_stepKind 40) ⟨by decide, by decide⟩ (Z_goto (dX6_stepKind 41) rfl (Z_ireturn (dX6_stepKind 43) rfl (((((((h.2.1 (b01_0.mp c1)).2.1 (b01_0.mp c3)).2.1 (b01_0.mp c5)).2.1 (b01_0.mp c7)).2.1 (b01_0.mp c9)).2.1 (b01_0.mp c11)).2.2 (b01_n.mp c14))))))))))))) (fun c12 => (Z_iconst (dX6_stepKind 34) ⟨by decide, by decide⟩ (Z_ireturn (dX6_stepKind 35) rfl ((((((h.2.1 (b01_0.mp c1)).2.1 (b01_0.mp c3)).2.1 (b01_0.mp c5)).2.1 (b01_0.mp c7)).2.1 (b01_0.mp c9)).2.2 (b01_n.mp c12)))))))))))) (fun c10 => (Z_iconst (dX6_stepKind 28) ⟨by decide, by decide⟩ (Z_ireturn (dX6_stepKind 29) rfl (((((h.2.1 (b01_0.mp c1)).2.1 (b01_0.mp c3)).2.1 (b01_0.mp c5)).2.1 (b01_0.mp c7)).2.2 (b01_n.mp c10)))))))))))) (fun c8 => (Z_iconst (dX6_stepKind 22) ⟨by decide, by decide⟩ (Z_ireturn (dX6_stepKind 23) rfl ((((h.2.1 (b01_0.mp c1)).2.1 (b01_0.mp c3)).2.1 (b01_0.mp c5)).2.2 (b01_n.mp c8)))))))))))) (fun c6 => (Z_iconst (dX6_stepKind 16) ⟨by decide, by decide⟩ (Z_ireturn (dX6_stepKind 17) rfl (((h.2.1 (b01_0.mp c1)).2.1 (b01_0.mp c3)).2.2 (b01_n.mp c6)))))))))))) (fun c4 => (Z_iconst (dX6_stepKind 10) ⟨by decide, by decide⟩ (Z_ireturn (dX6_stepKind 11) rfl ((h.2.1 (b01_0.mp c1)).2.2 (b01_n.mp c4)))))))))))) (fun c2 => (Z_iconst (dX6_stepKind 4) ⟨by decide, by decide⟩ (Z_ireturn (dX6_stepKind 5) rfl (h.2.2 (b01_n.mp c2)))))))))))
set_option maxRecDepth 20000 in
theorem sX12_kindHere_0 {G : ZG} {d : Nat} {iv : Nat → Nat → Int} {K : Option AV → AH → Prop} (h : (TxM iv) ∧ ((¬ (wM iv = 0) → ((TxM iv) ∧ ((¬ (wM iv = 1) → ((TxM iv) ∧ ((¬ (wM iv = 2) → ((TxM iv) ∧ ((¬ (wM iv = 3) → ((TxM iv) ∧ ((¬ (wM iv = 4) → ((TxM iv) ∧ ((¬ (wM iv = 5) → ((TxM iv) ∧ ((¬ (wM iv = 6) → (K (some (vi (-1))) (mkM iv))) ∧ (wM iv = 6 → (K (some (vi 6)) (mkM iv)))))) ∧ (wM iv = 5 → (K (some (vi 5)) (mkM iv)))))) ∧ (wM iv = 4 → (K (some (vi 4)) (mkM iv)))))) ∧ (wM iv = 3 → (K (some (vi 3)) (mkM iv)))))) ∧ (wM iv = 2 → (K (some (vi 2)) (mkM iv)))))) ∧ (wM iv = 1 → (K (some (vi 1)) (mkM iv)))))) ∧ (wM iv = 0 → (K (some (vi 0)) (mkM iv))))) : Z G mX12_kindHere (d + 6) 0 0 0 [vr (some 0)] [] (mkM iv) K := (Z_aload_n (dX12_kindHere 0) rfl (Z_ldcSw (dX12_kindHere 1) lk_X12_410 (Z_cVM (As := [vr (some (1000000 + 0))]) (S := []) (dX12_kindHere 2) lk_X12_412 sM0 (by decide) rfl rfl (Nat.le_of_ble_eq_true rfl) (Nat.le_of_ble_eq_true rfl) (M_isWord rfl h.1 ((Z_if_eq (dX12_kindHere 3) rfl (fun c1 => (Z_aload_n (dX12_kindHere 6) rfl (Z_ldcSw (dX12_kindHere 7) lk_X12_416 (Z_cVM (As := [vr (some (1000000 + 1))]) (S := []) (dX12_kindHere 8) lk_X12_412 sM0 (by decide) rfl rfl (Nat.le_of_ble_eq_true rfl) (Nat.le_of_ble_eq_true rfl) (M_isWord rfl (h.2.1 (b01_0.mp c1)).1 ((Z_if_eq (dX12_kindHere 9) rfl (fun c3 => (Z_aload_n (dX12_kindHere 12) rfl (Z_ldcSw (dX12_kindHere 13) lk_X12_418 (Z_cVM (As := [vr (some (1000000 + 2))]) (S := []) (dX12_kindHere 14) lk_X12_412 sM0 (by decide) rfl rfl (Nat.le_of_ble_eq_true rfl) (Nat.le_of_ble_eq_true rfl) (M_isWord rfl ((h.2.1 (b01_0.mp c1)).2.1 (b01_0.mp c3)).1 ((Z_if_eq (dX12_kindHere 15) rfl (fun c5 => (Z_aload_n (dX12_kindHere 18) rfl (Z_ldcSw (dX12_kindHere 19) lk_X12_420 (Z_cVM (As := [vr (some (1000000 + 3))]) (S := []) (dX12_kindHere 20) lk_X12_412 sM0 (by decide) rfl rfl (Nat.le_of_ble_eq_true rfl) (Nat.le_of_ble_eq_true rfl) (M_isWord rfl (((h.2.1 (b01_0.mp c1)).2.1 (b01_0.mp c3)).2.1 (b01_0.mp c5)).1 ((Z_if_eq (dX12_kindHere 21) rfl (fun c7 => (Z_aload_n (dX12_kindHere 24) rfl (Z_ldcSw (dX12_kindHere 25) lk_X12_422 (Z_cVM (As := [vr (some (1000000 + 4))]) (S := []) (dX12_kindHere 26) lk_X12_412 sM0 (by decide) rfl rfl (Nat.le_of_ble_eq_true rfl) (Nat.le_of_ble_eq_true rfl) (M_isWord rfl ((((h.2.1 (b01_0.mp c1)).2.1 (b01_0.mp c3)).2.1 (b01_0.mp c5)).2.1 (b01_0.mp c7)).1 ((Z_if_eq (dX12_kindHere 27) rfl (fun c9 => (Z_aload_n (dX12_kindHere 30) rfl (Z_ldcSw (dX12_kindHere 31) lk_X12_424 (Z_cVM (As := [vr (some (1000000 + 5))]) (S := []) (dX12_kindHere 32) lk_X12_412 sM0 (by decide) rfl rfl (Nat.le_of_ble_eq_true rfl) (Nat.le_of_ble_eq_true rfl) (M_isWord rfl (((((h.2.1 (b01_0.mp c1)).2.1 (b01_0.mp c3)).2.1 (b01_0.mp c5)).2.1 (b01_0.mp c7)).2.1 (b01_0.mp c9)).1 ((Z_if_eq (dX12_kindHere 33) rfl (fun c11 => (Z_aload_n (dX12_kindHere 36) rfl (Z_ldcSw (dX12_kindHere 37) lk_X12_426 (Z_cVM (As := [vr (some (1000000 + 6))]) (S := []) (dX12_kindHere 38) lk_X12_412 sM0 (by decide) rfl rfl (Nat.le_of_ble_eq_true rfl) (Nat.le_of_ble_eq_true rfl) (M_isWord rfl ((((((h.2.1 (b01_0.mp c1)).2.1 (b01_0.mp c3)).2.1 (b01_0.mp c5)).2.1 (b01_0.mp c7)).2.1 (b01_0.mp c9)).2.1 (b01_0.mp c11)).1 ((Z_if_eq (dX12_kindHere 39) rfl (fun c13 => (Z_iconst (dX12_kindHere 42) ⟨by decide, by decide⟩ (Z_ireturn (dX12_kindHere 43) rfl (((((((h.2.1 (b01_0.mp c1)).2.1 (b01_0.mp c3)).2.1 (b01_0.mp c5)).2.1 (b01_0.mp c7)).2.1 (b01_0.mp c9)).2.1 (b01_0.mp c11)).2.1 (b01_0.mp c13))))) (fun c14 => (Z_bipush (dX12_kindHere 40) ⟨by decide, by decide⟩ (Z_goto (dX12_kindHere 41) rfl (Z_ireturn (dX12_kindHere 43) rfl (((((((h.2.1 (b01_0.mp c1)).2.1 (b01_0.mp c3)).2.1 (b01_0.mp c5)).2.1 (b01_0.mp c7)).2.1 (b01_0.mp c9)).2.1 (b01_0.mp c11)).2.2 (b01_n.mp c14))))))))))))) (fun c12 => (Z_iconst (dX12_kindHere 34) ⟨by decide, by decide⟩ (Z_goto (dX12_kindHere 35) rfl (Z_ireturn (dX12_kindHere 43) rfl ((((((h.2.1 (b01_0.mp c1)).2.1 (b01_0.mp c3)).2.1 (b01_0.mp c5)).2.1 (b01_0.mp c7)).2.1 (b01_0.mp c9)).2.2 (b01_n.mp c12))))))))))))) (fun c10 => (Z_iconst (dX12_kindHere 28) ⟨by decide, by decide⟩ (Z_goto (dX12_kindHere 29) rfl (Z_ireturn (dX12_kindHere 43) rfl (((((h.2.1 (b01_0.mp c1)).2.1 (b01_0.mp c3)).2.1 (b01_0.mp c5)).2.1 (b01_0.mp c7)).2.2 (b01_n.mp c10))))))))))))) (fun c8 => (Z_iconst (dX12_kindHere 22) ⟨by decide, by decide⟩ (Z_goto (dX12_kindHere 23) rfl (Z_ireturn (dX12_kindHere 43) rfl ((((h.2.1 (b01_0.mp c1)).2.1 (b01_0.mp c3)).2.1 (b01_0.mp c5)).2.2 (b01_n.mp c8))))))))))))) (fun c6 => (Z_iconst (dX12_kindHere 16) ⟨by decide, by decide⟩ (Z_goto (dX12_kindHere 17) rfl (Z_ireturn (dX12_kindHere 43) rfl (((h.2.1 (b01_0.mp c1)).2.1 (b01_0.mp c3)).2.2 (b01_n.mp c6))))))))))))) (fun c4 => (Z_iconst (dX12_kindHere 10) ⟨by decide, by decide⟩ (Z_goto (dX12_kindHere 11) rfl (Z_ireturn (dX12_kindHere 43) rfl ((h.2.1 (b01_0.mp c1)).2.2 (b01_n.mp c4))))))))))))) (fun c2 => (Z_iconst (dX12_kindHere 4) ⟨by decide, by decide⟩ (Z_goto (dX12_kindHere 5) rfl (Z_ireturn (dX12_kindHere 43) rfl (h.2.2 (b01_n.mp c2))))))))))))
def knd (w : Int) : Int := if w ≤ 6 then w else -1
theorem M_kindHere {G : ZG} {d : Nat} {iv : Nat → Nat → Int} {K : Option AV → AH → Prop} (h : TxM iv) (k : K (some (vi (knd (wM iv)))) (mkM iv)) : Z G mX12_kindHere (d + 6) 0 0 0 [vr (some 0)] [] (mkM iv) K := by
  have r := (wn_r (b := iv 29) (t := iv 0 45) (a := iv 0 46) (e := iv 0 47)).1
  have r : -1 ≤ wM iv ∧ wM iv ≤ 14 := r
  apply sX12_kindHere_0
  unfold knd at k
  refine ⟨h, fun n0 => ⟨h, fun n1 => ⟨h, fun n2 => ⟨h, fun n3 => ⟨h, fun n4 => ⟨h, fun n5 => ⟨h, fun n6 => ?_, fun e => ?_⟩, fun e => ?_⟩, fun e => ?_⟩, fun e => ?_⟩, fun e => ?_⟩, fun e => ?_⟩, fun e => ?_⟩
  · by_cases c : wM iv ≤ 6
    · rw [if_pos c, show wM iv = -1 by omega] at k; exact k
    · rw [if_neg c] at k; exact k
  all_goals (rw [e, if_pos (by decide)] at k; exact k)
theorem C_stepKind {G : ZG} {d : Nat} {iv : Nat → Nat → Int} {K : Option AV → AH → Prop} {rv : Nat → Nat → Option Nat} {o0 : Nat} (hR : RC rv) (ho : isSh o0) (ht : rv o0 4 = some 54) (h : TxC iv o0) (k : K (some (vi (knd (wC iv o0)))) (mkC iv rv)) : Z G mX6_stepKind (d + 6) 0 0 0 [vr (some o0)] [] (mkC iv rv) K := by
  have r := (wn_r (b := iv 54) (t := tkm (iv o0 7)) (a := iv o0 8) (e := iv o0 6)).1
  have r : -1 ≤ wC iv o0 ∧ wC iv o0 ≤ 14 := r
  apply sX6_stepKind_0 hR ho ht
  unfold knd at k
  refine ⟨h, fun n0 => ⟨h, fun n1 => ⟨h, fun n2 => ⟨h, fun n3 => ⟨h, fun n4 => ⟨h, fun n5 => ⟨h, fun n6 => ?_, fun e => ?_⟩, fun e => ?_⟩, fun e => ?_⟩, fun e => ?_⟩, fun e => ?_⟩, fun e => ?_⟩, fun e => ?_⟩
  · by_cases c : wC iv o0 ≤ 6
    · rw [if_pos c, show wC iv o0 = -1 by omega] at k; exact k
    · rw [if_neg c] at k; exact k
  all_goals (rw [e, if_pos (by decide)] at k; exact k)

