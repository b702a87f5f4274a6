/-! ===== texts ===== -/
theorem zstr_len {i : Nat} {tx : List Int32} (h : zstr[i]? = some tx) : tx.length ≤ 2147483647 := by
  have hi : i < 15 := by
    rcases Nat.lt_or_ge i 15 with q | q
    · exact q
    · rw [List.getElem?_eq_none (by exact q)] at h; cases h
  have c : ∀ j, j < 15 → (zstr.getD j []).length ≤ 2147483647 := by decide
  have e : zstr.getD i [] = tx := by rw [List.getD_eq_getElem?_getD, h]; rfl
  rw [← e]; exact c i hi
set_option maxRecDepth 20000 in
theorem sJ0_coder_7d493_0 {G : ZG} {d : Nat} {A : AH} {K : Option AV → AH → Prop} {w0 : Nat} {tx : List Int32} (hx_w0 : zstr[w0]? = some tx) (h : (-128 ≤ (0 : Int) ∧ (0 : Int) ≤ 127) ∧ K (some (vi 0)) A) : Z G mJ0_coder_7d493 d 0 0 0 [vr (some (1000000 + w0))] [] A K := (Z_xcmp (dJ0_coder_7d493 0) lk_J0_38 (Z_if_eq (dJ0_coder_7d493 1) rfl (fun c1 => absurd c1 (by decide)) (fun _ => (Z_aload_n (dJ0_coder_7d493 2) rfl (Z_xcod (dJ0_coder_7d493 3) hx_w0 lk_J0_15 (Z_goto (dJ0_coder_7d493 4) rfl (Z_breturn (dJ0_coder_7d493 6) rfl h.1 h.2)))))))
set_option maxRecDepth 20000 in
theorem sJ0_isLatin1_aae02_0 {G : ZG} {d : Nat} {A : AH} {K : Option AV → AH → Prop} {w0 : Nat} {tx : List Int32} (hx_w0 : zstr[w0]? = some tx) (h : K (some (vi 1)) A) : Z G mJ0_isLatin1_aae02 d 0 0 0 [vr (some (1000000 + w0))] [] A K := (Z_xcmp (dJ0_isLatin1_aae02 0) lk_J0_38 (Z_if_eq (dJ0_isLatin1_aae02 1) rfl (fun c2 => absurd c2 (by decide)) (fun _ => (Z_aload_n (dJ0_isLatin1_aae02 2) rfl (Z_xcod (dJ0_isLatin1_aae02 3) hx_w0 lk_J0_15 (Z_if_ne (dJ0_isLatin1_aae02 4) rfl (fun c1 => absurd c1 (by decide)) (fun _ => (Z_iconst (dJ0_isLatin1_aae02 5) ⟨by decide, by decide⟩ (Z_goto (dJ0_isLatin1_aae02 6) rfl (Z_zreturn (dJ0_isLatin1_aae02 8) rfl (Or.inr rfl) h))))))))))
theorem J_coder {G : ZG} {d : Nat} {A : AH} {K : Option AV → AH → Prop} {w0 : Nat} {tx : List Int32} (hx : zstr[w0]? = some tx) (k : K (some (vi 0)) A) : Z G mJ0_coder_7d493 d 0 0 0 [vr (some (1000000 + w0))] [] A K := sJ0_coder_7d493_0 hx ⟨by decide, k⟩
theorem J_isLatin1 {G : ZG} {d : Nat} {A : AH} {K : Option AV → AH → Prop} {w0 : Nat} {tx : List Int32} (hx : zstr[w0]? = some tx) (k : K (some (vi 1)) A) : Z G mJ0_isLatin1_aae02 d 0 0 0 [vr (some (1000000 + w0))] [] A K := sJ0_isLatin1_aae02_0 hx k
set_option maxRecDepth 20000 in
theorem sJ0_length_8abf5_0 {G : ZG} {d : Nat} {A : AH} {K : Option AV → AH → Prop} {w0 : Nat} {tx : List Int32} (hx_w0 : zstr[w0]? = some tx) (h : K (some (vi (zshr ((tx).length : Int) 0))) A) : Z G mJ0_length_8abf5 (d + 1) 0 0 0 [vr (some (1000000 + w0))] [] A K := (Z_aload_n (dJ0_length_8abf5 0) rfl (Z_xval (dJ0_length_8abf5 1) hx_w0 lk_J0_9 (Z_xlen (dJ0_length_8abf5 2) hx_w0 (zstr_len hx_w0) (Z_aload_n (dJ0_length_8abf5 3) rfl (Z_cX (As := []) (S := [vi ((tx).length : Int)]) (dJ0_length_8abf5 4) lk_J0_335 hx_w0 rfl rfl (Nat.le_of_ble_eq_true rfl) (Nat.le_of_ble_eq_true rfl) (J_coder hx_w0 ((Z_ishr (dJ0_length_8abf5 5) (Z_ireturn (dJ0_length_8abf5 6) rfl h)))))))))
theorem zshr0 {n : Nat} (h : n ≤ 2147483647) : zshr (n : Int) 0 = (n : Int) := by
  have := zshr_n (a := n) (k := 0) (by omega) (by decide)
  rw [Nat.pow_zero, Nat.div_one] at this
  exact this
theorem J_length {G : ZG} {d : Nat} {A : AH} {K : Option AV → AH → Prop} {w0 : Nat} {tx : List Int32} (hx : zstr[w0]? = some tx) (k : K (some (vi (tx.length : Int))) A) : Z G mJ0_length_8abf5 (d + 1) 0 0 0 [vr (some (1000000 + w0))] [] A K := by
  apply sJ0_length_8abf5_0 hx
  rw [zshr0 (zstr_len hx)]; exact k
set_option maxRecDepth 20000 in
theorem sJ1_charAt_3b067_0 {G : ZG} {d : Nat} {A : AH} {K : Option AV → AH → Prop} {w : Nat} {x1 : Int} {tx : List Int32} (hx_w : zstr[w]? = some tx) (h : Z G mJ0_checkIndex_df160 (d + 1) 0 0 0 [vi x1, vi ((tx).length : Int)] [] A (fun r A1 => Z G mJ1_charAt_3b067 (d + 2) 0 0 6 [vr (some (2000000 + w)), vi x1] (r.toList ++ []) A1 K)) : Z G mJ1_charAt_3b067 (d + 2) 0 0 0 [vr (some (2000000 + w)), vi x1] [] A K := (Z_iload_n (dJ1_charAt_3b067 0) rfl (Z_aload_n (dJ1_charAt_3b067 1) rfl (Z_xlen (dJ1_charAt_3b067 2) hx_w (zstr_len hx_w) (Z_cS (As := [vi x1, vi ((tx).length : Int)]) (S := []) (dJ1_charAt_3b067 3) lk_J1_9 rfl (Nat.le_of_ble_eq_true rfl) (Nat.le_of_ble_eq_true rfl) h))))
set_option maxRecDepth 20000 in
theorem sJ3_checkIndex_8e157_0 {G : ZG} {d : Nat} {A : AH} {K : Option AV → AH → Prop} {r : Option Nat} {x0 x1 : Int} (h : (x0 < 0 → (False)) ∧ (0 ≤ x0 → ((x0 < x1 → (K (some (vi x0)) A)) ∧ (x1 ≤ x0 → (False))))) : Z G mJ3_checkIndex_8e157 d 0 0 0 [vi x0, vi x1, vr r] [] A K := (Z_iload_n (dJ3_checkIndex_8e157 0) rfl (Z_if_lt (dJ3_checkIndex_8e157 1) rfl (fun c1 => (False.elim (h.1 c1))) (fun c2 => (Z_iload_n (dJ3_checkIndex_8e157 2) rfl (Z_iload_n (dJ3_checkIndex_8e157 3) rfl (Z_icmp_lt (dJ3_checkIndex_8e157 4) rfl (fun c3 => (Z_iload_n (dJ3_checkIndex_8e157 10) rfl (Z_ireturn (dJ3_checkIndex_8e157 11) rfl ((h.2 c2).1 c3)))) (fun c4 => (False.elim ((h.2 c2).2 c4)))))))))
theorem J_chk3 {G : ZG} {d : Nat} {A : AH} {K : Option AV → AH → Prop} {r : Option Nat} {x0 x1 : Int} (h : 0 ≤ x0 ∧ x0 < x1) (k : K (some (vi x0)) A) : Z G mJ3_checkIndex_8e157 d 0 0 0 [vi x0, vi x1, vr r] [] A K := by
  apply sJ3_checkIndex_8e157_0
  exact ⟨fun z => by omega, fun _ => ⟨fun _ => k, fun z => by omega⟩⟩
set_option maxRecDepth 20000 in
theorem sJ0_checkIndex_df160_0 {G : ZG} {d : Nat} {A : AH} {K : Option AV → AH → Prop} {x0 x1 : Int} (h : (0 ≤ x0 ∧ x0 < x1) ∧ (K none A)) : Z G mJ0_checkIndex_df160 (d + 1) 0 0 0 [vi x0, vi x1] [] A K := (Z_iload_n (dJ0_checkIndex_df160 0) rfl (Z_iload_n (dJ0_checkIndex_df160 1) rfl (Z_xfmt (dJ0_checkIndex_df160 2) lk_J0_1053 (fun r9 => (Z_cS (As := [vi x0, vi x1, vr r9]) (S := []) (dJ0_checkIndex_df160 3) lk_J0_1059 rfl (Nat.le_of_ble_eq_true rfl) (Nat.le_of_ble_eq_true rfl) (J_chk3  h.1 ((Z_pop (dJ0_checkIndex_df160 4) rfl (Z_return (dJ0_checkIndex_df160 5) rfl h.2)))))))))
theorem J_chk0 {G : ZG} {d : Nat} {A : AH} {K : Option AV → AH → Prop} {x0 x1 : Int} (h : 0 ≤ x0 ∧ x0 < x1) (k : K none A) : Z G mJ0_checkIndex_df160 (d + 1) 0 0 0 [vi x0, vi x1] [] A K := sJ0_checkIndex_df160_0 ⟨h, k⟩
set_option maxRecDepth 20000 in
theorem sJ1_charAt_c {G : ZG} {d : Nat} {A : AH} {K : Option AV → AH → Prop} {w : Nat} {x1 : Int} {tx : List Int32} (hx_w : zstr[w]? = some tx) (h : (0 ≤ x1 ∧ x1 < ((tx).length : Int)) ∧ ((0 ≤ x1 ∧ x1 < ((tx).length : Int)) ∧ ((0 ≤ (zi2c (zand ((tx).getD (x1).toNat 0).toInt 255)) ∧ (zi2c (zand ((tx).getD (x1).toNat 0).toInt 255)) ≤ 65535) ∧ K (some (vi (zi2c (zand ((tx).getD (x1).toNat 0).toInt 255)))) A))) : Z G mJ1_charAt_3b067 (d + 2) 0 0 0 [vr (some (2000000 + w)), vi x1] [] A K := (Z_iload_n (dJ1_charAt_3b067 0) rfl (Z_aload_n (dJ1_charAt_3b067 1) rfl (Z_xlen (dJ1_charAt_3b067 2) hx_w (zstr_len hx_w) (Z_cS (As := [vi x1, vi ((tx).length : Int)]) (S := []) (dJ1_charAt_3b067 3) lk_J1_9 rfl (Nat.le_of_ble_eq_true rfl) (Nat.le_of_ble_eq_true rfl) (J_chk0  h.1 ((Z_aload_n (dJ1_charAt_3b067 4) rfl (Z_iload_n (dJ1_charAt_3b067 5) rfl (Z_xbald (dJ1_charAt_3b067 6) hx_w h.2.1 (Z_sipush (dJ1_charAt_3b067 7) ⟨by decide, by decide⟩ (Z_iand (dJ1_charAt_3b067 8) (Z_i2c (dJ1_charAt_3b067 9) (Z_creturn (dJ1_charAt_3b067 10) rfl h.2.2.1 h.2.2.2)))))))))))))
theorem zstr_ch {i : Nat} {tx : List Int32} (h : zstr[i]? = some tx) : ∀ k : Nat, k < tx.length → 97 ≤ (tx.getD k 0).toInt ∧ (tx.getD k 0).toInt ≤ 122 := by
  have hi : i < 15 := by
    rcases Nat.lt_or_ge i 15 with q | q
    · exact q
    · rw [List.getElem?_eq_none (by exact q)] at h; cases h
  have c : ∀ j, j < 15 → ∀ k, k < (zstr.getD j []).length → 97 ≤ ((zstr.getD j []).getD k 0).toInt ∧ ((zstr.getD j []).getD k 0).toInt ≤ 122 := by decide
  have e : zstr.getD i [] = tx := by rw [List.getD_eq_getElem?_getD, h]; rfl
  rw [← e]; exact c i hi
theorem zch : ∀ c : Nat, c < 128 → zi2c (zand ((c : Nat) : Int) 255) = ((c : Nat) : Int) := by decide +kernel
theorem zch_i {c : Int} (h : 0 ≤ c ∧ c ≤ 127) : zi2c (zand c 255) = c := by
  have := zch c.toNat (by omega)
  rw [show ((c.toNat : Nat) : Int) = c by omega] at this
  exact this
theorem J_chr1 {G : ZG} {d : Nat} {A : AH} {K : Option AV → AH → Prop} {w : Nat} {x1 : Int} {tx : List Int32} (hx : zstr[w]? = some tx) (h : 0 ≤ x1 ∧ x1 < (tx.length : Int)) (k : K (some (vi (tx.getD x1.toNat 0).toInt)) A) : Z G mJ1_charAt_3b067 (d + 2) 0 0 0 [vr (some (2000000 + w)), vi x1] [] A K := by
  have c := zstr_ch hx x1.toNat (by omega)
  apply sJ1_charAt_c hx
  rw [zch_i (by omega)]
  exact ⟨h, h, by omega, k⟩
set_option maxRecDepth 20000 in
theorem sJ0_charAt_5068e_0 {G : ZG} {d : Nat} {A : AH} {K : Option AV → AH → Prop} {w0 : Nat} {x1 : Int} {tx : List Int32} (hx_w0 : zstr[w0]? = some tx) (h : (0 ≤ x1 ∧ x1 < ((tx).length : Int)) ∧ ((0 ≤ ((tx).getD (x1).toNat 0).toInt ∧ ((tx).getD (x1).toNat 0).toInt ≤ 65535) ∧ K (some (vi ((tx).getD (x1).toNat 0).toInt)) A)) : Z G mJ0_charAt_5068e (d + 4) 0 0 0 [vr (some (1000000 + w0)), vi x1] [] A K := (Z_aload_n (dJ0_charAt_5068e 0) rfl (Z_cX (As := []) (S := []) (dJ0_charAt_5068e 1) lk_J0_492 hx_w0 rfl rfl (Nat.le_of_ble_eq_true rfl) (Nat.le_of_ble_eq_true rfl) (J_isLatin1 hx_w0 ((Z_if_eq (dJ0_charAt_5068e 2) rfl (fun c1 => absurd c1 (by decide)) (fun _ => (Z_aload_n (dJ0_charAt_5068e 3) rfl (Z_xval (dJ0_charAt_5068e 4) hx_w0 lk_J0_9 (Z_iload_n (dJ0_charAt_5068e 5) rfl (Z_cS (As := [vr (some (2000000 + w0)), vi x1]) (S := []) (dJ0_charAt_5068e 6) lk_J0_495 rfl (Nat.le_of_ble_eq_true rfl) (Nat.le_of_ble_eq_true rfl) (J_chr1 hx_w0 h.1 ((Z_creturn (dJ0_charAt_5068e 7) rfl h.2.1 h.2.2)))))))))))))

