/-! ===== the public methods, both worlds: trays and songs ===== -/
/-- the answer, where it is an int -/
def tyI (r : Option AV) : Option (Option AV) := match r with
  | some (.inl x) => some (some (vi x))
  | _ => none
def tyL (r : Option AV) : Option (Option AV) := match r with
  | some (.inr (.inl x)) => some (some (vl x))
  | _ => none
def QM (r : Option AV) (c : Nat → Nat → Int) (rv : Nat → Nat → Option Nat) (B : Int) : Option AV → AH → Prop := fun r' A' => some r' = tyI r ∧ ∃ m', A' = mkM m' ∧ RL B c rv m'
def QML (r : Option AV) (c : Nat → Nat → Int) (rv : Nat → Nat → Option Nat) (B : Int) : Option AV → AH → Prop := fun r' A' => some r' = tyL r ∧ ∃ m', A' = mkM m' ∧ RL B c rv m'
def QCL (G : ZG) (M : ZM) (L : List AV) (m : Nat → Nat → Int) (B : Int) : Option AV → AH → Prop := fun r A => ∃ c rv, A = mkC c rv ∧ Z G M 40 0 0 0 L [] (mkM m) (QML r c rv B)
def QC (G : ZG) (M : ZM) (L : List AV) (m : Nat → Nat → Int) (B : Int) : Option AV → AH → Prop := fun r A => ∃ c rv, A = mkC c rv ∧ Z G M 40 0 0 0 L [] (mkM m) (QM r c rv B)
theorem QML_u {B x y : Int} {c m : Nat → Nat → Int} {rv : Nat → Nat → Option Nat} (h : RL B c rv m) : QML (some (vl y)) (iu c 0 17 x) rv (B + 1000) (some (vl y)) (mkM (iu m 0 0 x)) := ⟨rfl, _, rfl, RL_B (RL_u h x) (by omega)⟩
theorem QM_u {B x y : Int} {c m : Nat → Nat → Int} {rv : Nat → Nat → Option Nat} (h : RL B c rv m) : QM (some (vi y)) (iu c 0 17 x) rv (B + 1000) (some (vi y)) (mkM (iu m 0 0 x)) := ⟨rfl, _, rfl, RL_B (RL_u h x) (by omega)⟩
theorem QM_i {B x y : Int} {c m : Nat → Nat → Int} {rv : Nat → Nat → Option Nat} (e : y = x) (h : RL B c rv m) : QM (some (vi x)) c rv B (some (vi y)) (mkM m) := ⟨by rw [e]; rfl, _, rfl, h⟩
set_option maxRecDepth 20000 in
theorem sX11_status_0 {G : ZG} {d : Nat} {iv : Nat → Nat → Int} {K : Option AV → AH → Prop} {rv : Nat → Nat → Option Nat} (hR : RC rv) (h : K (some (vi (iv 0 17))) (mkC iv rv)) : Z G mX11_status d 0 0 0 [vr (some 0)] [] (mkC iv rv) K := (Z_aload_n (dX11_status 0) rfl (Z_gIC (x := (iv 0 17)) (dX11_status 1) lk_X11_102 sC0 (Or.inl rfl) rfl (Z_ireturn (dX11_status 2) rfl h)))
set_option maxRecDepth 20000 in
theorem sX12_status_0 {G : ZG} {d : Nat} {iv : Nat → Nat → Int} {K : Option AV → AH → Prop} (h : K (some (vi (iv 0 0))) (mkM iv)) : Z G mX12_status d 0 0 0 [vr (some 0)] [] (mkM iv) K := (Z_aload_n (dX12_status 0) rfl (Z_gIM (x := (iv 0 0)) (dX12_status 1) lk_X12_198 sM0 (Or.inl rfl) rfl (Z_ireturn (dX12_status 2) rfl h)))
theorem P_status {G G' : ZG} {c m : Nat → Nat → Int} {rv : Nat → Nat → Option Nat} {B : Int} (h : RL B c rv m) (hB : 0 ≤ B ∧ B ≤ 10000000) : Z G mX11_status 40 0 0 0 [vr (some 0)] [] (mkC c rv) (QC G' mX12_status [vr (some 0)] m (B + 1000)) := by
  apply sX11_status_0 h.1
  refine ⟨c, rv, rfl, ?_⟩
  apply sX12_status_0
  exact QM_i h.2.1.symm (RL_B h (by omega))
set_option maxRecDepth 20000 in
theorem sX11_fault_0 {G : ZG} {d : Nat} {iv : Nat → Nat → Int} {K : Option AV → AH → Prop} {rv : Nat → Nat → Option Nat} {x1 : Int} (hR : RC rv) (h : (¬ x1 = 0 → ((¬ x1 = 1 → (K (some (vi (-1))) (mkC iv rv))) ∧ (x1 = 1 → (K (some (vi (iv 0 15))) (mkC iv rv))))) ∧ (x1 = 0 → (K (some (vi (iv 0 14))) (mkC iv rv)))) : Z G mX11_fault d 0 0 0 [vr (some 0), vi x1] [] (mkC iv rv) K := (Z_iload_n (dX11_fault 0) rfl (Z_if_ne (dX11_fault 1) rfl (fun c1 => (Z_iload_n (dX11_fault 5) rfl (Z_iconst (dX11_fault 6) ⟨by decide, by decide⟩ (Z_icmp_ne (dX11_fault 7) rfl (fun c3 => (Z_iconst (dX11_fault 11) ⟨by decide, by decide⟩ (Z_ireturn (dX11_fault 12) rfl ((h.1 c1).1 c3)))) (fun c4 => (Z_aload_n (dX11_fault 8) rfl (Z_gIC (x := (iv 0 15)) (dX11_fault 9) lk_X11_96 sC0 (Or.inl rfl) rfl (Z_goto (dX11_fault 10) rfl (Z_ireturn (dX11_fault 12) rfl ((h.1 c1).2 c4)))))))))) (fun c2 => (Z_aload_n (dX11_fault 2) rfl (Z_gIC (x := (iv 0 14)) (dX11_fault 3) lk_X11_92 sC0 (Or.inl rfl) rfl (Z_ireturn (dX11_fault 4) rfl (h.2 c2)))))))
set_option maxRecDepth 20000 in
theorem sX12_fault_0 {G : ZG} {d : Nat} {iv : Nat → Nat → Int} {K : Option AV → AH → Prop} {x1 : Int} (h : (¬ x1 = 0 → ((¬ x1 = 1 → (K (some (vi (-1))) (mkM iv))) ∧ (x1 = 1 → (K (some (vi (iv 0 50))) (mkM iv))))) ∧ (x1 = 0 → (K (some (vi (iv 0 49))) (mkM iv)))) : Z G mX12_fault d 0 0 0 [vr (some 0), vi x1] [] (mkM iv) K := (Z_iload_n (dX12_fault 0) rfl (Z_if_ne (dX12_fault 1) rfl (fun c1 => (Z_iload_n (dX12_fault 5) rfl (Z_iconst (dX12_fault 6) ⟨by decide, by decide⟩ (Z_icmp_ne (dX12_fault 7) rfl (fun c3 => (Z_iconst (dX12_fault 11) ⟨by decide, by decide⟩ (Z_ireturn (dX12_fault 12) rfl ((h.1 c1).1 c3)))) (fun c4 => (Z_aload_n (dX12_fault 8) rfl (Z_gIM (x := (iv 0 50)) (dX12_fault 9) lk_X12_114 sM0 (Or.inl rfl) rfl (Z_goto (dX12_fault 10) rfl (Z_ireturn (dX12_fault 12) rfl ((h.1 c1).2 c4)))))))))) (fun c2 => (Z_aload_n (dX12_fault 2) rfl (Z_gIM (x := (iv 0 49)) (dX12_fault 3) lk_X12_111 sM0 (Or.inl rfl) rfl (Z_goto (dX12_fault 4) rfl (Z_ireturn (dX12_fault 12) rfl (h.2 c2))))))))
theorem P_fault {G G' : ZG} {c m : Nat → Nat → Int} {rv : Nat → Nat → Option Nat} {B : Int} {x1 : Int} (h : RL B c rv m) (hB : 0 ≤ B ∧ B ≤ 10000000) (hx1 : -2147483648 ≤ x1 ∧ x1 ≤ 2147483647) : Z G mX11_fault 40 0 0 0 [vr (some 0), vi x1] [] (mkC c rv) (QC G' mX12_fault [vr (some 0), vi x1] m (B + 1000)) := by
  obtain ⟨a0, a1, a2, a3, a4, a5, a6, a7, a8, a9, a10, a11, a12, a13⟩ := id h
  have hB' := RL_B h (B' := B + 1000) (by omega)
  apply sX11_fault_0 a0
  refine ⟨fun b => ⟨fun e => ⟨c, rv, rfl, ?_⟩, fun e => ⟨c, rv, rfl, ?_⟩⟩, fun b => ⟨c, rv, rfl, ?_⟩⟩
  all_goals apply sX12_fault_0
  · exact ⟨fun _ => ⟨fun _ => QM_i rfl hB', fun f => absurd f e⟩, fun f => absurd f b⟩
  · exact ⟨fun _ => ⟨fun f => absurd e f, fun _ => QM_i a12.1.2.symm hB'⟩, fun f => absurd f b⟩
  · exact ⟨fun f => absurd b f, fun _ => QM_i a12.1.1.symm hB'⟩
set_option maxRecDepth 20000 in
theorem sX11_error_0 {G : ZG} {d : Nat} {iv : Nat → Nat → Int} {K : Option AV → AH → Prop} {rv : Nat → Nat → Option Nat} {x1 : Int} (hR : RC rv) (h : (¬ x1 = 0 → ((¬ x1 = 1 → (K (some (vi (-1))) (mkC iv rv))) ∧ (x1 = 1 → (K (some (vi (iv 40 10))) (mkC iv rv))))) ∧ (x1 = 0 → (K (some (vi (iv 40 9))) (mkC iv rv)))) : Z G mX11_error d 0 0 0 [vr (some 0), vi x1] [] (mkC iv rv) K := (Z_iload_n (dX11_error 0) rfl (Z_if_ne (dX11_error 1) rfl (fun c1 => (Z_iload_n (dX11_error 6) rfl (Z_iconst (dX11_error 7) ⟨by decide, by decide⟩ (Z_icmp_ne (dX11_error 8) rfl (fun c3 => (Z_iconst (dX11_error 13) ⟨by decide, by decide⟩ (Z_ireturn (dX11_error 14) rfl ((h.1 c1).1 c3)))) (fun c4 => (Z_aload_n (dX11_error 9) rfl (Z_gRC (r := (some 40)) (dX11_error 10) lk_X11_74 sC0 rfl (hR 8) (Z_gIC (x := (iv 40 10)) (dX11_error 11) lk_X11_350 sC40 (Or.inl rfl) rfl (Z_goto (dX11_error 12) rfl (Z_ireturn (dX11_error 14) rfl ((h.1 c1).2 c4))))))))))) (fun c2 => (Z_aload_n (dX11_error 2) rfl (Z_gRC (r := (some 40)) (dX11_error 3) lk_X11_74 sC0 rfl (hR 8) (Z_gIC (x := (iv 40 9)) (dX11_error 4) lk_X11_347 sC40 (Or.inl rfl) rfl (Z_ireturn (dX11_error 5) rfl (h.2 c2))))))))
set_option maxRecDepth 20000 in
theorem sX12_error_0 {G : ZG} {d : Nat} {iv : Nat → Nat → Int} {K : Option AV → AH → Prop} {x1 : Int} (h : (¬ x1 = 0 → ((¬ x1 = 1 → (K (some (vi (-1))) (mkM iv))) ∧ (x1 = 1 → (K (some (vi (iv 0 80))) (mkM iv))))) ∧ (x1 = 0 → (K (some (vi (iv 0 79))) (mkM iv)))) : Z G mX12_error d 0 0 0 [vr (some 0), vi x1] [] (mkM iv) K := (Z_iload_n (dX12_error 0) rfl (Z_if_ne (dX12_error 1) rfl (fun c1 => (Z_iload_n (dX12_error 5) rfl (Z_iconst (dX12_error 6) ⟨by decide, by decide⟩ (Z_icmp_ne (dX12_error 7) rfl (fun c3 => (Z_iconst (dX12_error 11) ⟨by decide, by decide⟩ (Z_ireturn (dX12_error 12) rfl ((h.1 c1).1 c3)))) (fun c4 => (Z_aload_n (dX12_error 8) rfl (Z_gIM (x := (iv 0 80)) (dX12_error 9) lk_X12_183 sM0 (Or.inl rfl) rfl (Z_goto (dX12_error 10) rfl (Z_ireturn (dX12_error 12) rfl ((h.1 c1).2 c4)))))))))) (fun c2 => (Z_aload_n (dX12_error 2) rfl (Z_gIM (x := (iv 0 79)) (dX12_error 3) lk_X12_180 sM0 (Or.inl rfl) rfl (Z_goto (dX12_error 4) rfl (Z_ireturn (dX12_error 12) rfl (h.2 c2))))))))
theorem P_error {G G' : ZG} {c m : Nat → Nat → Int} {rv : Nat → Nat → Option Nat} {B : Int} {x1 : Int} (h : RL B c rv m) (hB : 0 ≤ B ∧ B ≤ 10000000) (hx1 : -2147483648 ≤ x1 ∧ x1 ≤ 2147483647) : Z G mX11_error 40 0 0 0 [vr (some 0), vi x1] [] (mkC c rv) (QC G' mX12_error [vr (some 0), vi x1] m (B + 1000)) := by
  obtain ⟨a0, a1, a2, a3, a4, a5, a6, a7, a8, a9, a10, a11, a12, a13⟩ := id h
  have hB' := RL_B h (B' := B + 1000) (by omega)
  apply sX11_error_0 a0
  refine ⟨fun b => ⟨fun e => ⟨c, rv, rfl, ?_⟩, fun e => ⟨c, rv, rfl, ?_⟩⟩, fun b => ⟨c, rv, rfl, ?_⟩⟩
  all_goals apply sX12_error_0
  · exact ⟨fun _ => ⟨fun _ => QM_i rfl hB', fun f => absurd f e⟩, fun f => absurd f b⟩
  · exact ⟨fun _ => ⟨fun f => absurd e f, fun _ => QM_i a12.2.2.symm hB'⟩, fun f => absurd f b⟩
  · exact ⟨fun f => absurd b f, fun _ => QM_i a12.2.1.symm hB'⟩
theorem P_inTime {G G' : ZG} {c m : Nat → Nat → Int} {rv : Nat → Nat → Option Nat} {B : Int} {x1 : Int} (h : RL B c rv m) (hB : 0 ≤ B ∧ B ≤ 10000000) (hx1 : -2147483648 ≤ x1 ∧ x1 ≤ 2147483647) : Z G mX11_inTime 40 0 0 0 [vr (some 0), vi x1] [] (mkC c rv) (QC G' mX12_inTime [vr (some 0), vi x1] m (B + 1000)) := by
  obtain ⟨a0, a1, a2, a3, a4, a5, a6, a7, a8, a9, a10, a11, a12, a13⟩ := id h
  apply sX11_inTime_0 a0
  refine ⟨fun b => ⟨by omega, fun e => ⟨_, rv, rfl, ?_⟩, fun e => ⟨_, rv, rfl, ?_⟩⟩, fun b => ⟨_, rv, rfl, ?_⟩⟩
  all_goals apply sX12_inTime_0
  · exact ⟨fun f => by omega, fun _ => ⟨fun _ => ⟨by omega, fun _ => QM_u h, fun f => absurd f e⟩, fun f => by omega⟩⟩
  · exact ⟨fun f => by omega, fun _ => ⟨fun _ => ⟨by omega, fun f => absurd e f, fun _ => QM_u h⟩, fun f => by omega⟩⟩
  · exact ⟨fun _ => QM_u h, fun _ => ⟨fun f => by omega, fun _ => QM_u h⟩⟩
theorem P_most {G G' : ZG} {c m : Nat → Nat → Int} {rv : Nat → Nat → Option Nat} {B : Int} {x1 : Int} (h : RL B c rv m) (hB : 0 ≤ B ∧ B ≤ 10000000) (hx1 : -2147483648 ≤ x1 ∧ x1 ≤ 2147483647) : Z G mX11_most 40 0 0 0 [vr (some 0), vi x1] [] (mkC c rv) (QC G' mX12_most [vr (some 0), vi x1] m (B + 1000)) := by
  obtain ⟨a0, a1, a2, a3, a4, a5, a6, a7, a8, a9, a10, a11, a12, a13⟩ := id h
  apply sX11_most_0 a0
  refine ⟨fun b => ⟨_, rv, rfl, ?_⟩, fun b => ⟨_, rv, rfl, ?_⟩⟩
  all_goals apply sX12_most_0
  · refine ⟨fun f => by omega, fun _ => ⟨fun _ => QM_i rfl (RL_B (B := B) ?_ (by omega)), fun f => by omega⟩⟩
    have hc : ∀ i j, ¬ (i = 0 ∧ (j = 16 ∨ j = 17)) → iu (iu c 0 16 x1) 0 17 0 i j = c i j := fun i j q => by rw [iu_ap, if_neg (by omega), iu_ap, if_neg (by omega)]
    have hm : ∀ i j, ¬ (i = 0 ∧ (j = 7 ∨ j = 0)) → iu (iu m 0 7 x1) 0 0 0 i j = m i j := fun i j q => by rw [iu_ap, if_neg (by omega), iu_ap, if_neg (by omega)]
    refine ⟨a0, (by rw [iu_eq, iu_eq]), RT_f a2 (fun i j q => hc i j (by omega)) (fun i j q => hm i j (by omega)), RS_f a3 (fun i j q => hc i j (by omega)) (fun i j q => hm i j (by omega)), RR_f a4 (fun j => hc _ _ (by omega)) (hm _ _ (by omega)) (hm _ _ (by omega)), ?_, RSd_f a6 (fun i j q => hc i j (by omega)) (fun i j q => hm i j (by omega)), RB_f a7 (fun i j q => hc i j (by omega)), RO_f a8 (fun i j q => hc i j (by omega)), RK_f a9 (fun i j q => hc i j (by omega)) (fun i j q => hm i j (by omega)), RN_f a10 (fun i j q => hc i j (by omega)) (fun i j q => hm i j (by omega)), RF_f a11 (fun i j q => hc i j (by omega)) (fun i j q => hm i j (by omega)), RG_f a12 (fun i j q => hc i j (by omega)) (fun j q => hm _ _ (by omega)), RH_f a13 (fun i j q => hc i j (by omega)) (fun i j q => hm i j (by omega))⟩
    refine ⟨⟨?_, ?_, ?_⟩, ?_, ?_⟩
    · rw [iu_k (by decide), iu_eq, iu_k (by decide), iu_eq]
    · rw [iu_k (by decide), iu_eq]; omega
    · rw [iu_k (by decide), iu_eq]; omega
    · rw [iu_row (by decide), iu_row (by decide), iu_row (by decide), iu_row (by decide)]; exact a5.2.1
    · rw [iu_row (by decide), iu_row (by decide), iu_row (by decide), iu_row (by decide)]; exact a5.2.2
  · exact ⟨fun _ => QM_u h, fun _ => ⟨fun f => by omega, fun _ => QM_u h⟩⟩

