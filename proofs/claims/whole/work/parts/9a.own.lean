/-! ===== open worlds: the first n cells of a world that is being made ===== -/
def ow (S : List ZS) (n : Nat) (iv : Nat → Nat → Int) (rv : Nat → Nat → Option Nat) : AH := (S.take n, iv, rv, true)
def zro (n : Nat) (iv : Nat → Nat → Int) (rv : Nat → Nat → Option Nat) : Prop := ∀ i j, n ≤ i → iv i j = 0 ∧ rv i j = none
theorem ru_ap {rv : Nat → Nat → Option Nat} {o k i j : Nat} {x : Option Nat} : ru rv o k x i j = if i = o ∧ j = k then x else rv i j := rfl
theorem zro_s {n : Nat} {iv : Nat → Nat → Int} {rv : Nat → Nat → Option Nat} (h : zro n iv rv) : zro (n + 1) iv rv := fun i j q => h i j (by omega)
theorem zro_i {n o k : Nat} {x : Int} {iv : Nat → Nat → Int} {rv : Nat → Nat → Option Nat} (h : zro n iv rv) (ho : o < n) : zro n (iu iv o k x) rv := fun i j q => by rw [iu_o (by omega)]; exact h i j q
theorem zro_r {n o k : Nat} {x : Option Nat} {iv : Nat → Nat → Int} {rv : Nat → Nat → Option Nat} (h : zro n iv rv) (ho : o < n) : zro n iv (ru rv o k x) := fun i j q => by rw [ru_o (by omega)]; exact h i j q
theorem zro_f {n o a b : Nat} {x : Int} {iv : Nat → Nat → Int} {rv : Nat → Nat → Option Nat} (h : zro n iv rv) (ho : o < n) : zro n (ifill iv o a b x) rv := fun i j q => by rw [ifill_row (by omega)]; exact h i j q
theorem ow_get {S : List ZS} {n o : Nat} {iv : Nat → Nat → Int} {rv : Nat → Nat → Option Nat} {t : ZS} (h : S[o]? = some t) (ho : o < n) : (ow S n iv rv).1[o]? = some t := by
  show (S.take n)[o]? = some t
  rw [List.getElem?_take, if_pos ho]; exact h
theorem ow_len {S : List ZS} {n : Nat} {iv : Nat → Nat → Int} {rv : Nat → Nat → Option Nat} {t : ZS} (h : S[n]? = some t) : (ow S n iv rv).1.length = n := by
  show (S.take n).length = n
  rw [List.length_take]
  have := (List.getElem?_eq_some_iff.mp h).1
  omega
theorem ow_new {S : List ZS} {n : Nat} {iv : Nat → Nat → Int} {rv : Nat → Nat → Option Nat} {t : ZS} (h : S[n]? = some t) (hz : zro n iv rv) : hnew (ow S n iv rv) t = ow S (n + 1) iv rv := by
  unfold hnew
  rw [ow_len h]
  show (S.take n ++ [t], _, _, true) = (S.take (n + 1), iv, rv, true)
  rw [List.take_add_one, h]
  refine Prod.ext rfl (Prod.ext ?_ (Prod.ext ?_ rfl))
  · funext i j
    show (if i = n then 0 else iv i j) = iv i j
    split
    · rename_i e; rw [(hz i j (by omega)).1]
    · rfl
  · funext i j
    show (if i = n then none else rv i j) = rv i j
    split
    · rename_i e; rw [(hz i j (by omega)).2]
    · rfl
section OW
variable {G : ZG} {M : ZM} {d bc bs pc : Nat} {L S : List AV} {W : List ZS} {n : Nat} {iv : Nat → Nat → Int} {rv : Nat → Nat → Option Nat} {K : Option AV → AH → Prop}
theorem O_new {idx ci bc1 bs1 : Nat} (hd : decode M.2.1 pc = .ok (.new idx, 3)) (hci : ci < 13) (h1 : Cond.classLink M.1.cls idx (zR ci) ∈ zw) (h2 : Cond.instantiable (zR ci) (zN ci) ∈ zw) (h3 : Cond.initialized (zR ci) ∈ zw) (hs : W[n]? = some (.inl ci)) (hz : zro n iv rv) (e1 : bc1 + 1 = bc) (e2 : bs1 + zN ci = bs) (hl : n < 1000000 := by decide) (kk : Z G M d bc1 bs1 (pc + 3) L (vr (some n) :: S) (ow W (n + 1) iv rv) K) : Z G M d bc bs pc L S (ow W n iv rv) K := by
  refine Z_new hd hci h1 h2 h3 rfl (by rw [ow_len hs]; exact hl) e1 e2 ?_
  rw [ow_len hs, ow_new hs hz]; exact kk
theorem O_newa {atype : ArrayType} {t N bc1 bs1 : Nat} {x : Int} (hd : decode M.2.1 pc = .ok (.newarray atype, 2)) (ht : t < 4) (hat : (ztys G)[t]? = some (G.2.2.1 t, newarray.typeOf atype)) (hw : Cond.arrayClass (newarray.typeOf atype) ∈ zw) (hs : W[n]? = some (.inr (t, N))) (hz : zro n iv rv) (hb : N ≤ 65536) (hN : x = (N : Int)) (e1 : bc1 + 1 = bc) (e2 : bs1 + N = bs) (hl : n < 1000000 := by decide) (kk : Z G M d bc1 bs1 (pc + 2) L (vr (some n) :: S) (ow W (n + 1) iv rv) K) : Z G M d bc bs pc L (vi x :: S) (ow W n iv rv) K := by
  refine Z_newa hd ht hat hw rfl (by rw [ow_len hs]; exact hl) hN hb e1 e2 ?_
  rw [ow_len hs, ow_new hs hz]; exact kk
theorem O_newq {idx t N bc1 bs1 : Nat} {x : Int} (hd : decode M.2.1 pc = .ok (.anewarray idx, 3)) (ht : t = 4 ∨ t = 5 ∨ t = 6) (hw : Cond.classLink M.1.cls idx (zR (zel t)) ∈ zw) (hs : W[n]? = some (.inr (t, N))) (hz : zro n iv rv) (hb : N ≤ 65536) (hN : x = (N : Int)) (e1 : bc1 + 1 = bc) (e2 : bs1 + N = bs) (hl : n < 1000000 := by decide) (kk : Z G M d bc1 bs1 (pc + 3) L (vr (some n) :: S) (ow W (n + 1) iv rv) K) : Z G M d bc bs pc L (vi x :: S) (ow W n iv rv) K := by
  refine Z_newq hd ht hw rfl (by rw [ow_len hs]; exact hl) hN hb e1 e2 ?_
  rw [ow_len hs, ow_new hs hz]; exact kk
theorem O_putI {o idx ci k : Nat} {x : Int} (hd : decode M.2.1 pc = .ok (.putfield idx, 3)) (hf : ZL M.1.cls idx ci k) (hs : W[o]? = some (.inl ci)) (ho : o < n) (ht : ftc (zty ci k) = 0) (hfin : (zT ci k).2.2.2 = false ∨ (zT ci k).2.2.2 = true ∧ M.1.name = "<init>" ∧ (zT ci k).1 = M.1.cls) (kk : Z G M d bc bs (pc + 3) L S (ow W n (iu iv o k x) rv) K) : Z G M d bc bs pc L (vi x :: vr (some o) :: S) (ow W n iv rv) K := Z_putI hd hf (ow_get hs ho) ht hfin kk
theorem O_putR {o idx ci k : Nat} {r : Option Nat} (hd : decode M.2.1 pc = .ok (.putfield idx, 3)) (hf : ZL M.1.cls idx ci k) (hs : W[o]? = some (.inl ci)) (ho : o < n) (ht : ftc (zty ci k) = 4) (hfin : (zT ci k).2.2.2 = false ∨ (zT ci k).2.2.2 = true ∧ M.1.name = "<init>" ∧ (zT ci k).1 = M.1.cls) (kk : Z G M d bc bs (pc + 3) L S (ow W n iv (ru rv o k r)) K) : Z G M d bc bs pc L (vr r :: vr (some o) :: S) (ow W n iv rv) K := Z_putR hd hf (ow_get hs ho) ht hfin kk
theorem O_getR {o idx ci k : Nat} {r : Option Nat} (hd : decode M.2.1 pc = .ok (.getfield idx, 3)) (hf : ZL M.1.cls idx ci k) (hs : W[o]? = some (.inl ci)) (ho : o < n) (ht : ftc (zty ci k) = 4) (e : rv o k = r) (kk : Z G M d bc bs (pc + 3) L (vr r :: S) (ow W n iv rv) K) : Z G M d bc bs pc L (vr (some o) :: S) (ow W n iv rv) K := Z_gR hd hf (ow_get hs ho) ht e kk
theorem O_aald {o t N : Nat} {i : Int} {r : Option Nat} (hd : decode M.2.1 pc = .ok (.aaload, 1)) (hs : W[o]? = some (.inr (t, N))) (ho : o < n) (ht : t = 4 ∨ t = 5 ∨ t = 6) (hi : 0 ≤ i ∧ i < N) (e : rv o i.toNat = r) (kk : Z G M d bc bs (pc + 1) L (vr r :: S) (ow W n iv rv) K) : Z G M d bc bs pc L (vi i :: vr (some o) :: S) (ow W n iv rv) K := Z_al hd (ow_get hs ho) ht hi e kk
theorem O_aast {o t N v : Nat} {i : Int} (hd : decode M.2.1 pc = .ok (.aastore, 1)) (hs : W[o]? = some (.inr (t, N))) (ho : o < n) (ht : t = 4 ∨ t = 5 ∨ t = 6) (hv : W[v]? = some (.inl (zel t))) (hvn : v < n) (hi : 0 ≤ i ∧ i < N) (kk : Z G M d bc bs (pc + 1) L S (ow W n iv (ru rv o i.toNat (some v))) K) : Z G M d bc bs pc L (vr (some v) :: vi i :: vr (some o) :: S) (ow W n iv rv) K := Z_aast hd (ow_get hs ho) ht (ow_get hv hvn) hi kk
theorem O_iast {o N : Nat} {i x : Int} (hd : decode M.2.1 pc = .ok (.iastore, 1)) (hs : W[o]? = some (.inr (0, N))) (ho : o < n) (hi : 0 ≤ i ∧ i < N) (kk : Z G M d bc bs (pc + 1) L S (ow W n (iu iv o i.toNat x) rv) K) : Z G M d bc bs pc L (vi x :: vi i :: vr (some o) :: S) (ow W n iv rv) K := Z_iast hd (ow_get hs ho) hi kk
end OW
theorem O_fill {G : ZG} {d : Nat} {W : List ZS} {n o N : Nat} {x : Int} {iv : Nat → Nat → Int} {rv : Nat → Nat → Option Nat} {K : Option AV → AH → Prop} (hs : W[o]? = some (.inr (0, N))) (ho : o < n) (hN : N ≤ 65536) (k : K none (ow W n (ifill iv o 0 N x) rv)) : Z G mJ7_fill_53178 d 0 0 0 [vr (some o), vi x, vu, vu] [] (ow W n iv rv) K := by
  refine Z_iconst (dJ7_fill_53178 0) ⟨by decide, by decide⟩ ?_
  refine Z_istore_n (dJ7_fill_53178 1) (Nat.le_of_ble_eq_true rfl) rfl ?_
  refine Z_aload_n (dJ7_fill_53178 2) rfl ?_
  refine Z_alen (dJ7_fill_53178 3) (ow_get hs ho) (by decide) (by omega) ?_
  refine Z_istore_n (dJ7_fill_53178 4) (Nat.le_of_ble_eq_true rfl) rfl ?_
  refine lp_up (P := fun q v => Z G mJ7_fill_53178 d 0 0 5 [vr (some o), vi x, vi q, vi (N : Nat)] [] (ow W n v rv) K) (N : Nat) (fun q v => 0 ≤ q ∧ v = ifill iv o 0 q.toNat x) ?_ ?_ 0 iv (by omega) ⟨by omega, ifill_nil.symm⟩
  · rintro v ⟨-, ev⟩
    refine Z_iload_n (dJ7_fill_53178 5) rfl ?_
    refine Z_iload_n (dJ7_fill_53178 6) rfl ?_
    refine Z_icmp_ge (dJ7_fill_53178 7) rfl (fun _ => ?_) (fun q => by omega)
    refine Z_return (dJ7_fill_53178 14) rfl ?_
    rw [ev, show ((N : Nat) : Int).toNat = N by omega]; exact k
  · rintro q v hq ⟨q0, ev⟩ ih
    refine Z_iload_n (dJ7_fill_53178 5) rfl ?_
    refine Z_iload_n (dJ7_fill_53178 6) rfl ?_
    refine Z_icmp_ge (dJ7_fill_53178 7) rfl (fun z => by omega) (fun _ => ?_)
    refine Z_aload_n (dJ7_fill_53178 8) rfl ?_
    refine Z_iload_n (dJ7_fill_53178 9) rfl ?_
    refine Z_iload_n (dJ7_fill_53178 10) rfl ?_
    refine O_iast (dJ7_fill_53178 11) hs ho (by omega) ?_
    refine Z_iinc (dJ7_fill_53178 12) rfl (Nat.le_of_ble_eq_true rfl) (by omega) rfl ?_
    refine Z_goto (dJ7_fill_53178 13) rfl ?_
    refine ih _ ⟨by omega, ?_⟩
    rw [ev, show (q + 1).toNat = q.toNat + 1 by omega]
    exact ifill_snoc (by omega)

