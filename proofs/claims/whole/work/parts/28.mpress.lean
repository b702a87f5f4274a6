/-! ===== pressing in the model ===== -/
set_option maxRecDepth 20000 in
theorem sX12_press_81 {G : ZG} {d : Nat} {iv : Nat → Nat → Int} {K : Option AV → AH → Prop} {x1 x2 x3 x4 : Int} (h : (-2147483648 ≤ (x4 + 1) ∧ (x4 + 1) ≤ 2147483647) ∧ (Z G mX12_press (d + 3) 0 0 52 [vr (some 0), vi x1, vi x2, vi x3, vi (x4 + 1)] [] (mkM iv) K)) : Z G mX12_press (d + 3) 0 0 81 [vr (some 0), vi x1, vi x2, vi x3, vi x4] [] (mkM iv) K := (Z_iinc (dX12_press 52) rfl (Nat.le_of_ble_eq_true rfl) h.1 rfl (Z_goto (dX12_press 53) rfl h.2))
theorem M_pressSong {G : ZG} {d : Nat} {w : Nat → Nat → Int} {K : Option AV → AH → Prop} {x1 x2 x3 : Int} (h1 : 0 ≤ x1 ∧ x1 ≤ 1) (h2 : 0 ≤ x2 ∧ x2 < 10) (h3 : 0 ≤ x3 ∧ x3 < 10) (hl : 1 ≤ w 4 x3.toNat ∧ w 4 x3.toNat ≤ 60) (hn : 0 ≤ w 7 x1.toNat ∧ w 7 x1.toNat + w 4 x3.toNat ≤ 400) (k : Z G mX12_press (d + 3) 0 0 27 [vr (some 0), vi x1, vi (x2 + 1), vu, vu] [] (mkM (layM w x1 (w 7 x1.toNat) (w 4 x3.toNat) (fun j => w 6 (60 * x3 + (j - (400 * x1 + w 7 x1.toNat))).toNat) x3)) K) : Z G mX12_press (d + 3) 0 0 52 [vr (some 0), vi x1, vi x2, vi x3, vi 0] [] (mkM w) K := by
  refine lp_up (P := fun j v => Z G mX12_press (d + 3) 0 0 52 [vr (some 0), vi x1, vi x2, vi x3, vi j] [] (mkM v) K) (w 4 x3.toNat) (fun j v => 0 ≤ j ∧ v = layM w x1 (w 7 x1.toNat) j (fun j => w 6 (60 * x3 + (j - (400 * x1 + w 7 x1.toNat))).toNat) x3) ?_ ?_ 0 w (by omega) ⟨by omega, (layM_0 rfl).symm⟩
  · rintro v ⟨-, rfl⟩
    apply sX12_press_52
    rw [layM_o (i := 4) (by decide) (by decide) (by decide)]
    exact ⟨by omega, fun _ => ⟨by omega, k⟩, fun h => by omega⟩
  · rintro j v hj ⟨j0, rfl⟩ ih
    apply sX12_press_52
    rw [layM_o (i := 4) (by decide) (by decide) (by decide), layM_o (i := 6) (by decide) (by decide) (by decide)]
    refine ⟨by omega, fun h => by omega, fun _ => ⟨by omega, by omega, by omega, M_putsL h1 (by omega) ?_ ?_⟩⟩
    · congr 2; omega
    · apply sX12_press_81
      exact ⟨by omega, ih _ ⟨by omega, rfl⟩⟩
def sdHasM (v : Nat → Nat → Int) (s : Int) (lv l : Int → Int) (L : List Int) : Prop := v 7 s.toNat = lenL l L ∧ ∀ p : Int, 0 ≤ p → p < lenL l L → v 8 (400 * s + p).toNat = catL lv l L p ∧ v 9 (400 * s + p).toNat = ownL l L p
theorem sdHasM_put {v : Nat → Nat → Int} {s : Int} {lv l : Int → Int} {L : List Int} {e : Int} {f : Nat → Int} (hs : 0 ≤ s) (hl : 0 ≤ lenL l L) (he : 0 ≤ l e) (h : sdHasM v s lv l L) (hf : ∀ p : Int, lenL l L ≤ p → f (400 * s + p).toNat = lv (60 * e + (p - lenL l L))) : sdHasM (layM v s (v 7 s.toNat) (l e) f e) s lv l (e :: L) := by
  obtain ⟨h1, h2⟩ := h
  refine ⟨?_, fun p a b => ?_⟩
  · rw [layM_7, h1]; rfl
  · unfold lenL at b
    unfold layM catL ownL
    rw [iu_o (by omega), iu_o (by omega), imap_row (show 8 ≠ 9 by omega), imap_ap, imap_ap, imap_ap, h1]
    by_cases q : p < lenL l L
    · have c1 : ¬ (400 * s + lenL l L).toNat ≤ (400 * s + p).toNat := by omega
      simp only [if_pos q, c1, false_and, and_false, if_false]
      exact h2 p a q
    · have c1 : (400 * s + lenL l L).toNat ≤ (400 * s + p).toNat := by omega
      have c2 : (400 * s + p).toNat < (400 * s + lenL l L + l e).toNat := by omega
      simp only [if_neg q, c1, c2, and_self, if_true]
      exact ⟨hf p (by omega), trivial⟩
/-- what pressing one side may change in the model -/
def PmF (s : Int) (w v : Nat → Nat → Int) : Prop := (∀ i, i ≠ 7 → i ≠ 8 → i ≠ 9 → v i = w i) ∧ (∀ j, j ≠ s.toNat → v 7 j = w 7 j) ∧ (∀ j : Nat, ((j : Int) < 400 * s ∨ 400 * s + 400 ≤ j) → v 8 j = w 8 j ∧ v 9 j = w 9 j)
theorem PmF.lay {s : Int} {w v : Nat → Nat → Int} {n m e : Int} {f : Nat → Int} (h : PmF s w v) (hs : 0 ≤ s) (hn : 0 ≤ n ∧ 0 ≤ m ∧ n + m ≤ 400) : PmF s w (layM v s n m f e) := by
  refine ⟨fun i a b c => by rw [layM_o a b c]; exact h.1 i a b c, fun j a => ?_, fun j a => ?_⟩
  · unfold layM
    rw [iu_k a, imap_row (by decide), imap_row (by decide)]
    exact h.2.1 j a
  · unfold layM
    rw [iu_o (by decide), iu_o (by decide), imap_row (show 8 ≠ 9 by decide), imap_ap, imap_ap, imap_row (show 9 ≠ 8 by decide), if_neg (by omega), if_neg (by omega)]
    exact h.2.2 j a
theorem M_pressSide {G : ZG} {d : Nat} {w : Nat → Nat → Int} {K : Option AV → AH → Prop} {x1 : Int} {L : List Int} (h1 : 0 ≤ x1 ∧ x1 ≤ 1) (hm : 0 ≤ w 19 x1.toNat ∧ w 19 x1.toNat ≤ 10) (hL : rl (fun i => w 18 (10 * x1 + i).toNat) (w 19 x1.toNat).toNat = L) (hg : ∀ x ∈ L, okMg w x) (h4 : lenL (fun i => w 4 i.toNat) L ≤ 400) (h7 : w 7 x1.toNat = 0) (k : ∀ v, PmF x1 w v → sdHasM v x1 (fun i => w 6 i.toNat) (fun i => w 4 i.toNat) L → Z G mX12_press (d + 3) 0 0 15 [vr (some 0), vi (x1 + 1), vu, vu, vu] [] (mkM v) K) : Z G mX12_press (d + 3) 0 0 27 [vr (some 0), vi x1, vi 0, vu, vu] [] (mkM w) K := by
  refine lp_up (P := fun j v => Z G mX12_press (d + 3) 0 0 27 [vr (some 0), vi x1, vi j, vu, vu] [] (mkM v) K) (w 19 x1.toNat) (fun j v => 0 ≤ j ∧ PmF x1 w v ∧ sdHasM v x1 (fun i => w 6 i.toNat) (fun i => w 4 i.toNat) (rl (fun i => w 18 (10 * x1 + i).toNat) j.toNat)) ?_ ?_ 0 w hm.1 ⟨by omega, ⟨fun _ _ _ _ => rfl, fun _ _ => rfl, fun _ _ => ⟨rfl, rfl⟩⟩, h7, fun p a b => by rw [show (0 : Int).toNat = 0 from rfl] at b; unfold rl lenL at b; omega⟩
  · rintro v ⟨-, f1, f2⟩
    apply sX12_press_27
    rw [f1.1 19 (by decide) (by decide) (by decide)]
    rw [hL] at f2
    exact ⟨by omega, fun _ => ⟨by omega, k v f1 f2⟩, fun h => by omega⟩
  · rintro j v hj ⟨j0, f1, f2⟩ ih
    apply sX12_press_27
    rw [f1.1 19 (by decide) (by decide) (by decide), f1.1 18 (by decide) (by decide) (by decide)]
    refine ⟨by omega, fun h => by omega, fun _ => ⟨by omega, by omega, by omega, ?_⟩⟩
    have v4 : v 4 = w 4 := f1.1 4 (by decide) (by decide) (by decide)
    have v6 : v 6 = w 6 := f1.1 6 (by decide) (by decide) (by decide)
    obtain ⟨T, hT⟩ := rl_split (f := fun i => w 18 (10 * x1 + i).toNat) j0 (w 19 x1.toNat).toNat (by omega)
    rw [hL] at hT
    obtain ⟨o1, o2, o3⟩ := hg (w 18 (10 * x1 + j).toNat) (by rw [hT]; simp)
    have n1 := lenL_nn (l := fun i => w 4 i.toNat) T (fun x hx => by have := (hg x (by rw [hT]; exact List.mem_append_left _ hx)).2.1; omega)
    have n2 := lenL_nn (l := fun i => w 4 i.toNat) (rl (fun i => w 18 (10 * x1 + i).toNat) j.toNat) (fun x hx => by have := (hg x (by rw [hT]; exact List.mem_append_right _ (List.mem_cons_of_mem _ hx))).2.1; omega)
    have tot : lenL (fun i => w 4 i.toNat) L = lenL (fun i => w 4 i.toNat) T + (lenL (fun i => w 4 i.toNat) (rl (fun i => w 18 (10 * x1 + i).toNat) j.toNat) + w 4 (w 18 (10 * x1 + j).toNat).toNat) := by
      rw [hT, lenL_app]; rfl
    have q7 := f2.1
    have r1 : rl (fun i => w 18 (10 * x1 + i).toNat) (j + 1).toNat = w 18 (10 * x1 + j).toNat :: rl (fun i => w 18 (10 * x1 + i).toNat) j.toNat := rl_s j0
    refine M_pressSong h1 (by omega) o1 (by rw [v4]; exact o2) (by rw [v4]; omega) ?_
    rw [v4, v6]
    refine ih _ ⟨by omega, f1.lay h1.1 (by omega), ?_⟩
    rw [r1]
    exact sdHasM_put (l := fun i => w 4 i.toNat) h1.1 n2 (by omega) f2 (fun p hp => by rw [q7, show ((400 * x1 + p).toNat : Int) - (400 * x1 + lenL (fun i => w 4 i.toNat) (rl (fun i => w 18 (10 * x1 + i).toNat) j.toNat)) = p - lenL (fun i => w 4 i.toNat) (rl (fun i => w 18 (10 * x1 + i).toNat) j.toNat) by omega])
theorem sdHasM.keep {s : Int} {w v : Nat → Nat → Int} {lv l : Int → Int} {L : List Int} (hl : lenL l L ≤ 400) (h : PmF 1 w v) (hs : s = 0) (q : sdHasM w s lv l L) : sdHasM v s lv l L := by
  subst hs
  refine ⟨by rw [h.2.1 _ (by decide)]; exact q.1, fun p a b => ?_⟩
  have := h.2.2 (400 * 0 + p).toNat (by omega)
  rw [this.1, this.2]
  exact q.2 p a b
theorem M_press {G : ZG} {d : Nat} {u : Nat → Nat → Int} {K : Option AV → AH → Prop} {L0 L1 : List Int} (m0 : 0 ≤ u 19 0 ∧ u 19 0 ≤ 10) (m1 : 0 ≤ u 19 1 ∧ u 19 1 ≤ 10) (e0 : rl (fun i => u 18 (10 * 0 + i).toNat) (u 19 0).toNat = L0) (e1 : rl (fun i => u 18 (10 * 1 + i).toNat) (u 19 1).toNat = L1) (g0 : ∀ x ∈ L0, okMg u x) (g1 : ∀ x ∈ L1, okMg u x) (l0 : lenL (fun i => u 4 i.toNat) L0 ≤ 400) (l1 : lenL (fun i => u 4 i.toNat) L1 ≤ 400) (k : ∀ v : Nat → Nat → Int, (∀ i, (i < 7 ∨ 10 < i) → v i = u i) → sdHasM v 0 (fun i => u 6 i.toNat) (fun i => u 4 i.toNat) L0 → sdHasM v 1 (fun i => u 6 i.toNat) (fun i => u 4 i.toNat) L1 → v 10 0 = -1 → v 10 1 = -1 → K (some (vi 1)) (mkM (iu v 0 0 0))) : Z G mX12_press (d + 3) 0 0 15 [vr (some 0), vi 0, vu, vu, vu] [] (mkM u) K := by
  apply sX12_press_15
  refine ⟨fun h => by omega, fun _ => ⟨by omega, ?_⟩⟩
  rw [show (0 : Int).toNat = 0 from rfl]
  have a : ∀ i, i ≠ 7 → i ≠ 10 → (iu (iu u 7 0 0) 10 0 (-1)) i = u i := by intro i p q; funext j; rw [iu_o q, iu_o p]
  refine M_pressSide (L := L0) (by omega) ?_ ?_ ?_ ?_ ?_ (fun v f1 f2 => ?_)
  · rw [a 19 (by decide) (by decide)]; exact m0
  · rw [a 19 (by decide) (by decide), a 18 (by decide) (by decide)]; exact e0
  · intro x hx
    have := g0 x hx
    unfold okMg at *
    rw [a 4 (by decide) (by decide), a 5 (by decide) (by decide)]
    exact this
  · rw [a 4 (by decide) (by decide)]; exact l0
  · rfl
  rw [a 4 (by decide) (by decide), a 6 (by decide) (by decide)] at f2
  have b : ∀ i, (i < 7 ∨ 10 < i) → v i = u i := by intro i p; rw [f1.1 i (by omega) (by omega) (by omega), a i (by omega) (by omega)]
  apply sX12_press_15
  refine ⟨fun h => by omega, fun _ => ⟨by omega, ?_⟩⟩
  rw [show ((0 : Int) + 1) = 1 from rfl, show (1 : Int).toNat = 1 from rfl]
  have c : ∀ i, i ≠ 7 → i ≠ 10 → (iu (iu v 7 1 0) 10 1 (-1)) i = v i := by intro i p q; funext j; rw [iu_o q, iu_o p]
  refine M_pressSide (L := L1) (by omega) ?_ ?_ ?_ ?_ ?_ (fun t f3 f4 => ?_)
  · rw [c 19 (by decide) (by decide), b 19 (by omega)]; exact m1
  · rw [c 19 (by decide) (by decide), c 18 (by decide) (by decide), b 19 (by omega), b 18 (by omega)]; exact e1
  · intro x hx
    have := g1 x hx
    unfold okMg at *
    rw [c 4 (by decide) (by decide), c 5 (by decide) (by decide), b 4 (by omega), b 5 (by omega)]
    exact this
  · rw [c 4 (by decide) (by decide), b 4 (by omega)]; exact l1
  · rfl
  rw [c 4 (by decide) (by decide), c 6 (by decide) (by decide), b 4 (by omega), b 6 (by omega)] at f4
  apply sX12_press_15
  refine ⟨fun _ => ?_, fun h => by omega⟩
  have f2' : sdHasM (iu (iu v 7 1 0) 10 1 (-1)) 0 (fun i => u 6 i.toNat) (fun i => u 4 i.toNat) L0 := by
    unfold sdHasM at *
    rw [c 8 (by decide) (by decide), c 9 (by decide) (by decide), iu_o (by decide), iu_k (by decide)]
    exact f2
  refine k t (fun i p => by rw [f3.1 i (by omega) (by omega) (by omega), c i (by omega) (by omega), b i p]) (f2'.keep l0 f3 rfl) f4 ?_ ?_
  · rw [f3.1 10 (by decide) (by decide) (by decide), iu_k (by decide), iu_o (by decide), f1.1 10 (by decide) (by decide) (by decide)]; exact iu_eq
  · rw [f3.1 10 (by decide) (by decide) (by decide)]; exact iu_eq

