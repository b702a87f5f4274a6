/-! ===== what the start gives: classes, arrays, texts ===== -/
theorem ins_ci {ci : Nat} (h : ci < 13) : Cond.instantiable (zR ci) (zN ci) ∈ zw := by
  match ci, h with
  | 0, _ => exact ins_X0
  | 1, _ => exact ins_X1
  | 2, _ => exact ins_X2
  | 3, _ => exact ins_X3
  | 4, _ => exact ins_X4
  | 5, _ => exact ins_X5
  | 6, _ => exact ins_X6
  | 7, _ => exact ins_X7
  | 8, _ => exact ins_X8
  | 9, _ => exact ins_X9
  | 10, _ => exact ins_X10
  | 11, _ => exact ins_X11
  | 12, _ => exact ins_X12
def sxi (i : Nat) : Nat := [145, 147, 149, 151, 153, 155, 157, 123, 159, 167, 171, 175, 179, 184, 186].getD i 0
def smi (i : Nat) : Nat := [410, 416, 418, 420, 422, 424, 426, 465, 460, 461, 463, 464, 458, 455, 456].getD i 0
def swd (i : Nat) : String := ["side", "lead", "song", "lock", "mark", "again", "when", "else", "from", "to", "soft", "fade", "have", "parts", "room"].getD i ""
def fl1 : List Cond := flatC (Jvm.Cond.and given_1 narrow_1)
set_option maxRecDepth 20000 in
theorem exF : ∀ i, i < 15 → Cond.exactly (.string RX6 (sxi i)) "java/lang/String" ∈ fl1 := by decide +kernel
set_option maxRecDepth 20000 in
theorem coF : ∀ i, i < 15 → Cond.eq (.field (.string RX6 (sxi i)) "java/lang/String" "coder" "B") (.int 0) ∈ fl1 := by decide +kernel
set_option maxRecDepth 20000 in
theorem arF : ∀ i, i < 15 → Cond.arrayOf (.field (.string RX6 (sxi i)) "java/lang/String" "value" "[B") .byte ∈ fl1 := by decide +kernel
set_option maxRecDepth 20000 in
theorem leF : ∀ i, i < 15 → Cond.eq (.length (.field (.string RX6 (sxi i)) "java/lang/String" "value" "[B")) (.int (Int32.ofNat (zstr.getD i []).length)) ∈ fl1 := by decide +kernel
set_option maxRecDepth 20000 in
theorem elF : ∀ i, i < 15 → ∀ j, j < (zstr.getD i []).length → Cond.eq (.elem (.field (.string RX6 (sxi i)) "java/lang/String" "value" "[B") (.int (Int32.ofNat j))) (.int ((zstr.getD i []).getD j 0)) ∈ fl1 := by decide +kernel
set_option maxRecDepth 20000 in
theorem eqF : ∀ i, i < 15 → Cond.eq (.string RX6 (sxi i)) (.string RX12 (smi i)) ∈ fl1 := by decide +kernel
set_option maxRecDepth 20000 in
theorem srC : ∀ i, i < 15 → Cond.stringRef RX6 (sxi i) (swd i) ∈ lw_tbl := by decide +kernel
set_option maxRecDepth 20000 in
theorem srM : ∀ i, i < 15 → Cond.stringRef RX12 (smi i) (swd i) ∈ lw_tbl := by decide +kernel
theorem zs_all : ∀ q ∈ zstrs, q.2.2.2 < 15 ∧ ((q.1 = RX6 ∧ q.2.1 = sxi q.2.2.2 ∧ q.2.2.1 = swd q.2.2.2) ∨ (q.1 = RX12 ∧ q.2.1 = smi q.2.2.2 ∧ q.2.2.1 = swd q.2.2.2)) := by decide +kernel
set_option maxRecDepth 20000 in
theorem nestF : ∀ q ∈ znest, Cond.methodLinkNest q.1 q.2.1 q.2.2.1 q.2.2.2 ∈ lw_tbl := by decide +kernel
set_option maxRecDepth 20000 in
theorem csF : Cond.eq (.static "java/lang/String" "COMPACT_STRINGS" "Z") (.int 1) ∈ fl1 ∧ Cond.isRef (.static "jdk/internal/util/Preconditions" "SIOOBE_FORMATTER" "Ljava/util/function/BiFunction;") ∈ fl1 := by decide +kernel
set_option maxRecDepth 20000 in
theorem csT : (Cond.laysStatic "java/lang/String" "COMPACT_STRINGS" "Z" ∈ lw_tbl ∧ Cond.laysStatic "jdk/internal/util/Preconditions" "SIOOBE_FORMATTER" "Ljava/util/function/BiFunction;" ∈ lw_tbl) ∧ (Cond.initialized "java/lang/String" ∈ lw_tbl ∧ Cond.initialized "jdk/internal/util/Preconditions" ∈ lw_tbl) ∧ (Cond.arrayOver (.object "DiscCutter$Tray") ∈ lw_tbl ∧ Cond.arrayOver (.object "DiscCutter$Side") ∈ lw_tbl ∧ Cond.arrayOver (.object "DiscCutter$Step") ∈ lw_tbl) := by decide +kernel
theorem arrP {args : Array Value} {s : State} {ty : FieldType} (h : (Cond.arrayClass ty).before args s = true) (hp : ∀ (cA : ClassId), s.vm.findClass ("[" ++ ty.toString) = some cA → va_RA s cA ty) (hc : ∀ k, ty ≠ .object k) : ∃ cA, ArrOfT s cA ty ∧ va_RA s cA ty := by
  obtain ⟨cA, kA, comp, h1, h2, h3⟩ := Cond.arrayClass_spec h
  exact ⟨cA, fun n z => ⟨fun k h => (by cases h), kA, h2, comp, h3⟩, hp cA h1⟩
theorem arrO {args : Array Value} {s : State} {C : String} (h : (Cond.arrayOver (.object C)).before args s = true) : ∃ cA, ArrOfT s cA (.object C) ∧ va_RA s cA (.object C) := by
  obtain ⟨comp, cA, kA, h1, h2, h3, h4, h5⟩ := Cond.arrayOver_spec h
  exact ⟨cA, fun n z => ⟨fun k h => (by cases h), kA, h3, comp, h4⟩, kA, comp, h3, h4, h1, h5⟩
theorem Cx_start {p : Program} {s : State} {m : MethodId} {meth : Method} {c : Code} {b L : Nat} {xs : Nat → Int32} (C : lw_At p s m meth c b L xs) : ∃ (D : va_G) (ca : Nat → ClassId) (ad : Nat → Nat), ∀ base, s.heap.size ≤ base → Cx (base, D, ca, ad) s s.heap := by
  have hts := C.2.2.2.2.2.1
  have hzw := lw_zw C
  have hfl : ∀ w ∈ fl1, w.before #[Value.ref b] s = true := flat_of_before _ C.2.2.2.2.2.2.2.2.2
  have k0 : ∀ ci : Nat, ∃ q : ClassId × (Nat → Nat), ci < 13 → u_Kn s (zR ci) (zT ci) (zN ci) q.1 q.2 := by
    intro ci
    by_cases h : ci < 13
    · obtain ⟨a, i, h'⟩ := u_known hzw (zk_in h) (hzw _ (ins_ci h))
      exact ⟨(a, i), fun _ => h'⟩
    · exact ⟨(0, fun _ => 0), fun z => absurd z h⟩
  obtain ⟨D, hD⟩ := Classical.axiomOfChoice k0
  obtain ⟨i0, i1, i2⟩ := arrP (hzw _ acl_int) (fun _ h => h) (fun _ h => by cases h)
  obtain ⟨j0, j1, j2⟩ := arrP (hzw _ acl_long) (fun _ h => h) (fun _ h => by cases h)
  obtain ⟨b0, b1, b2⟩ := arrP (hzw _ acl_byte) (fun _ h => h) (fun _ h => by cases h)
  obtain ⟨z0, z1, z2⟩ := arrP (hzw _ acl_boolean) (fun _ h => h) (fun _ h => by cases h)
  obtain ⟨t0, t1, t2⟩ := arrO (hts _ csT.2.2.1)
  obtain ⟨s0, s1, s2⟩ := arrO (hts _ csT.2.2.2.1)
  obtain ⟨p0, p1, p2⟩ := arrO (hts _ csT.2.2.2.2)
  have hA : ∀ a : Nat, a < s.heap.size → ¬ (s.heap.size ≤ a) := fun a h => Nat.not_le.mpr h
  have h0 : ∀ i : Nat, ∃ q : Nat × Nat, i < 15 → (Term.string RX6 (sxi i)).eval #[Value.ref b] s none [] s = some (.ref q.1) ∧ St1 (fun q => s.heap.size ≤ q) (zstr.getD i []) q.1 q.2 s s.heap := by
    intro i
    by_cases hi : i < 15
    · obtain ⟨a, c, cA, kA, q1, q2, q3, q4, q5, q6, -⟩ := Cond.exactly_spec (args := #[Value.ref b]) (first := s) (o := none) (s := s) (idx := []) (t := .string RX6 (sxi i)) (cls := "java/lang/String") (hfl _ (exF i hi))
      have hN : (zstr.getD i []).length < 2 ^ 31 := by
        have : ∀ i, i < 15 → (zstr.getD i []).length < 10 := by decide +kernel
        have := this i hi
        omega
      obtain ⟨t, ht, hT⟩ := va_Tof (f := fun j => .int ((zstr.getD i []).getD j 0)) (A := fun q => s.heap.size ≤ q) hN (hfl _ (arF i hi)) (va_eqt (hfl _ (leF i hi))) (fun j hj => va_eqt (hfl _ (elF i hi j hj))) hA
      exact ⟨(a, t), fun _ => ⟨q1, ⟨cA, q3, q5, by rw [q6]; exact q2, hA a (Array.getElem?_eq_some_iff.mp q3).1⟩, vk_OFof q1 (va_eqt (hfl _ (coF i hi))) hA, vk_OFof q1 ht hA, hT⟩⟩
    · exact ⟨(0, 0), fun h => absurd h hi⟩
  obtain ⟨ad, had⟩ := Classical.axiomOfChoice h0
  have hZ1 := va_Zof (A := fun q => s.heap.size ≤ q) (hts _ csT.1.1) (hts _ csT.2.1.1) (va_eqt (hfl _ csF.1)) hA
  have hZ2 := va_Zqof (A := fun q => s.heap.size ≤ q) (hts _ csT.1.2) (hts _ csT.2.1.2) (hfl _ csF.2) hA
  obtain ⟨tS, hZ3⟩ : ∃ tS : Nat, va_Z "jdk/internal/util/Preconditions" "SIOOBE_FORMATTER" "Ljava/util/function/BiFunction;" .null (fun q => s.heap.size ≤ q) s s.heap ∨ va_Z "jdk/internal/util/Preconditions" "SIOOBE_FORMATTER" "Ljava/util/function/BiFunction;" (.ref tS) (fun q => s.heap.size ≤ q) s s.heap := by
    rcases hZ2 with h | ⟨t, h⟩
    · exact ⟨0, Or.inl h⟩
    · exact ⟨t, Or.inr h⟩
  refine ⟨(fun k => (D k).1, fun k => (D k).2), fun k => match k with | 0 => i0 | 1 => j0 | 2 => b0 | 3 => z0 | 4 => t0 | 5 => s0 | _ => p0, fun n => if n = 2000000 then tS else if 1000000 ≤ n then (ad (n - 1000000)).2 else (ad n).1, fun base hbase => ?_⟩
  have hAB : ∀ q : Nat, base ≤ q → s.heap.size ≤ q := fun q h => Nat.le_trans hbase h
  have l15 : zstr.length = 15 := rfl
  refine ⟨⟨fun k q hq => ?_, fun k q hq => ?_⟩, ⟨va_AO.of (hts _ csT.2.2.1), va_AO.of (hts _ csT.2.2.2.1), va_AO.of (hts _ csT.2.2.2.2)⟩, fun q hq => va_Nw.of rfl (hts _ (nestF q hq)), fun q hq => ?_, fun i tx hi => ?_, hZ1.narrow hAB, ?_⟩
  · have lk : k < 13 := (List.getElem?_eq_some_iff.mp hq).1
    rw [zk_cl lk] at hq
    cases hq
    exact hD k lk
  · have lk : k < 7 := (List.getElem?_eq_some_iff.mp hq).1
    match k, lk, hq with
    | 0, _, hq => cases hq; exact ⟨i1, i2⟩
    | 1, _, hq => cases hq; exact ⟨j1, j2⟩
    | 2, _, hq => cases hq; exact ⟨b1, b2⟩
    | 3, _, hq => cases hq; exact ⟨z1, z2⟩
    | 4, _, hq => cases hq; exact ⟨t1, t2⟩
    | 5, _, hq => cases hq; exact ⟨s1, s2⟩
    | 6, _, hq => cases hq; exact ⟨p1, p2⟩
  · obtain ⟨hi, ha⟩ := zs_all q hq
    show vk_R q.1 q.2.1 q.2.2.1 (if q.2.2.2 = 2000000 then tS else if 1000000 ≤ q.2.2.2 then (ad (q.2.2.2 - 1000000)).2 else (ad q.2.2.2).1) s
    rw [if_neg (by omega), if_neg (by omega)]
    have hr := (had q.2.2.2 hi).1
    rcases ha with ⟨e1, e2, e3⟩ | ⟨e1, e2, e3⟩
    · rw [e1, e2, e3]
      exact vk_R.of (hts _ (srC _ hi)) hr
    · rw [e1, e2, e3]
      exact vk_R.of (hts _ (srM _ hi)) (va_eqR (hfl _ (eqF _ hi)) hr)
  · have hi' : i < 15 := (List.getElem?_eq_some_iff.mp hi).1
    have et : zstr.getD i [] = tx := by rw [List.getD_eq_getElem?_getD, hi]; rfl
    show St1 (fun q => base ≤ q) tx (if i = 2000000 then tS else if 1000000 ≤ i then (ad (i - 1000000)).2 else (ad i).1) (if 1000000 + i = 2000000 then tS else if 1000000 ≤ 1000000 + i then (ad (1000000 + i - 1000000)).2 else (ad (1000000 + i)).1) s s.heap
    rw [if_neg (by omega), if_neg (by omega), if_neg (by omega), if_pos (by omega), Nat.add_sub_cancel_left, ← et]
    obtain ⟨-, a1, a2, a3, a4⟩ := had i hi'
    exact ⟨a1.narrow hAB, a2.narrow hAB, a3.narrow hAB, a4.narrow hAB⟩
  · exact hZ3.imp (fun h => h.narrow hAB) (fun h => h.narrow hAB)

