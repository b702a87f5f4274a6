/-! ===== rules: constants, copies, the texts' own ===== -/
section ZS0
variable {G : ZG} {M : ZM} {d bc bs pc : Nat} {L S : List AV} {A : AH} {K : Option AV → AH → Prop}
theorem Z_ldc {idx : Nat} {v : Int32} (hd : decode M.2.1 pc = .ok (.ldc idx, 2)) (hw : Cond.constant M.1.cls idx v ∈ zw) (kk : Z G M d bc bs (pc + 2) L (vi v.toInt :: S) A K) : Z G M d bc bs pc L S A K := by
  intro p l e R s m args below meth c H locs cells slots ls mc ms A0 hC hX hH hA hS hl hL hSt hc hs
  have w := kk p l e R s m args below meth c H locs cells slots ls mc ms A0 hC hX hH hA hS hl hL (zin_cons.mpr ⟨z32 _, hSt⟩) hc hs
  rw [List.map_cons, cv_vi, Int32.ofInt_toInt] at w
  exact lv_ldc hC.1 hC.2.1 hC.2.2.2.1 (hC.2.2.2.2.1 _ hw) hd w
theorem Z_ldcw {idx : Nat} {v : Int32} (hd : decode M.2.1 pc = .ok (.ldc_w idx, 3)) (hw : Cond.constant M.1.cls idx v ∈ zw) (kk : Z G M d bc bs (pc + 3) L (vi v.toInt :: S) A K) : Z G M d bc bs pc L S A K := by
  intro p l e R s m args below meth c H locs cells slots ls mc ms A0 hC hX hH hA hS hl hL hSt hc hs
  have w := kk p l e R s m args below meth c H locs cells slots ls mc ms A0 hC hX hH hA hS hl hL (zin_cons.mpr ⟨z32 _, hSt⟩) hc hs
  rw [List.map_cons, cv_vi, Int32.ofInt_toInt] at w
  exact lv_ldcw hC.1 hC.2.1 hC.2.2.2.1 (hC.2.2.2.2.1 _ hw) hd w
theorem Z_ldc2 {idx : Nat} {v : Int64} (hd : decode M.2.1 pc = .ok (.ldc2_w idx, 3)) (hw : Cond.constantLong M.1.cls idx v ∈ zw) (kk : Z G M d bc bs (pc + 3) L (vl v.toInt :: S) A K) : Z G M d bc bs pc L S A K := by
  intro p l e R s m args below meth c H locs cells slots ls mc ms A0 hC hX hH hA hS hl hL hSt hc hs
  have w := kk p l e R s m args below meth c H locs cells slots ls mc ms A0 hC hX hH hA hS hl hL (zin_cons.mpr ⟨z64 _, hSt⟩) hc hs
  rw [List.map_cons, cv_vl, Int64.ofInt_toInt] at w
  exact lv_ldc2 hC.1 hC.2.1 hC.2.2.2.1 (hC.2.2.2.2.1 _ hw) hd w
theorem adr_x (i : Nat) : adr G (1000000 + i) = G.2.2.2 i := by
  unfold adr
  rw [if_neg (by omega), Nat.add_sub_cancel_left]
theorem adr_v (i : Nat) : adr G (2000000 + i) = G.2.2.2 (1000000 + i) := by
  unfold adr
  rw [if_neg (by omega), show 2000000 + i = 1000000 + (1000000 + i) by omega, Nat.add_sub_cancel_left]
theorem Z_ldcS {idx i : Nat} {tx : String} (hd : decode M.2.1 pc = .ok (.ldc idx, 2)) (hq : (M.1.cls, idx, tx, i) ∈ zstrs) (kk : Z G M d bc bs (pc + 2) L (vr (some (1000000 + i)) :: S) A K) : Z G M d bc bs pc L S A K := by
  intro p l e R s m args below meth c H locs cells slots ls mc ms A0 hC hX hH hA hS hl hL hSt hc hs
  have w := kk p l e R s m args below meth c H locs cells slots ls mc ms A0 hC hX hH hA hS hl hL (zin_cons.mpr ⟨trivial, hSt⟩) hc hs
  rw [List.map_cons, cv_rf, adr_x] at w
  exact va_ldcS hC.1 hC.2.1 hC.2.2.2.1 (hX.2.2.2.1 _ hq) hd w
theorem ldcSW {p : Program} {l : Launch} {e : Env} {R : Room} {s : State} {m : MethodId} {args : Array Value} {below : List Frame} {meth : Method} {c : Code} {T : State} {locs : List Loc} {cells slots : Nat}
    (X : Stand p l e R s m args below meth c T locs cells slots) (hexec : p.tables.exec = Jvm.exec) {own text : String} {index : Nat} {a : Addr} (hown : s.vm.findClass own = some m.cls)
    (hconst : (Cond.stringRef own index text).before #[] s = true) (hev : (Term.string own index).eval #[] s none [] s = some (.ref a)) {g : JFrame} (hg : g.method = m) (hdg : decode c.code g.pc = .ok (.ldc_w index, 3)) :
    ∀ target, Steps p.tables e below (T.setTop { g with pc := g.pc + 3, stack := .ref a :: g.stack }) target → Steps p.tables e below (T.setTop g) target := by
  obtain ⟨k, cf, i, a', hk, hcf, hcp, -, hr, hev'⟩ := Cond.stringRef_spec hown hconst
  cases hev.symm.trans hev'
  obtain ⟨k', hk', he⟩ := X.warmed.alike.2.2 _ _ hk
  have hr' : k'.resolved[index]? = some (some (.string a)) := by
    rcases X.warmed.entry hk hk' index with h | ⟨h, -⟩
    · rw [h]; exact hr
    · rw [hr] at h; cases h
  intro target hrest
  subst hg
  jvm_step X.here [hexec, hdg, ldc_w.wp_string (e := e) (s := T) (f := g) X.here.top hk' (by rw [he]; exact hcf) hcp hr']
  exact hrest
theorem Z_ldcSw {idx i : Nat} {tx : String} (hd : decode M.2.1 pc = .ok (.ldc_w idx, 3)) (hq : (M.1.cls, idx, tx, i) ∈ zstrs) (kk : Z G M d bc bs (pc + 3) L (vr (some (1000000 + i)) :: S) A K) : Z G M d bc bs pc L S A K := by
  intro p l e R s m args below meth c H locs cells slots ls mc ms A0 hC hX hH hA hS hl hL hSt hc hs
  have w := kk p l e R s m args below meth c H locs cells slots ls mc ms A0 hC hX hH hA hS hl hL (zin_cons.mpr ⟨trivial, hSt⟩) hc hs
  rw [List.map_cons, cv_rf, adr_x] at w
  have hZ := hX.2.2.2.1 _ hq
  intro T hT X
  obtain ⟨t, a1, b1⟩ := w T hT X
  exact ⟨t, ldcSW X hC.1 hC.2.2.2.1 (text := tx) (a := G.2.2.2 i) hZ.1 hZ.2 (g := F0 m pc ls (S.map (cv G))) rfl (by rw [hC.2.1]; exact hd) t a1, b1⟩
theorem zSb {A0 : AH} {H0 H : Heap} {locs : List Loc} (hS : va_S (zA G A0) H0 H locs) : va_S (fun q => G.1 ≤ q) H0 H locs := ⟨hS.1, fun q h1 h2 => hS.2.1 q h1 (fun z => h2 z.1), fun q hq => (hS.2.2 q hq).1⟩
theorem Z_xval {idx i : Nat} {tx : List Int32} (hd : decode M.2.1 pc = .ok (.getfield idx, 3)) (hx : zstr[i]? = some tx) (hw : Cond.fieldLink M.1.cls idx "java/lang/String" "value" "[B" ∈ zw) (kk : Z G M d bc bs (pc + 3) L (vr (some (2000000 + i)) :: S) A K) : Z G M d bc bs pc L (vr (some (1000000 + i)) :: S) A K := by
  intro p l e R s m args below meth c H locs cells slots ls mc ms A0 hC hX hH hA hS hl hL hSt hc hs
  have w := kk p l e R s m args below meth c H locs cells slots ls mc ms A0 hC hX hH hA hS hl hL (zin_cons.mpr ⟨trivial, (zin_cons.mp hSt).2⟩) hc hs
  rw [List.map_cons, cv_rf, adr_v] at w
  rw [List.map_cons, cv_rf, adr_x]
  exact vk_getf hC.1 hC.2.1 (hX.2.2.2.2.1 i tx hx).2.2.1 (zSb hS) hC.2.2.2.1 (hC.2.2.2.2.1 _ hw) (fun _ h => h) hd w
theorem Z_xcod {idx i : Nat} {tx : List Int32} (hd : decode M.2.1 pc = .ok (.getfield idx, 3)) (hx : zstr[i]? = some tx) (hw : Cond.fieldLink M.1.cls idx "java/lang/String" "coder" "B" ∈ zw) (kk : Z G M d bc bs (pc + 3) L (vi 0 :: S) A K) : Z G M d bc bs pc L (vr (some (1000000 + i)) :: S) A K := by
  intro p l e R s m args below meth c H locs cells slots ls mc ms A0 hC hX hH hA hS hl hL hSt hc hs
  have w := kk p l e R s m args below meth c H locs cells slots ls mc ms A0 hC hX hH hA hS hl hL (zin_cons.mpr ⟨z0, (zin_cons.mp hSt).2⟩) hc hs
  rw [List.map_cons, cv_rf, adr_x]
  exact vk_getf hC.1 hC.2.1 (hX.2.2.2.2.1 i tx hx).2.1 (zSb hS) hC.2.2.2.1 (hC.2.2.2.2.1 _ hw) (fun _ h => h) hd w
theorem Z_xcmp {idx : Nat} (hd : decode M.2.1 pc = .ok (.getstatic idx, 3)) (hw : Cond.fieldLink M.1.cls idx "java/lang/String" "COMPACT_STRINGS" "Z" ∈ zw) (kk : Z G M d bc bs (pc + 3) L (vi 1 :: S) A K) : Z G M d bc bs pc L S A K := by
  intro p l e R s m args below meth c H locs cells slots ls mc ms A0 hC hX hH hA hS hl hL hSt hc hs
  have w := kk p l e R s m args below meth c H locs cells slots ls mc ms A0 hC hX hH hA hS hl hL (zin_cons.mpr ⟨zv_vi.mpr ⟨by decide, by decide⟩, hSt⟩) hc hs
  exact va_gets hC.1 hC.2.1 hX.2.2.2.2.2.1 (zSb hS) hC.2.2.2.1 (hC.2.2.2.2.1 _ hw) (fun _ h => h) hd w
theorem Z_xfmt {idx : Nat} (hd : decode M.2.1 pc = .ok (.getstatic idx, 3)) (hw : Cond.fieldLink M.1.cls idx "jdk/internal/util/Preconditions" "SIOOBE_FORMATTER" "Ljava/util/function/BiFunction;" ∈ zw) (kk : ∀ r : Option Nat, Z G M d bc bs (pc + 3) L (vr r :: S) A K) : Z G M d bc bs pc L S A K := by
  intro p l e R s m args below meth c H locs cells slots ls mc ms A0 hC hX hH hA hS hl hL hSt hc hs
  rcases hX.2.2.2.2.2.2 with hz | hz
  · exact va_gets hC.1 hC.2.1 hz (zSb hS) hC.2.2.2.1 (hC.2.2.2.2.1 _ hw) (fun _ h => h) hd (kk none p l e R s m args below meth c H locs cells slots ls mc ms A0 hC hX hH hA hS hl hL (zin_cons.mpr ⟨trivial, hSt⟩) hc hs)
  · have w := kk (some (2000000 + 1000000)) p l e R s m args below meth c H locs cells slots ls mc ms A0 hC hX hH hA hS hl hL (zin_cons.mpr ⟨trivial, hSt⟩) hc hs
    rw [List.map_cons, cv_rf, adr_v] at w
    exact va_gets hC.1 hC.2.1 hz (zSb hS) hC.2.2.2.1 (hC.2.2.2.2.1 _ hw) (fun _ h => h) hd w
theorem zof_len {n : Nat} (h : n ≤ 2147483647) : Int32.ofNat n = Int32.ofInt n := Int32.toInt_inj.1 (by rw [zt ⟨by omega, by omega⟩, Int32.toInt_ofNat_of_lt (by omega)])
theorem Z_xlen {i : Nat} {tx : List Int32} (hd : decode M.2.1 pc = .ok (.arraylength, 1)) (hx : zstr[i]? = some tx) (hn : tx.length ≤ 2147483647) (kk : Z G M d bc bs (pc + 1) L (vi tx.length :: S) A K) : Z G M d bc bs pc L (vr (some (2000000 + i)) :: S) A K := by
  intro p l e R s m args below meth c H locs cells slots ls mc ms A0 hC hX hH hA hS hl hL hSt hc hs
  have w := kk p l e R s m args below meth c H locs cells slots ls mc ms A0 hC hX hH hA hS hl hL (zin_cons.mpr ⟨zv_vi.mpr ⟨by omega, by omega⟩, (zin_cons.mp hSt).2⟩) hc hs
  rw [List.map_cons, cv_rf, adr_v]
  exact va_tlen hC.1 hC.2.1 (hX.2.2.2.2.1 i tx hx).2.2.2 (zSb hS) (zof_len hn) hd w
theorem Z_xbald {i : Nat} {k : Int} {tx : List Int32} (hd : decode M.2.1 pc = .ok (.baload, 1)) (hx : zstr[i]? = some tx) (hk : 0 ≤ k ∧ k < tx.length) (kk : Z G M d bc bs (pc + 1) L (vi (tx.getD k.toNat 0).toInt :: S) A K) : Z G M d bc bs pc L (vi k :: vr (some (2000000 + i)) :: S) A K := by
  intro p l e R s m args below meth c H locs cells slots ls mc ms A0 hC hX hH hA hS hl hL hSt hc hs
  have w := kk p l e R s m args below meth c H locs cells slots ls mc ms A0 hC hX hH hA hS hl hL (zin_cons.mpr ⟨z32 _, (zin_cons.mp (zin_cons.mp hSt).2).2⟩) hc hs
  have hir := (zin_cons.mp hSt).1
  rw [List.map_cons, cv_vi, Int32.ofInt_toInt] at w
  rw [List.map_cons, List.map_cons, cv_rf, adr_v]
  exact va_tb hC.1 hC.2.1 (hX.2.2.2.2.1 i tx hx).2.2.2 (zSb hS) (zvp hir hk.1 hk.2) (by rw [zclamp hir]) hd w
theorem Z_callX {M' : ZM} {idx n i bc1 bs1 bc2 bs2 : Nat} {As : List AV} {tx : List Int32} (hd : decode M.2.1 pc = .ok (.invokevirtual idx, 3)) (hv : ZV M.1.cls idx M' n) (hx : zstr[i]? = some tx) (hcl : "java/lang/String" = M'.1.cls) (hn : As.length = n) (hsz : zsz S ≤ 8) (hlen : (zflat (vr (some (1000000 + i)) :: As)).length ≤ M'.2.2.1) (e1 : bc2 + bc1 = bc) (e2 : bs2 + bs1 = bs)
    (k : Z G M' d bc2 bs2 0 (zent (vr (some (1000000 + i)) :: As) M'.2.2.1) [] A (fun r A1 => Z G M (d + 1) bc1 bs1 (pc + 3) L (r.toList ++ S) A1 K)) : Z G M (d + 1) bc bs pc L (As.reverse ++ vr (some (1000000 + i)) :: S) A K := by
  intro p l e R s m args below meth c H locs cells slots ls mc ms A0 hC hX hH hA hS hl hL hSt hc hs
  have hR : R = zroom (d + 1) mc ms := hC.2.2.2.2.2.2.2.2
  have hts := hC.2.2.2.2.1
  have hz : zin (vr (some (1000000 + i)) :: As) := zin_cons.mpr ⟨trivial, fun v h => (zin_app.mp hSt).1 v (List.mem_reverse.mpr h)⟩
  have hzS : zin S := (zin_cons.mp (zin_app.mp hSt).2).2
  have hM := Z.met l hv.1 hlen k
  have hrc : ∃ cell : Cell, H[adr G (1000000 + i)]? = some cell ∧ cell.vm.isStatics = false ∧ s.vm.findClass M'.1.cls = some cell.cls := by
    obtain ⟨cell, h1, h2, h3, -⟩ := (hX.2.2.2.2.1 i tx hx).1.kept (zSb hS).2.1
    rw [adr_x, ← hcl]
    exact ⟨cell, h1, h2, h3⟩
  refine zcall (A := A) (rest := S.map (cv G)) (va_runV (As := As.map (cv G)) (b := adr G (1000000 + i)) (C := M'.1.cls) ⟨hC.1, hC.2.1, hC.2.2.1, hC.2.2.2.1, hts⟩ hM ⟨callB_of (Ts := zw) (ws' := zw) n hts (zgood hv.1) rfl rfl rfl (hts _ hv.1.2.1) (hts _ hv.2.1) hv.1.2.2.2.1 (by rw [hR]; exact zroomR hv.1.2.2.2.2), hts _ hv.2.2.1, hts _ hv.2.2.2⟩ ⟨ZP_blind, hrc, fun U hU hW => ZP_at (as := vr (some (1000000 + i)) :: As) hX hS hH hz hU hW⟩ rfl (by rw [List.length_map]; exact hn) hl.1 (by simp [List.map_append, List.map_reverse, cv_rf]) (lv_room (by rw [zsz_of]; exact hsz)) hd (by rw [hR]; exact ⟨by show cells + bc2 ≤ mc; omega, by show slots + bs2 ≤ ms; omega⟩)) hH hA hS (fun r A1 H1 locs1 hz1 hK hH1 hA1 hS1 => ?_)
  · rw [← List.map_append]
    exact hK p l e R s m args below meth c H1 locs1 _ _ ls mc ms A0 hC hX hH1 hA1 hS1 hl hL (zin_app.mpr ⟨hz1, hzS⟩) (by omega) (by omega)
theorem Z_breturn {x : Int} (hd : decode M.2.1 pc = .ok (.ireturn, 1)) (hr : M.2.2.2 = some .byte) (hx : -128 ≤ x ∧ x ≤ 127) (k : K (some (vi x)) A) : Z G M d bc bs pc L [vi x] A K := by
  intro p l e R s m args below meth c H locs cells slots ls mc ms A0 hC hX hH hA hS hl hL hSt hc hs
  have hn : narrow .byte (.int (Int32.ofInt x)) = .int (Int32.ofInt x) := by
    show Value.int (Int32.ofInt x).toInt8.toInt32 = _
    congr 1
    apply Int32.toInt_inj.1
    rw [Int8.toInt_toInt32, Int32.toInt_toInt8, zt (zin_cons.mp hSt).1]
    exact Int.bmod_eq_of_le (by omega) (by omega)
  refine W.widen (k := mc) (n := ms) (by omega) (by omega) ?_
  have hq : ∀ t : State, t.heap = H → s.WarmedH t.vm → ZQ G A0 K args s (.returned ((some (vi x) : Option AV).map (cv G))) t := fun t ht _ => ⟨⟨some (vi x), A, rfl, fun v hv => hSt v (by simpa using hv), k, by rw [ht]; exact hH, hA⟩, hS.F ht⟩
  exact W.zret hC.1 hC.2.1 (hC.2.2.2.2.2.2.1.trans hr) hn hq hS.2.2 hd hC.2.2.2.2.2.1
theorem Z_creturn {x : Int} (hd : decode M.2.1 pc = .ok (.ireturn, 1)) (hr : M.2.2.2 = some .char) (hx : 0 ≤ x ∧ x ≤ 65535) (k : K (some (vi x)) A) : Z G M d bc bs pc L [vi x] A K := by
  intro p l e R s m args below meth c H locs cells slots ls mc ms A0 hC hX hH hA hS hl hL hSt hc hs
  have hn : narrow .char (.int (Int32.ofInt x)) = .int (Int32.ofInt x) := by
    obtain ⟨q, hq⟩ : ∃ q : Nat, x = (q : Int) := ⟨x.toNat, by omega⟩
    subst hq
    rw [← zof_len (by omega)]
    exact (pk_charN (by omega)).1
  refine W.widen (k := mc) (n := ms) (by omega) (by omega) ?_
  have hq : ∀ t : State, t.heap = H → s.WarmedH t.vm → ZQ G A0 K args s (.returned ((some (vi x) : Option AV).map (cv G))) t := fun t ht _ => ⟨⟨some (vi x), A, rfl, fun v hv => hSt v (by simpa using hv), k, by rw [ht]; exact hH, hA⟩, hS.F ht⟩
  exact W.zret hC.1 hC.2.1 (hC.2.2.2.2.2.2.1.trans hr) hn hq hS.2.2 hd hC.2.2.2.2.2.1
/-- numbers come from one row to another, as they were -/
def hcpy (A : AH) (o0 sp o1 dp n : Nat) : AH := (A.1, (fun i j => if i = o1 ∧ dp ≤ j ∧ j < dp + n then A.2.1 o0 (sp + (j - dp)) else A.2.1 i j), A.2.2.1, A.2.2.2)
theorem hcpy_ze {o0 sp o1 dp n i : Nat} {u : ZS} (h : i ≠ o1) : ze G (hcpy A o0 sp o1 dp n) u i = ze G A u i := by
  cases u with
  | inl ci => simp [ze, zfs, hcpy, h]
  | inr q =>
    obtain ⟨t, m⟩ := q
    unfold ze zar
    simp [hcpy, h]
theorem hcpy_hp {o0 sp o1 dp n : Nat} {t : ZS} {H1 : Heap} {va : va_E} (ho : A.1[o1]? = some t) (hr : zrange A) (h3 : A.2.2.2 = false) (h4 : A.1.length ≤ 1000000) (hx : ∀ j k, zc A o0 j = zc A o1 k) (he : ze G (hcpy A o0 sp o1 dp n) t o1 = va) (h : va_P G.2.1 vwCl ((zws G A).set o1 (G.1 + o1, va)) H1) : Hp G (hcpy A o0 sp o1 dp n) H1 := by
  refine ⟨?_, fun i j => ?_, fun h => ?_, h4⟩
  · rw [zws_upd (B := hcpy A o0 sp o1 dp n) (A := A) rfl ho (fun i u hi => hcpy_ze hi), he]
    exact h
  · rw [zc_upd (B := hcpy A o0 sp o1 dp n) (A := A) rfl]
    show zr _ (if i = o1 ∧ dp ≤ j ∧ j < dp + n then A.2.1 o0 (sp + (j - dp)) else A.2.1 i j)
    split
    · rename_i e
      rw [e.1, ← hx (sp + (j - dp))]
      exact hr _ _
    · exact hr i j
  · have h : A.2.2.2 = true := h
    rw [h3] at h
    cases h
theorem Z_copyI {idx o0 o1 n0 n1 : Nat} {sp dp n : Int} (hd : decode M.2.1 pc = .ok (.invokestatic idx, 3)) (h1 : Cond.methodLink M.1.cls idx arraycopyName ∈ zw) (h2 : Cond.native arraycopyName ∈ zw) (h3 : Cond.static arraycopyName ∈ zw) (h4 : Cond.initialized "java/lang/System" ∈ zw) (hop : A.2.2.2 = false) (ho0 : A.1[o0]? = some (.inr (0, n0))) (ho1 : A.1[o1]? = some (.inr (0, n1))) (hsp : 0 ≤ sp) (hdp : 0 ≤ dp) (hn : 0 ≤ n) (hb0 : sp + n ≤ n0) (hb1 : dp + n ≤ n1) (hsz : zsz S ≤ 8)
    (kk : Z G M d bc bs (pc + 3) L S (hcpy A o0 sp.toNat o1 dp.toNat n.toNat) K) : Z G M d bc bs pc L (vi n :: vi dp :: vr (some o1) :: vi sp :: vr (some o0) :: S) A K := by
  intro p l e R s m args below meth c H locs cells slots ls mc ms A0 hC hX hH hA hS hl hL hSt hc hs
  have hts := hC.2.2.2.2.1
  have hR : R = zroom d mc ms := hC.2.2.2.2.2.2.2.2
  have z1 := (zin_cons.mp hSt).1
  have z2 := (zin_cons.mp (zin_cons.mp hSt).2).1
  have hS3 := (zin_cons.mp (zin_cons.mp (zin_cons.mp hSt).2).2).2
  have z3 := (zin_cons.mp hS3).1
  have hS4 := (zin_cons.mp (zin_cons.mp hS3).2).2
  rw [List.map_cons, List.map_cons, List.map_cons, List.map_cons, List.map_cons, cv_rf, cv_rf, adr_of hH ho0, adr_of hH ho1]
  have he0 := zws_get (G := G) ho0
  have he1 := zws_get (G := G) ho1
  have hD := zD (G := G) hA
  have neg : ∀ {z : Int}, zv (vi z) → 0 ≤ z → ¬ Int32.ofInt z < 0 := fun {z} hz h0 h => by
    have h1 : Int32.ofInt z < Int32.ofInt 0 := h
    rw [zlt hz z0] at h1
    omega
  refine va_copyi hC.1 hC.2.1 (hC.2.2.1.trans hl.1.symm) hC.2.2.2.1 (hts _ h1) (hts _ h2) (hts _ h3) (hts _ h4) hX.1 hH.1 hD hS o0 o1 0 0 he0 he1 rfl rfl rfl (neg z3 hsp) (neg z2 hdp) (neg z1 hn) (by rw [zclamp z3, zclamp z1]; omega) (by rw [zclamp z2, zclamp z1]; omega) (fun i _ => rfl) (by rw [hR]; show 1 ≤ d + 1; omega) (by rw [hR, zsz_of]; show zsz S + (7 + 11) ≤ 100 * d + 100; omega) hd (fun H1 locs1 hP1 hD1 hS1 => ?_)
  rw [zclamp z3, zclamp z2, zclamp z1] at hP1
  refine kk p l e R s m args below meth c H1 locs1 cells slots ls mc ms A0 hC hX (hcpy_hp ho1 hH.2.1 hop hH.2.2.2 (fun j k => by unfold zc; rw [ho0, ho1]) ?_ hP1) hA hS1 hl hL hS4 hc hs
  show (Sum.inl (G.2.2.1 0, ((n1, .inl (fun k => Int32.ofInt ((hcpy A o0 sp.toNat o1 dp.toNat n.toNat).2.1 o1 k))) : vp_A)) : va_E) = _
  have hfe : (fun k => Int32.ofInt ((hcpy A o0 sp.toNat o1 dp.toNat n.toNat).2.1 o1 k)) = va_cpy (fun k => Int32.ofInt (A.2.1 o0 k)) (fun k => Int32.ofInt (A.2.1 o1 k)) sp.toNat dp.toNat n.toNat := by
    funext k
    unfold va_cpy hcpy
    simp only [true_and]
    split <;> rfl
  rw [hfe]
theorem Z_copyL {idx o0 o1 n0 n1 : Nat} {sp dp n : Int} (hd : decode M.2.1 pc = .ok (.invokestatic idx, 3)) (h1 : Cond.methodLink M.1.cls idx arraycopyName ∈ zw) (h2 : Cond.native arraycopyName ∈ zw) (h3 : Cond.static arraycopyName ∈ zw) (h4 : Cond.initialized "java/lang/System" ∈ zw) (hop : A.2.2.2 = false) (ho0 : A.1[o0]? = some (.inr (1, n0))) (ho1 : A.1[o1]? = some (.inr (1, n1))) (hsp : 0 ≤ sp) (hdp : 0 ≤ dp) (hn : 0 ≤ n) (hb0 : sp + n ≤ n0) (hb1 : dp + n ≤ n1) (hsz : zsz S ≤ 8)
    (kk : Z G M d bc bs (pc + 3) L S (hcpy A o0 sp.toNat o1 dp.toNat n.toNat) K) : Z G M d bc bs pc L (vi n :: vi dp :: vr (some o1) :: vi sp :: vr (some o0) :: S) A K := by
  intro p l e R s m args below meth c H locs cells slots ls mc ms A0 hC hX hH hA hS hl hL hSt hc hs
  have hts := hC.2.2.2.2.1
  have hR : R = zroom d mc ms := hC.2.2.2.2.2.2.2.2
  have z1 := (zin_cons.mp hSt).1
  have z2 := (zin_cons.mp (zin_cons.mp hSt).2).1
  have hS3 := (zin_cons.mp (zin_cons.mp (zin_cons.mp hSt).2).2).2
  have z3 := (zin_cons.mp hS3).1
  have hS4 := (zin_cons.mp (zin_cons.mp hS3).2).2
  rw [List.map_cons, List.map_cons, List.map_cons, List.map_cons, List.map_cons, cv_rf, cv_rf, adr_of hH ho0, adr_of hH ho1]
  have he0 := zws_get (G := G) ho0
  have he1 := zws_get (G := G) ho1
  have hD := zD (G := G) hA
  have neg : ∀ {z : Int}, zv (vi z) → 0 ≤ z → ¬ Int32.ofInt z < 0 := fun {z} hz h0 h => by
    have h1 : Int32.ofInt z < Int32.ofInt 0 := h
    rw [zlt hz z0] at h1
    omega
  refine va_copyl hC.1 hC.2.1 (hC.2.2.1.trans hl.1.symm) hC.2.2.2.1 (hts _ h1) (hts _ h2) (hts _ h3) (hts _ h4) hX.1 hH.1 hD hS o0 o1 1 1 he0 he1 rfl rfl rfl (neg z3 hsp) (neg z2 hdp) (neg z1 hn) (by rw [zclamp z3, zclamp z1]; omega) (by rw [zclamp z2, zclamp z1]; omega) (fun i _ => rfl) (by rw [hR]; show 1 ≤ d + 1; omega) (by rw [hR, zsz_of]; show zsz S + (7 + 11) ≤ 100 * d + 100; omega) hd (fun H1 locs1 hP1 hD1 hS1 => ?_)
  rw [zclamp z3, zclamp z2, zclamp z1] at hP1
  refine kk p l e R s m args below meth c H1 locs1 cells slots ls mc ms A0 hC hX (hcpy_hp ho1 hH.2.1 hop hH.2.2.2 (fun j k => by unfold zc; rw [ho0, ho1]) ?_ hP1) hA hS1 hl hL hS4 hc hs
  show (Sum.inl (G.2.2.1 1, ((n1, .inr (.inl (fun k => Int64.ofInt ((hcpy A o0 sp.toNat o1 dp.toNat n.toNat).2.1 o1 k)))) : vp_A)) : va_E) = _
  have hfe : (fun k => Int64.ofInt ((hcpy A o0 sp.toNat o1 dp.toNat n.toNat).2.1 o1 k)) = va_cpy (fun k => Int64.ofInt (A.2.1 o0 k)) (fun k => Int64.ofInt (A.2.1 o1 k)) sp.toNat dp.toNat n.toNat := by
    funext k
    unfold va_cpy hcpy
    simp only [true_and]
    split <;> rfl
  rw [hfe]
theorem Z_max {idx : Nat} {x y : Int} (hd : decode M.2.1 pc = .ok (.invokestatic idx, 3)) (h1 : Cond.methodLink M.1.cls idx Lib.Math.max.name ∈ zw) (h2 : Cond.static Lib.Math.max.name ∈ zw) (h3 : Cond.initialized "java/lang/Math" ∈ zw) (h4 : Cond.code Lib.Math.max.name Lib.Math.max.code 2 (some .int) ∈ zw) (hsz : zsz S ≤ 8) (kk : Z G M d bc bs (pc + 3) L (vi (max x y) :: S) A K) : Z G M d bc bs pc L (vi y :: vi x :: S) A K := by
  intro p l e R s m args below meth c H locs cells slots ls mc ms A0 hC hX hH hA hS hl hL hSt hc hs
  have hts := hC.2.2.2.2.1
  have hR : R = zroom d mc ms := hC.2.2.2.2.2.2.2.2
  have hy0 := (zin_cons.mp hSt).1
  have hx0 := (zin_cons.mp (zin_cons.mp hSt).2).1
  have hS1 := (zin_cons.mp (zin_cons.mp hSt).2).2
  have ha := zv_vi.mp hx0
  have hb := zv_vi.mp hy0
  have hrr : zv (vi (max x y)) := zv_vi.mpr ⟨by omega, by omega⟩
  have w := kk p l e R s m args below meth c H locs cells slots ls mc ms A0 hC hX hH hA hS hl hL (zin_cons.mpr ⟨hrr, hS1⟩) hc hs
  rw [List.map_cons, cv_vi] at w
  refine va_mmax hC.1 hC.2.1 (hC.2.2.1.trans hl.1.symm) hC.2.2.2.1 (hts _ h1) (hts _ h2) (hts _ h3) (hts _ h4) (by rw [hR]; show 1 ≤ d + 1; omega) (by rw [hR, zsz_of]; show zsz S + 13 ≤ 100 * d + 100; omega) (by rw [hR]; show cells ≤ mc; omega) (by rw [hR]; show slots ≤ ms; omega) hd ?_
  by_cases h : x < y
  · rw [if_pos (by rw [zlt hx0 hy0]; exact h)]; rw [show max x y = y by omega] at w; exact w
  · rw [if_neg (by rw [zlt hx0 hy0]; exact h)]; rw [show max x y = x by omega] at w; exact w
theorem Z_min {idx : Nat} {x y : Int} (hd : decode M.2.1 pc = .ok (.invokestatic idx, 3)) (h1 : Cond.methodLink M.1.cls idx Lib.Math.min.name ∈ zw) (h2 : Cond.static Lib.Math.min.name ∈ zw) (h3 : Cond.initialized "java/lang/Math" ∈ zw) (h4 : Cond.code Lib.Math.min.name Lib.Math.min.code 2 (some .int) ∈ zw) (hsz : zsz S ≤ 8) (kk : Z G M d bc bs (pc + 3) L (vi (min x y) :: S) A K) : Z G M d bc bs pc L (vi y :: vi x :: S) A K := by
  intro p l e R s m args below meth c H locs cells slots ls mc ms A0 hC hX hH hA hS hl hL hSt hc hs
  have hts := hC.2.2.2.2.1
  have hR : R = zroom d mc ms := hC.2.2.2.2.2.2.2.2
  have hy0 := (zin_cons.mp hSt).1
  have hx0 := (zin_cons.mp (zin_cons.mp hSt).2).1
  have hS1 := (zin_cons.mp (zin_cons.mp hSt).2).2
  have ha := zv_vi.mp hx0
  have hb := zv_vi.mp hy0
  have hrr : zv (vi (min x y)) := zv_vi.mpr ⟨by omega, by omega⟩
  have w := kk p l e R s m args below meth c H locs cells slots ls mc ms A0 hC hX hH hA hS hl hL (zin_cons.mpr ⟨hrr, hS1⟩) hc hs
  rw [List.map_cons, cv_vi] at w
  refine va_mmin hC.1 hC.2.1 (hC.2.2.1.trans hl.1.symm) hC.2.2.2.1 (hts _ h1) (hts _ h2) (hts _ h3) (hts _ h4) (by rw [hR]; show 1 ≤ d + 1; omega) (by rw [hR, zsz_of]; show zsz S + 13 ≤ 100 * d + 100; omega) (by rw [hR]; show cells ≤ mc; omega) (by rw [hR]; show slots ≤ ms; omega) hd ?_
  by_cases h : y < x
  · rw [if_pos (by rw [zlt hy0 hx0]; exact h)]; rw [show min x y = y by omega] at w; exact w
  · rw [if_neg (by rw [zlt hy0 hx0]; exact h)]; rw [show min x y = x by omega] at w; exact w
def zabs (x : Int) : Int := if 0 ≤ x then x else -x
theorem Z_abs {idx : Nat} {x : Int} (hd : decode M.2.1 pc = .ok (.invokestatic idx, 3)) (h1 : Cond.methodLink M.1.cls idx Lib.Math.abs.name ∈ zw) (h2 : Cond.static Lib.Math.abs.name ∈ zw) (h3 : Cond.initialized "java/lang/Math" ∈ zw) (h4 : Cond.code Lib.Math.abs.name Lib.Math.abs.code 1 (some .int) ∈ zw) (hm : -2147483647 ≤ x) (hsz : zsz S ≤ 8) (kk : Z G M d bc bs (pc + 3) L (vi (zabs x) :: S) A K) : Z G M d bc bs pc L (vi x :: S) A K := by
  intro p l e R s m args below meth c H locs cells slots ls mc ms A0 hC hX hH hA hS hl hL hSt hc hs
  have hts := hC.2.2.2.2.1
  have hR : R = zroom d mc ms := hC.2.2.2.2.2.2.2.2
  have hx0 := (zin_cons.mp hSt).1
  have hS1 := (zin_cons.mp hSt).2
  have ha := zv_vi.mp hx0
  have hrr : zv (vi (zabs x)) := by
    unfold zabs
    split
    · exact hx0
    · exact zv_vi.mpr ⟨by omega, by omega⟩
  have w := kk p l e R s m args below meth c H locs cells slots ls mc ms A0 hC hX hH hA hS hl hL (zin_cons.mpr ⟨hrr, hS1⟩) hc hs
  rw [List.map_cons, cv_vi] at w
  refine va_mabs hC.1 hC.2.1 (hC.2.2.1.trans hl.1.symm) hC.2.2.2.1 (hts _ h1) (hts _ h2) (hts _ h3) (hts _ h4) (by rw [hR]; show 1 ≤ d + 1; omega) (by rw [hR, zsz_of]; show zsz S + 13 ≤ 100 * d + 100; omega) (by rw [hR]; show cells ≤ mc; omega) (by rw [hR]; show slots ≤ ms; omega) hd ?_
  have e0 : ((0 : Int32) ≤ Int32.ofInt x) = (0 ≤ x) := zle z0 hx0
  unfold zabs at w
  by_cases h : 0 ≤ x
  · rw [if_pos (by rw [e0]; exact h)]; rw [if_pos h] at w; exact w
  · rw [if_neg (by rw [e0]; exact h)]; rw [if_neg h, Int32.ofInt_neg] at w; rw [show (0 : Int32) - Int32.ofInt x = - Int32.ofInt x by simp]; exact w
end ZS0
