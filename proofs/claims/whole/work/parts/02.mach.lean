/-! ===== THE ABSTRACT MACHINE: ints are whole numbers within their range, cells are numbered from the world's base on ===== -/
abbrev ZM : Type := MethodName × ByteArray × Nat × Option FieldType
abbrev AV : Type := Int ⊕ (Int ⊕ (Option Nat ⊕ Unit))
def vi (x : Int) : AV := .inl x
def vl (x : Int) : AV := .inr (.inl x)
def vr (x : Option Nat) : AV := .inr (.inr (.inl x))
def vu : AV := .inr (.inr (.inr ()))
abbrev ZS : Type := Nat ⊕ (Nat × Nat)
abbrev AH : Type := List ZS × ((Nat → Nat → Int) × ((Nat → Nat → Option Nat) × Bool))
abbrev ZG : Type := Nat × (va_G × ((Nat → ClassId) × (Nat → Nat)))
/-- where a reference leads: into the world, or (from 1000000 on) to a String constant -/
def adr (G : ZG) (j : Nat) : Nat := if j < 1000000 then G.1 + j else G.2.2.2 (j - 1000000)
def cv (G : ZG) (v : AV) : Value := match v with
  | .inl x => .int (Int32.ofInt x)
  | .inr (.inl x) => .long (Int64.ofInt x)
  | .inr (.inr (.inl r)) => va_rf (r.map (adr G))
  | .inr (.inr (.inr _)) => .null
def isu (v : AV) : Bool := match v with
  | .inr (.inr (.inr _)) => true
  | _ => false
def isl (v : AV) : Bool := match v with
  | .inr (.inl _) => true
  | _ => false
/-- a number of a kind: 0 int, 1 long, 2 byte, 3 boolean -/
def zr (c : Nat) (x : Int) : Prop := match c with
  | 0 => -2147483648 ≤ x ∧ x ≤ 2147483647
  | 1 => -9223372036854775808 ≤ x ∧ x ≤ 9223372036854775807
  | 2 => -128 ≤ x ∧ x ≤ 127
  | 3 => 0 ≤ x ∧ x ≤ 1
  | _ => True
def zv (v : AV) : Prop := match v with
  | .inl x => -2147483648 ≤ x ∧ x ≤ 2147483647
  | .inr (.inl x) => -9223372036854775808 ≤ x ∧ x ≤ 9223372036854775807
  | _ => True
def zin (L : List AV) : Prop := ∀ v ∈ L, zv v
theorem zin_nil : zin [] := fun _ h => by cases h
theorem zin_cons {v : AV} {L : List AV} : zin (v :: L) ↔ zv v ∧ zin L := by
  constructor
  · exact fun h => ⟨h v List.mem_cons_self, fun w hw => h w (List.mem_cons_of_mem _ hw)⟩
  · rintro ⟨h1, h2⟩ w hw
    rcases List.mem_cons.mp hw with rfl | hw
    · exact h1
    · exact h2 w hw
theorem zin_app {L S : List AV} : zin (L ++ S) ↔ zin L ∧ zin S := by
  constructor
  · exact fun h => ⟨fun w hw => h w (List.mem_append_left _ hw), fun w hw => h w (List.mem_append_right _ hw)⟩
  · rintro ⟨h1, h2⟩ w hw
    rcases List.mem_append.mp hw with hw | hw
    · exact h1 w hw
    · exact h2 w hw
theorem zin_set {L : List AV} {v : AV} {i : Nat} (h : zin L) (hv : zv v) : zin (L.set i v) := by
  intro w hw
  rcases List.mem_or_eq_of_mem_set hw with h1 | h1
  · exact h w h1
  · rw [h1]; exact hv
def zty (ci : Nat) : Nat → FieldType := match ci with
  | 0 => tyX0 | 1 => tyX1 | 2 => tyX2 | 3 => tyX3 | 4 => tyX4 | 5 => tyX5 | 6 => tyX6 | 7 => tyX7 | 8 => tyX8 | 9 => tyX9 | 10 => tyX10 | 11 => tyX11 | _ => tyX12
def zN (ci : Nat) : Nat := match ci with
  | 0 => 11 | 1 => 8 | 2 => 4 | 3 => 5 | 4 => 3 | 5 => 11 | 6 => 14 | 7 => 9 | 8 => 4 | 9 => 13 | 10 => 3 | 11 => 18 | _ => 86
def ftc (t : FieldType) : Nat := match t with
  | .long => 1
  | .byte => 2
  | .boolean => 3
  | .int => 0
  | .object _ => 4
  | .array _ => 4
  | _ => 5
def fv (G : ZG) (c : Nat) (x : Int) (r : Option Nat) : Value := match c with
  | 1 => .long (Int64.ofInt x)
  | 4 => va_rf (r.map (adr G))
  | _ => .int (Int32.ofInt x)
/-- the kind of what lies at a place of a cell -/
def zc (A : AH) (id k : Nat) : Nat := match A.1[id]? with
  | some (.inl ci) => ftc (zty ci k)
  | some (.inr q) => q.1
  | none => 5
def zfs (G : ZG) (A : AH) (ci id : Nat) : List Value := (List.range (zN ci)).map (fun k => fv G (ftc (zty ci k)) (A.2.1 id k) (A.2.2.1 id k))
def zar (G : ZG) (A : AH) (t n id : Nat) : vp_A := match t with
  | 1 => (n, .inr (.inl (fun k => Int64.ofInt (A.2.1 id k))))
  | 0 => (n, .inl (fun k => Int32.ofInt (A.2.1 id k)))
  | 2 => (n, .inl (fun k => Int32.ofInt (A.2.1 id k)))
  | 3 => (n, .inl (fun k => Int32.ofInt (A.2.1 id k)))
  | _ => (n, .inr (.inr (.inr (.inr (fun k => (A.2.2.1 id k).map (adr G))))))
def ze (G : ZG) (A : AH) (s : ZS) (id : Nat) : va_E := match s with
  | .inl ci => .inr (ci, zfs G A ci id)
  | .inr q => .inl (G.2.2.1 q.1, zar G A q.1 q.2 id)
def zws (G : ZG) (A : AH) : va_W := A.1.mapIdx (fun id s => (G.1 + id, ze G A s id))
def zrange (A : AH) : Prop := ∀ id k, zr (zc A id k) (A.2.1 id k)
def ztys (G : ZG) : List (ClassId × FieldType) := [(G.2.2.1 0, .int), (G.2.2.1 1, .long), (G.2.2.1 2, .byte), (G.2.2.1 3, .boolean), (G.2.2.1 4, .object "DiscCutter$Tray"), (G.2.2.1 5, .object "DiscCutter$Side"), (G.2.2.1 6, .object "DiscCutter$Step")]
/-- the heap holds the world -/
def Hp (G : ZG) (A : AH) (H : Heap) : Prop := va_P G.2.1 vwCl (zws G A) H ∧ zrange A ∧ (A.2.2.2 = true → H.size = G.1 + A.1.length) ∧ A.1.length ≤ 1000000
def Af (A0 A : AH) : Prop := A0.2.2.2 = A.2.2.2 ∧ (A.2.2.2 = false → A0.1.length = A.1.length) ∧ A0.1.length ≤ A.1.length
/-- which cells may change -/
def zA (G : ZG) (A0 : AH) (q : Nat) : Prop := G.1 ≤ q ∧ (A0.2.2.2 = true ∨ q < G.1 + A0.1.length)
def zroom (d mc ms : Nat) : Room := { frames := d + 1, cells := mc, slots := ms, locals := 100 * d + 100 }
/-- the texts of the String constants -/
def zstr : List (List Int32) := [[115, 105, 100, 101], [108, 101, 97, 100], [115, 111, 110, 103], [108, 111, 99, 107], [109, 97, 114, 107], [97, 103, 97, 105, 110], [119, 104, 101, 110], [101, 108, 115, 101], [102, 114, 111, 109], [116, 111], [115, 111, 102, 116], [102, 97, 100, 101], [104, 97, 118, 101], [112, 97, 114, 116, 115], [114, 111, 111, 109]]
def St1 (B : Nat → Prop) (tx : List Int32) (a v : Nat) (U : State) (H : Heap) : Prop := va_O "java/lang/String" a B U H ∧ va_OF "java/lang/String" "coder" "B" (.int 0) a B U H ∧ va_OF "java/lang/String" "value" "[B" (.ref v) a B U H ∧ va_T .byte v tx.length (fun j => .int (tx.getD j 0)) B U H
def znest : List (String × Nat × MethodName × String) := [(RX6, 17, yX9_init, RX11), (RX10, 28, yX11_within, RX11), (RX8, 25, yX11_within, RX11), (RX2, 33, yX11_clear, RX11), (RX7, 92, yX11_within, RX11), (RX0, 69, yX11_clear, RX11), (RX0, 103, yX11_within, RX11), (RX6, 192, yX11_within, RX11), (RX5, 167, yX11_within, RX11)]
def zstrs : List (String × Nat × String × Nat) := [(RX6, 145, "side", 0), (RX6, 147, "lead", 1), (RX6, 149, "song", 2), (RX6, 151, "lock", 3), (RX6, 153, "mark", 4), (RX6, 155, "again", 5), (RX6, 157, "when", 6), (RX6, 123, "else", 7), (RX6, 159, "from", 8), (RX6, 167, "to", 9), (RX6, 171, "soft", 10), (RX6, 175, "fade", 11), (RX6, 179, "have", 12), (RX6, 184, "parts", 13), (RX6, 186, "room", 14), (RX12, 410, "side", 0), (RX12, 416, "lead", 1), (RX12, 418, "song", 2), (RX12, 420, "lock", 3), (RX12, 422, "mark", 4), (RX12, 424, "again", 5), (RX12, 426, "when", 6), (RX12, 465, "else", 7), (RX12, 460, "from", 8), (RX12, 461, "to", 9), (RX12, 463, "soft", 10), (RX12, 464, "fade", 11), (RX12, 458, "have", 12), (RX12, 455, "parts", 13), (RX12, 456, "room", 14)]
/-- what the tables, and the cells that nobody writes, say -/
def Cx (G : ZG) (U : State) (H : Heap) : Prop := va_K G.2.1 vwCl (ztys G) U ∧ (va_AO "DiscCutter$Tray" U ∧ va_AO "DiscCutter$Side" U ∧ va_AO "DiscCutter$Step" U) ∧ (∀ q ∈ znest, va_Nw (.methodLinkNest q.1 q.2.1 q.2.2.1 q.2.2.2) U) ∧ (∀ q ∈ zstrs, vk_R q.1 q.2.1 q.2.2.1 (G.2.2.2 q.2.2.2) U) ∧ (∀ (i : Nat) (tx : List Int32), zstr[i]? = some tx → St1 (fun q => G.1 ≤ q) tx (G.2.2.2 i) (G.2.2.2 (1000000 + i)) U H) ∧ va_Z "java/lang/String" "COMPACT_STRINGS" "Z" (.int 1) (fun q => G.1 ≤ q) U H ∧ (va_Z "jdk/internal/util/Preconditions" "SIOOBE_FORMATTER" "Ljava/util/function/BiFunction;" .null (fun q => G.1 ≤ q) U H ∨ va_Z "jdk/internal/util/Preconditions" "SIOOBE_FORMATTER" "Ljava/util/function/BiFunction;" (.ref (G.2.2.2 2000000)) (fun q => G.1 ≤ q) U H)
theorem Cx.warm {G : ZG} {s U : State} {H : Heap} (hW : s.WarmedH U.vm) (h : Cx G s H) : Cx G U H := by
  obtain ⟨h1, ⟨h2, h3, h4⟩, h5, h6, h7, h8, h9⟩ := h
  refine ⟨va_K.moved hW.alike h1, ⟨h2.moved hW.alike, h3.moved hW.alike, h4.moved hW.alike⟩, fun q hq => va_Nw.warmM hW (h5 q hq), fun q hq => vk_R.warm hW (h6 q hq), fun i tx hi => ?_, va_Z.moved hW.alike h8, h9.imp (va_Z.moved hW.alike) (va_Z.moved hW.alike)⟩
  obtain ⟨a1, a2, a3, a4⟩ := h7 i tx hi
  exact ⟨va_O.moved hW.alike a1, va_OF.moved hW.alike a2, va_OF.moved hW.alike a3, va_T.moved hW.alike a4⟩
theorem Cx.kept {G : ZG} {U : State} {H H1 : Heap} (h : Cx G U H) (hq : ∀ a : Nat, a < H.size → ¬ G.1 ≤ a → H1[a]? = H[a]?) : Cx G U H1 := by
  obtain ⟨h1, h2, h5, h6, h7, h8, h9⟩ := h
  refine ⟨h1, h2, h5, h6, fun i tx hi => ?_, h8.kept hq, h9.imp (fun z => z.kept hq) (fun z => z.kept hq)⟩
  obtain ⟨a1, a2, a3, a4⟩ := h7 i tx hi
  exact ⟨a1.kept hq, a2.kept hq, a3.kept hq, a4.kept hq⟩
def ZC (M : ZM) (d mc ms : Nat) (p : Program) (R : Room) (s : State) (m : MethodId) (args : Array Value) (meth : Method) (c : Code) : Prop := p.tables.exec = Jvm.exec ∧ c.code = M.2.1 ∧ c.maxLocals = M.2.2.1 ∧ s.vm.findClass M.1.cls = some m.cls ∧ (∀ w ∈ zw, w.before args s = true) ∧ meth.locks = false ∧ meth.sig.returnType = M.2.2.2 ∧ meth.name = M.1.name ∧ R = zroom d mc ms
def ZQ (G : ZG) (A0 : AH) (K : Option AV → AH → Prop) : Array Value → State → Outcome → State → Prop := fun _ st oc t => (∃ (r : Option AV) (A1 : AH), oc = .returned (r.map (cv G)) ∧ zin r.toList ∧ K r A1 ∧ Hp G A1 t.heap ∧ Af A0 A1) ∧ va_F (zA G A0) st t
def zl (G : ZG) (L : List AV) : List (Nat × Value) := (List.range L.length).filterMap (fun i => match L[i]? with
  | some v => if isu v then none else some (i, cv G v)
  | none => none)
theorem zl_mem {G : ZG} {L : List AV} {q : Nat × Value} : q ∈ zl G L ↔ ∃ v, L[q.1]? = some v ∧ isu v = false ∧ q.2 = cv G v := by
  unfold zl
  rw [List.mem_filterMap]
  constructor
  · rintro ⟨i, hi, h⟩
    cases hv : L[i]? with
    | none => rw [hv] at h; cases h
    | some v =>
      rw [hv] at h
      dsimp only at h
      by_cases hu : isu v = true
      · rw [if_pos hu] at h; cases h
      · rw [if_neg hu] at h
        cases h
        exact ⟨v, hv, by simpa using hu, rfl⟩
  · rintro ⟨v, h1, h2, h3⟩
    refine ⟨q.1, List.mem_range.mpr (List.getElem?_eq_some_iff.mp h1).1, ?_⟩
    rw [h1]
    dsimp only
    rw [if_neg (by rw [h2]; decide), ← h3]
/-- THE JUDGEMENT: method M, from pc on, with these locals, this stack and this world, returns, and what it answers and leaves meets K; d frames deeper calls may go; bc cells of bs slots may be made -/
def Z (G : ZG) (M : ZM) (d bc bs pc : Nat) (L S : List AV) (A : AH) (K : Option AV → AH → Prop) : Prop :=
  ∀ (p : Program) (l : Launch) (e : Env) (R : Room) (s : State) (m : MethodId) (args : Array Value) (below : List Frame) (meth : Method) (c : Code) (H : Heap) (locs : List Loc) (cells slots : Nat) (ls : Array Slot) (mc ms : Nat) (A0 : AH),
    ZC M d mc ms p R s m args meth c → Cx G s s.heap → Hp G A H → Af A0 A → va_S (zA G A0) s.heap H locs → lv_has ls M.2.2.1 (zl G L) → zin L → zin S → cells + bc ≤ mc → slots + bs ≤ ms →
    W p l e R s m args below meth c H locs cells slots (MQ below (ZQ G A0 K) args s mc ms (zA G A0)) (F0 m pc ls (S.map (cv G)))
section ZR
variable {G : ZG} {M : ZM} {d bc bs pc : Nat} {L S : List AV} {A : AH} {K : Option AV → AH → Prop}
theorem cv_vi {x : Int} : cv G (vi x) = .int (Int32.ofInt x) := rfl
theorem cv_vl {x : Int} : cv G (vl x) = .long (Int64.ofInt x) := rfl
theorem zv_vi {x : Int} : zv (vi x) ↔ -2147483648 ≤ x ∧ x ≤ 2147483647 := Iff.rfl
theorem zv_vl {x : Int} : zv (vl x) ↔ -9223372036854775808 ≤ x ∧ x ≤ 9223372036854775807 := Iff.rfl
theorem zt {x : Int} (h : -2147483648 ≤ x ∧ x ≤ 2147483647) : (Int32.ofInt x).toInt = x := Int32.toInt_ofInt_of_le (by omega) (by omega)
theorem ztl {x : Int} (h : -9223372036854775808 ≤ x ∧ x ≤ 9223372036854775807) : (Int64.ofInt x).toInt = x := Int64.toInt_ofInt_of_le (by omega) (by omega)
theorem z32 (x : Int32) : -2147483648 ≤ x.toInt ∧ x.toInt ≤ 2147483647 := ⟨by have := x.le_toInt; omega, by have := x.toInt_lt; omega⟩
theorem z64 (x : Int64) : -9223372036854775808 ≤ x.toInt ∧ x.toInt ≤ 9223372036854775807 := ⟨by have := x.le_toInt; omega, by have := x.toInt_lt; omega⟩
/-- a step that only works on the stack -/
theorem Z.st {n : Nat} {S' : List AV} (k : Z G M d bc bs (pc + n) L S' A K) (hz : zin L → zin S → zin S')
    (h : ∀ (p : Program) (l : Launch) (e : Env) (R : Room) (s : State) (m : MethodId) (args : Array Value) (below : List Frame) (meth : Method) (c : Code) (H : Heap) (locs : List Loc) (cells slots : Nat) (ls : Array Slot) (Q : State → Prop), p.tables.exec = Jvm.exec → c.code = M.2.1 → zin S → (∀ q ∈ zl G L, ls[q.1]? = some (.val q.2)) →
      W p l e R s m args below meth c H locs cells slots Q (F0 m (pc + n) ls (S'.map (cv G))) → W p l e R s m args below meth c H locs cells slots Q (F0 m pc ls (S.map (cv G)))) : Z G M d bc bs pc L S A K := by
  intro p l e R s m args below meth c H locs cells slots ls mc ms A0 hC hX hH hA hS hl hL hSt hc hs
  exact h p l e R s m args below meth c H locs cells slots ls _ hC.1 hC.2.1 hSt hl.2.2 (k p l e R s m args below meth c H locs cells slots ls mc ms A0 hC hX hH hA hS hl hL (hz hL hSt) hc hs)
theorem Z_iconst {n : Int} (hd : decode M.2.1 pc = .ok (.iconst n, 1)) (hn : -2147483648 ≤ n ∧ n ≤ 2147483647) (k : Z G M d bc bs (pc + 1) L (vi n :: S) A K) : Z G M d bc bs pc L (S) A K :=
  Z.st k (fun _ h => zin_cons.mpr ⟨hn, h⟩) (fun _ _ _ _ _ _ _ _ _ _ _ _ _ _ _ _ hx hb hz q w => lv_iconst hx hb hd rfl w)
theorem Z_bipush {n : Int} (hd : decode M.2.1 pc = .ok (.bipush n, 2)) (hn : -128 ≤ n ∧ n ≤ 127) (k : Z G M d bc bs (pc + 2) L (vi n :: S) A K) : Z G M d bc bs pc L (S) A K :=
  Z.st k (fun _ h => zin_cons.mpr ⟨zv_vi.mpr ⟨by omega, by omega⟩, h⟩) (fun _ _ _ _ _ _ _ _ _ _ _ _ _ _ _ _ hx hb hz q w => lv_bipush hx hb hd (Int32.toInt_inj.1 (by rw [Int8.toInt_toInt32, Int8.toInt_ofInt_of_le (by omega) (by omega), zt ⟨by omega, by omega⟩])) w)
theorem Z_sipush {n : Int} (hd : decode M.2.1 pc = .ok (.sipush n, 3)) (hn : -32768 ≤ n ∧ n ≤ 32767) (k : Z G M d bc bs (pc + 3) L (vi n :: S) A K) : Z G M d bc bs pc L (S) A K :=
  Z.st k (fun _ h => zin_cons.mpr ⟨zv_vi.mpr ⟨by omega, by omega⟩, h⟩) (fun _ _ _ _ _ _ _ _ _ _ _ _ _ _ _ _ hx hb hz q w => lv_sipush hx hb hd (Int32.toInt_inj.1 (by rw [Int16.toInt_toInt32, Int16.toInt_ofInt_of_le (by omega) (by omega), zt ⟨by omega, by omega⟩])) w)
theorem Z_lconst {n : Fin 2} {v : Int} (hd : decode M.2.1 pc = .ok (.lconst n, 1)) (hv : ((n : Nat) : Int) = v) (k : Z G M d bc bs (pc + 1) L (vl v :: S) A K) : Z G M d bc bs pc L S A K := by
  subst hv
  refine Z.st k (fun _ h => zin_cons.mpr ⟨zv_vl.mpr ⟨by omega, by omega⟩, h⟩) (fun _ _ _ _ _ _ _ _ _ _ _ _ _ _ _ _ hx hb _ _ w => lv_lconst hx hb hd ?_ w)
  match n with
  | 0 => rfl
  | 1 => rfl
theorem Z_iload_n {i : Fin 4} {x : Int} (hd : decode M.2.1 pc = .ok (.iload_n i, 1)) (hl : L[(i : Nat)]? = some (vi x)) (k : Z G M d bc bs (pc + 1) L (vi x :: S) A K) : Z G M d bc bs pc L (S) A K :=
  Z.st k (fun h1 h => zin_cons.mpr ⟨h1 _ (List.mem_of_getElem? hl), h⟩) (fun _ _ _ _ _ _ _ _ _ _ _ _ _ _ _ _ hx hb hz q w => lv_iload_n hx hb hd rfl (q ((i : Nat), cv G (vi x)) (zl_mem.mpr ⟨_, hl, rfl, rfl⟩)) w)
theorem Z_iload {i : Nat} {x : Int} (hd : decode M.2.1 pc = .ok (.iload i, 2)) (hl : L[i]? = some (vi x)) (k : Z G M d bc bs (pc + 2) L (vi x :: S) A K) : Z G M d bc bs pc L (S) A K :=
  Z.st k (fun h1 h => zin_cons.mpr ⟨h1 _ (List.mem_of_getElem? hl), h⟩) (fun _ _ _ _ _ _ _ _ _ _ _ _ _ _ _ _ hx hb hz q w => lv_iload hx hb hd (q (i, cv G (vi x)) (zl_mem.mpr ⟨_, hl, rfl, rfl⟩)) w)
theorem Z_lload_n {i : Fin 4} {x : Int} (hd : decode M.2.1 pc = .ok (.lload_n i, 1)) (hl : L[(i : Nat)]? = some (vl x)) (k : Z G M d bc bs (pc + 1) L (vl x :: S) A K) : Z G M d bc bs pc L (S) A K :=
  Z.st k (fun h1 h => zin_cons.mpr ⟨h1 _ (List.mem_of_getElem? hl), h⟩) (fun _ _ _ _ _ _ _ _ _ _ _ _ _ _ _ _ hx hb hz q w => lv_lload_n hx hb hd rfl (q ((i : Nat), cv G (vl x)) (zl_mem.mpr ⟨_, hl, rfl, rfl⟩)) w)
theorem Z_lload {i : Nat} {x : Int} (hd : decode M.2.1 pc = .ok (.lload i, 2)) (hl : L[i]? = some (vl x)) (k : Z G M d bc bs (pc + 2) L (vl x :: S) A K) : Z G M d bc bs pc L (S) A K :=
  Z.st k (fun h1 h => zin_cons.mpr ⟨h1 _ (List.mem_of_getElem? hl), h⟩) (fun _ _ _ _ _ _ _ _ _ _ _ _ _ _ _ _ hx hb hz q w => lv_lload hx hb hd (q (i, cv G (vl x)) (zl_mem.mpr ⟨_, hl, rfl, rfl⟩)) w)
theorem Z_iadd {x y : Int} (hd : decode M.2.1 pc = .ok (.iadd, 1)) (hr : -2147483648 ≤ x + y ∧ x + y ≤ 2147483647) (k : Z G M d bc bs (pc + 1) L (vi (x + y) :: S) A K) : Z G M d bc bs pc L (vi y :: vi x :: S) A K :=
  Z.st k (fun _ h => zin_cons.mpr ⟨hr, (zin_cons.mp (zin_cons.mp h).2).2⟩) (fun _ _ _ _ _ _ _ _ _ _ _ _ _ _ _ _ hx hb hz q w => lv_iadd hx hb hd (by rw [← Int32.ofInt_add]; exact w))
theorem Z_isub {x y : Int} (hd : decode M.2.1 pc = .ok (.isub, 1)) (hr : -2147483648 ≤ x - y ∧ x - y ≤ 2147483647) (k : Z G M d bc bs (pc + 1) L (vi (x - y) :: S) A K) : Z G M d bc bs pc L (vi y :: vi x :: S) A K :=
  Z.st k (fun _ h => zin_cons.mpr ⟨hr, (zin_cons.mp (zin_cons.mp h).2).2⟩) (fun _ _ _ _ _ _ _ _ _ _ _ _ _ _ _ _ hx hb hz q w => lv_isub hx hb hd (by rw [← Int32.ofInt_sub]; exact w))
theorem Z_imul {x y : Int} (hd : decode M.2.1 pc = .ok (.imul, 1)) (hr : -2147483648 ≤ x * y ∧ x * y ≤ 2147483647) (k : Z G M d bc bs (pc + 1) L (vi (x * y) :: S) A K) : Z G M d bc bs pc L (vi y :: vi x :: S) A K :=
  Z.st k (fun _ h => zin_cons.mpr ⟨hr, (zin_cons.mp (zin_cons.mp h).2).2⟩) (fun _ _ _ _ _ _ _ _ _ _ _ _ _ _ _ _ hx hb hz q w => lv_imul hx hb hd (by rw [← Int32.ofInt_mul]; exact w))
/-- what an int holds of a number -/
def w32 (x : Int) : Int := (Int32.ofInt x).toInt
theorem w32_id {x : Int} (h : -2147483648 ≤ x ∧ x ≤ 2147483647) : w32 x = x := zt h
theorem w32_r (x : Int) : -2147483648 ≤ w32 x ∧ w32 x ≤ 2147483647 := z32 _
theorem w32_of (x : Int) : Int32.ofInt (w32 x) = Int32.ofInt x := Int32.ofInt_toInt _
theorem Z_iaddW {x y : Int} (hd : decode M.2.1 pc = .ok (.iadd, 1)) (k : Z G M d bc bs (pc + 1) L (vi (w32 (x + y)) :: S) A K) : Z G M d bc bs pc L (vi y :: vi x :: S) A K :=
  Z.st k (fun _ h => zin_cons.mpr ⟨w32_r _, (zin_cons.mp (zin_cons.mp h).2).2⟩) (fun _ _ _ _ _ _ _ _ _ _ _ _ _ _ _ _ hx hb hz q w => lv_iadd hx hb hd (by rw [← Int32.ofInt_add, ← w32_of]; exact w))
theorem Z_isubW {x y : Int} (hd : decode M.2.1 pc = .ok (.isub, 1)) (k : Z G M d bc bs (pc + 1) L (vi (w32 (x - y)) :: S) A K) : Z G M d bc bs pc L (vi y :: vi x :: S) A K :=
  Z.st k (fun _ h => zin_cons.mpr ⟨w32_r _, (zin_cons.mp (zin_cons.mp h).2).2⟩) (fun _ _ _ _ _ _ _ _ _ _ _ _ _ _ _ _ hx hb hz q w => lv_isub hx hb hd (by rw [← Int32.ofInt_sub, ← w32_of]; exact w))
theorem Z_imulW {x y : Int} (hd : decode M.2.1 pc = .ok (.imul, 1)) (k : Z G M d bc bs (pc + 1) L (vi (w32 (x * y)) :: S) A K) : Z G M d bc bs pc L (vi y :: vi x :: S) A K :=
  Z.st k (fun _ h => zin_cons.mpr ⟨w32_r _, (zin_cons.mp (zin_cons.mp h).2).2⟩) (fun _ _ _ _ _ _ _ _ _ _ _ _ _ _ _ _ hx hb hz q w => lv_imul hx hb hd (by rw [← Int32.ofInt_mul, ← w32_of]; exact w))
theorem zne {y : Int} (h : -2147483648 ≤ y ∧ y ≤ 2147483647) (h0 : y ≠ 0) : ¬ Int32.ofInt y = 0 := fun e => h0 (by rw [← zt h, e]; rfl)
theorem zdiv {x y : Int} (hx : -2147483648 ≤ x ∧ x ≤ 2147483647) (hy : -2147483648 ≤ y ∧ y ≤ 2147483647) (h1 : y ≠ -1) : Int32.ofInt x / Int32.ofInt y = Int32.ofInt (x.tdiv y) := by
  apply Int32.toInt_inj.1
  rw [Int32.toInt_div_of_ne_right _ _ (fun e => h1 (by rw [← zt hy, e]; rfl)), zt hx, zt hy, zt]
  have h2 : (x.tdiv y).natAbs ≤ x.natAbs := by rw [Int.natAbs_tdiv]; exact Nat.div_le_self _ _
  by_cases hm : x = -2147483648
  · subst hm
    refine ⟨by omega, ?_⟩
    rcases Int.lt_or_le y 0 with hy0 | hy0
    · have : ((-2147483648 : Int).tdiv y).natAbs ≤ 1073741824 := by
        rw [Int.natAbs_tdiv]
        exact Nat.le_trans (Nat.div_le_div_left (show 2 ≤ y.natAbs by omega) (by omega)) (by decide)
      omega
    · have : (-2147483648 : Int).tdiv y ≤ 0 := by
        rw [Int.neg_tdiv]
        have := Int.tdiv_nonneg (show (0 : Int) ≤ 2147483648 by omega) hy0
        omega
      omega
  · omega
theorem zrem {x y : Int} (hx : -2147483648 ≤ x ∧ x ≤ 2147483647) (hy : -2147483648 ≤ y ∧ y ≤ 2147483647) (h1 : y ≠ -1) : Int32.ofInt x - Int32.ofInt x / Int32.ofInt y * Int32.ofInt y = Int32.ofInt (x.tmod y) := by
  rw [zdiv hx hy h1, ← Int32.ofInt_mul, ← Int32.ofInt_sub, Int.tmod_def, Int.mul_comm y]
theorem tdiv_r {x y : Int} (hx : -2147483648 ≤ x ∧ x ≤ 2147483647) (hy : 0 < y) : -2147483648 ≤ x.tdiv y ∧ x.tdiv y ≤ 2147483647 := by
  have h2 : (x.tdiv y).natAbs ≤ x.natAbs := by rw [Int.natAbs_tdiv]; exact Nat.div_le_self _ _
  rcases Int.lt_or_le x 0 with h | h
  · have : x.tdiv y ≤ 0 := by
      rw [show x = -(-x) by omega, Int.neg_tdiv]
      have := Int.tdiv_nonneg (show (0 : Int) ≤ -x by omega) (Int.le_of_lt hy)
      omega
    omega
  · have := Int.tdiv_nonneg h (Int.le_of_lt hy)
    omega
theorem tmod_r {x y : Int} (hx : -2147483648 ≤ x ∧ x ≤ 2147483647) (hy : 0 < y) (hy2 : y ≤ 2147483647) : -2147483648 ≤ x.tmod y ∧ x.tmod y ≤ 2147483647 := by
  have h2 := Int.tmod_lt_of_pos x hy
  rcases Int.lt_or_le x 0 with h | h
  · have h3 := Int.neg_tmod (-x) y
    have h4 := Int.tmod_lt_of_pos (-x) hy
    rw [Int.neg_neg] at h3
    omega
  · have := Int.tmod_nonneg y h
    omega
theorem Z_idiv {x y : Int} (hd : decode M.2.1 pc = .ok (.idiv, 1)) (hy : 0 < y) (k : Z G M d bc bs (pc + 1) L (vi (x.tdiv y) :: S) A K) : Z G M d bc bs pc L (vi y :: vi x :: S) A K :=
  Z.st k (fun _ h => zin_cons.mpr ⟨tdiv_r (zin_cons.mp (zin_cons.mp h).2).1 hy, (zin_cons.mp (zin_cons.mp h).2).2⟩) (fun _ _ _ _ _ _ _ _ _ _ _ _ _ _ _ _ hx hb hz q w => lv_idiv hx hb hd (zne (zin_cons.mp hz).1 (by omega)) (by rw [zdiv (zin_cons.mp (zin_cons.mp hz).2).1 (zin_cons.mp hz).1 (by omega)]; exact w))
theorem Z_irem {x y : Int} (hd : decode M.2.1 pc = .ok (.irem, 1)) (hy : 0 < y) (k : Z G M d bc bs (pc + 1) L (vi (x.tmod y) :: S) A K) : Z G M d bc bs pc L (vi y :: vi x :: S) A K :=
  Z.st k (fun _ h => zin_cons.mpr ⟨tmod_r (zin_cons.mp (zin_cons.mp h).2).1 hy (zv_vi.mp (zin_cons.mp h).1).2, (zin_cons.mp (zin_cons.mp h).2).2⟩) (fun _ _ _ _ _ _ _ _ _ _ _ _ _ _ _ _ hx hb hz q w => lv_irem hx hb hd (zne (zin_cons.mp hz).1 (by omega)) (by rw [zrem (zin_cons.mp (zin_cons.mp hz).2).1 (zin_cons.mp hz).1 (by omega)]; exact w))
theorem Z_ineg {x : Int} (hd : decode M.2.1 pc = .ok (.ineg, 1)) (hr : -2147483648 ≤ -x ∧ -x ≤ 2147483647) (k : Z G M d bc bs (pc + 1) L (vi (-x) :: S) A K) : Z G M d bc bs pc L (vi x :: S) A K :=
  Z.st k (fun _ h => zin_cons.mpr ⟨hr, (zin_cons.mp h).2⟩) (fun _ _ _ _ _ _ _ _ _ _ _ _ _ _ _ _ hx hb hz q w => lv_ineg hx hb hd (by rw [← Int32.ofInt_neg]; exact w))
def zand (x y : Int) : Int := (Int32.ofInt x &&& Int32.ofInt y).toInt
theorem Z_iand {x y : Int} (hd : decode M.2.1 pc = .ok (.iand, 1)) (k : Z G M d bc bs (pc + 1) L (vi (zand x y) :: S) A K) : Z G M d bc bs pc L (vi y :: vi x :: S) A K :=
  Z.st k (fun _ h => zin_cons.mpr ⟨z32 _, (zin_cons.mp (zin_cons.mp h).2).2⟩) (fun _ _ _ _ _ _ _ _ _ _ _ _ _ _ _ _ hx hb hz q w => lv_iand hx hb hd (by rw [← Int32.ofInt_toInt (Int32.ofInt x &&& Int32.ofInt y)]; exact w))
def zor (x y : Int) : Int := (Int32.ofInt x ||| Int32.ofInt y).toInt
theorem Z_ior {x y : Int} (hd : decode M.2.1 pc = .ok (.ior, 1)) (k : Z G M d bc bs (pc + 1) L (vi (zor x y) :: S) A K) : Z G M d bc bs pc L (vi y :: vi x :: S) A K :=
  Z.st k (fun _ h => zin_cons.mpr ⟨z32 _, (zin_cons.mp (zin_cons.mp h).2).2⟩) (fun _ _ _ _ _ _ _ _ _ _ _ _ _ _ _ _ hx hb hz q w => lv_ior hx hb hd (by rw [← Int32.ofInt_toInt (Int32.ofInt x ||| Int32.ofInt y)]; exact w))
def zxor (x y : Int) : Int := (Int32.ofInt x ^^^ Int32.ofInt y).toInt
theorem Z_ixor {x y : Int} (hd : decode M.2.1 pc = .ok (.ixor, 1)) (k : Z G M d bc bs (pc + 1) L (vi (zxor x y) :: S) A K) : Z G M d bc bs pc L (vi y :: vi x :: S) A K :=
  Z.st k (fun _ h => zin_cons.mpr ⟨z32 _, (zin_cons.mp (zin_cons.mp h).2).2⟩) (fun _ _ _ _ _ _ _ _ _ _ _ _ _ _ _ _ hx hb hz q w => lv_ixor hx hb hd (by rw [← Int32.ofInt_toInt (Int32.ofInt x ^^^ Int32.ofInt y)]; exact w))
def zshl (x y : Int) : Int := (Int32.ofInt x <<< (Int32.ofInt y &&& 31)).toInt
theorem Z_ishl {x y : Int} (hd : decode M.2.1 pc = .ok (.ishl, 1)) (k : Z G M d bc bs (pc + 1) L (vi (zshl x y) :: S) A K) : Z G M d bc bs pc L (vi y :: vi x :: S) A K :=
  Z.st k (fun _ h => zin_cons.mpr ⟨z32 _, (zin_cons.mp (zin_cons.mp h).2).2⟩) (fun _ _ _ _ _ _ _ _ _ _ _ _ _ _ _ _ hx hb hz q w => lv_ishl hx hb hd (by rw [← Int32.ofInt_toInt (Int32.ofInt x <<< (Int32.ofInt y &&& 31))]; exact w))
def zshr (x y : Int) : Int := (Int32.ofInt x >>> (Int32.ofInt y &&& 31)).toInt
theorem Z_ishr {x y : Int} (hd : decode M.2.1 pc = .ok (.ishr, 1)) (k : Z G M d bc bs (pc + 1) L (vi (zshr x y) :: S) A K) : Z G M d bc bs pc L (vi y :: vi x :: S) A K :=
  Z.st k (fun _ h => zin_cons.mpr ⟨z32 _, (zin_cons.mp (zin_cons.mp h).2).2⟩) (fun _ _ _ _ _ _ _ _ _ _ _ _ _ _ _ _ hx hb hz q w => lv_ishr hx hb hd (by rw [← Int32.ofInt_toInt (Int32.ofInt x >>> (Int32.ofInt y &&& 31))]; exact w))
def zushr (x y : Int) : Int := ((Int32.ofInt x).toUInt32 >>> ((Int32.ofInt y).toUInt32 &&& Int32.toUInt32 31)).toInt32.toInt
theorem Z_iushr {x y : Int} (hd : decode M.2.1 pc = .ok (.iushr, 1)) (k : Z G M d bc bs (pc + 1) L (vi (zushr x y) :: S) A K) : Z G M d bc bs pc L (vi y :: vi x :: S) A K :=
  Z.st k (fun _ h => zin_cons.mpr ⟨z32 _, (zin_cons.mp (zin_cons.mp h).2).2⟩) (fun _ _ _ _ _ _ _ _ _ _ _ _ _ _ _ _ hx hb hz q w => lv_iushr hx hb hd (Int32.ofInt_toInt _).symm w)
def zland (x y : Int) : Int := (Int64.ofInt x &&& Int64.ofInt y).toInt
theorem Z_land {x y : Int} (hd : decode M.2.1 pc = .ok (.land, 1)) (k : Z G M d bc bs (pc + 1) L (vl (zland x y) :: S) A K) : Z G M d bc bs pc L (vl y :: vl x :: S) A K :=
  Z.st k (fun _ h => zin_cons.mpr ⟨z64 _, (zin_cons.mp (zin_cons.mp h).2).2⟩) (fun _ _ _ _ _ _ _ _ _ _ _ _ _ _ _ _ hx hb hz q w => lv_land hx hb hd (by rw [← Int64.ofInt_toInt (Int64.ofInt x &&& Int64.ofInt y)]; exact w))
def zlor (x y : Int) : Int := (Int64.ofInt x ||| Int64.ofInt y).toInt
theorem Z_lor {x y : Int} (hd : decode M.2.1 pc = .ok (.lor, 1)) (k : Z G M d bc bs (pc + 1) L (vl (zlor x y) :: S) A K) : Z G M d bc bs pc L (vl y :: vl x :: S) A K :=
  Z.st k (fun _ h => zin_cons.mpr ⟨z64 _, (zin_cons.mp (zin_cons.mp h).2).2⟩) (fun _ _ _ _ _ _ _ _ _ _ _ _ _ _ _ _ hx hb hz q w => lv_lor hx hb hd (by rw [← Int64.ofInt_toInt (Int64.ofInt x ||| Int64.ofInt y)]; exact w))
def zlshl (x y : Int) : Int := (Int64.ofInt x <<< ((Int32.ofInt y).toInt64 &&& 63)).toInt
theorem Z_lshl {x y : Int} (hd : decode M.2.1 pc = .ok (.lshl, 1)) (k : Z G M d bc bs (pc + 1) L (vl (zlshl x y) :: S) A K) : Z G M d bc bs pc L (vi y :: vl x :: S) A K :=
  Z.st k (fun _ h => zin_cons.mpr ⟨z64 _, (zin_cons.mp (zin_cons.mp h).2).2⟩) (fun _ _ _ _ _ _ _ _ _ _ _ _ _ _ _ _ hx hb hz q w => lv_lshl hx hb hd (Int64.ofInt_toInt _).symm w)
theorem Z_i2l {x : Int} (hd : decode M.2.1 pc = .ok (.i2l, 1)) (k : Z G M d bc bs (pc + 1) L (vl x :: S) A K) : Z G M d bc bs pc L (vi x :: S) A K :=
  Z.st k (fun _ h => zin_cons.mpr ⟨zv_vl.mpr ⟨by have := zv_vi.mp (zin_cons.mp h).1; omega, by have := zv_vi.mp (zin_cons.mp h).1; omega⟩, (zin_cons.mp h).2⟩) (fun _ _ _ _ _ _ _ _ _ _ _ _ _ _ _ _ hx hb hz q w => lv_i2l hx hb hd (Int64.toInt_inj.1 (by have h1 := zv_vi.mp (zin_cons.mp hz).1; rw [Int32.toInt_toInt64, zt h1, ztl ⟨by omega, by omega⟩])) w)
def zl2i (x : Int) : Int := (Int64.ofInt x).toInt32.toInt
theorem Z_l2i {x : Int} (hd : decode M.2.1 pc = .ok (.l2i, 1)) (k : Z G M d bc bs (pc + 1) L (vi (zl2i x) :: S) A K) : Z G M d bc bs pc L (vl x :: S) A K :=
  Z.st k (fun _ h => zin_cons.mpr ⟨z32 _, (zin_cons.mp h).2⟩) (fun _ _ _ _ _ _ _ _ _ _ _ _ _ _ _ _ hx hb hz q w => lv_l2i hx hb hd (Int32.ofInt_toInt _).symm w)
def zi2b (x : Int) : Int := (Int32.ofInt x).toInt8.toInt32.toInt
theorem Z_i2b {x : Int} (hd : decode M.2.1 pc = .ok (.i2b, 1)) (k : Z G M d bc bs (pc + 1) L (vi (zi2b x) :: S) A K) : Z G M d bc bs pc L (vi x :: S) A K :=
  Z.st k (fun _ h => zin_cons.mpr ⟨z32 _, (zin_cons.mp h).2⟩) (fun _ _ _ _ _ _ _ _ _ _ _ _ _ _ _ _ hx hb hz q w => lv_i2b hx hb hd (Int32.ofInt_toInt _).symm w)
def zi2s (x : Int) : Int := (Int32.ofInt x).toInt16.toInt32.toInt
theorem Z_i2s {x : Int} (hd : decode M.2.1 pc = .ok (.i2s, 1)) (k : Z G M d bc bs (pc + 1) L (vi (zi2s x) :: S) A K) : Z G M d bc bs pc L (vi x :: S) A K :=
  Z.st k (fun _ h => zin_cons.mpr ⟨z32 _, (zin_cons.mp h).2⟩) (fun _ _ _ _ _ _ _ _ _ _ _ _ _ _ _ _ hx hb hz q w => lv_i2s hx hb hd (Int32.ofInt_toInt _).symm w)
def zi2c (x : Int) : Int := ((Int32.ofInt x).toUInt32 % 65536).toInt32.toInt
theorem Z_i2c {x : Int} (hd : decode M.2.1 pc = .ok (.i2c, 1)) (k : Z G M d bc bs (pc + 1) L (vi (zi2c x) :: S) A K) : Z G M d bc bs pc L (vi x :: S) A K :=
  Z.st k (fun _ h => zin_cons.mpr ⟨z32 _, (zin_cons.mp h).2⟩) (fun _ _ _ _ _ _ _ _ _ _ _ _ _ _ _ _ hx hb hz q w => lv_i2c hx hb hd (Int32.ofInt_toInt _).symm w)
end ZR
