/-! V: the machine, at pc with locals lv and stack st over the memory, comes to its end -/
abbrev CX : Type := Program × Launch × Env × Room × State × MethodId × Array Value × List Frame × Method × Code × Nat × TC × Nat × (State → Prop)
def V (X : CX) (kc ks z : Nat) (S : MS) (I : MI) (J : MJ) (R : MR) (pc : Nat) (lv : List (Option Value)) (st : List Value) : Prop :=
  match X with
  | (p, l, e, Rm, s, m, args, below, meth, c, nL, T, B, Q) => ∀ (H : Heap) (locs : List Loc) (ls : Array Slot), Rep T B z S I J R H → va_S (fun q => B ≤ q) s.heap H locs → lvh ls nL lv → W p l e Rm s m args below meth c H locs kc ks Q (F0 m pc ls st)
/-- what holds throughout a method's body: the machine, its bytes, the tables' words -/
def Cx (X : CX) (own : String) (cc : ByteArray) (rm : Room) (T0 : TC) (B0 nL0 : Nat) : Prop :=
  match X with
  | (p, _, _, Rm, s, m, args, _, meth, c, nL, T, B, _) => p.tables.exec = Jvm.exec ∧ c.code = cc ∧ c.maxLocals = nL ∧ s.vm.findClass own = some m.cls ∧ (∀ w ∈ wG, w.before args s = true) ∧ Kx T s ∧ B ≤ s.heap.size ∧ meth.locks = false ∧ Rm = rm ∧ T = T0 ∧ B = B0 ∧ nL = nL0
section VR
variable {X : CX} {own : String} {cc : ByteArray} {rm : Room} {T0 : TC} {B0 nL0 : Nat} {kc ks z : Nat} {S : MS} {I : MI} {J : MJ} {R : MR} {pc : Nat} {lv : List (Option Value)} {st : List Value}
theorem v_iconst (C : Cx X own cc rm T0 B0 nL0) {n : Int} {v : Int32} (d : decode cc pc = .ok (.iconst n, 1)) (hv : Int32.ofInt n = v) (k : V X kc ks z S I J R (pc + 1) lv (.int v :: st)) : V X kc ks z S I J R (pc) lv st := by
  obtain ⟨p, l, e, Rm, s, m, args, below, meth, c, nL, T, B, Q⟩ := X
  intro H locs ls hR hS hl
  exact lv_iconst C.1 C.2.1 d hv (k H locs ls hR hS hl)
theorem v_bipush (C : Cx X own cc rm T0 B0 nL0) {n : Int} {v : Int32} (d : decode cc pc = .ok (.bipush n, 2)) (hv : (Int8.ofInt n).toInt32 = v) (k : V X kc ks z S I J R (pc + 2) lv (.int v :: st)) : V X kc ks z S I J R (pc) lv st := by
  obtain ⟨p, l, e, Rm, s, m, args, below, meth, c, nL, T, B, Q⟩ := X
  intro H locs ls hR hS hl
  exact lv_bipush C.1 C.2.1 d hv (k H locs ls hR hS hl)
theorem v_sipush (C : Cx X own cc rm T0 B0 nL0) {n : Int} {v : Int32} (d : decode cc pc = .ok (.sipush n, 3)) (hv : (Int16.ofInt n).toInt32 = v) (k : V X kc ks z S I J R (pc + 3) lv (.int v :: st)) : V X kc ks z S I J R (pc) lv st := by
  obtain ⟨p, l, e, Rm, s, m, args, below, meth, c, nL, T, B, Q⟩ := X
  intro H locs ls hR hS hl
  exact lv_sipush C.1 C.2.1 d hv (k H locs ls hR hS hl)
theorem v_lconst (C : Cx X own cc rm T0 B0 nL0) {n : Fin 2} {v : Int64} (d : decode cc pc = .ok (.lconst n, 1)) (hv : Int64.ofNat (n : Nat) = v) (k : V X kc ks z S I J R (pc + 1) lv (.long v :: st)) : V X kc ks z S I J R (pc) lv st := by
  obtain ⟨p, l, e, Rm, s, m, args, below, meth, c, nL, T, B, Q⟩ := X
  intro H locs ls hR hS hl
  exact lv_lconst C.1 C.2.1 d hv (k H locs ls hR hS hl)
theorem v_null (C : Cx X own cc rm T0 B0 nL0)  (d : decode cc pc = .ok (.aconst_null, 1)) (k : V X kc ks z S I J R (pc + 1) lv (.null :: st)) : V X kc ks z S I J R (pc) lv st := by
  obtain ⟨p, l, e, Rm, s, m, args, below, meth, c, nL, T, B, Q⟩ := X
  intro H locs ls hR hS hl
  exact lv_null C.1 C.2.1 d (k H locs ls hR hS hl)
theorem v_ldc (C : Cx X own cc rm T0 B0 nL0) {ix : Nat} {v : Int32} (d : decode cc pc = .ok (.ldc ix, 2)) (hc : Cond.constant own ix v ∈ wG) (k : V X kc ks z S I J R (pc + 2) lv (.int v :: st)) : V X kc ks z S I J R (pc) lv st := by
  obtain ⟨p, l, e, Rm, s, m, args, below, meth, c, nL, T, B, Q⟩ := X
  intro H locs ls hR hS hl
  exact lv_ldc C.1 C.2.1 C.2.2.2.1 (C.2.2.2.2.1 _ hc) d (k H locs ls hR hS hl)
theorem v_ldcw (C : Cx X own cc rm T0 B0 nL0) {ix : Nat} {v : Int32} (d : decode cc pc = .ok (.ldc_w ix, 3)) (hc : Cond.constant own ix v ∈ wG) (k : V X kc ks z S I J R (pc + 3) lv (.int v :: st)) : V X kc ks z S I J R (pc) lv st := by
  obtain ⟨p, l, e, Rm, s, m, args, below, meth, c, nL, T, B, Q⟩ := X
  intro H locs ls hR hS hl
  exact lv_ldcw C.1 C.2.1 C.2.2.2.1 (C.2.2.2.2.1 _ hc) d (k H locs ls hR hS hl)
theorem v_ldc2 (C : Cx X own cc rm T0 B0 nL0) {ix : Nat} {v : Int64} (d : decode cc pc = .ok (.ldc2_w ix, 3)) (hc : Cond.constantLong own ix v ∈ wG) (k : V X kc ks z S I J R (pc + 3) lv (.long v :: st)) : V X kc ks z S I J R (pc) lv st := by
  obtain ⟨p, l, e, Rm, s, m, args, below, meth, c, nL, T, B, Q⟩ := X
  intro H locs ls hR hS hl
  exact lv_ldc2 C.1 C.2.1 C.2.2.2.1 (C.2.2.2.2.1 _ hc) d (k H locs ls hR hS hl)
theorem v_iload_n (C : Cx X own cc rm T0 B0 nL0) {q : Fin 4} {x : Int32} (d : decode cc pc = .ok (.iload_n q, 1)) (h : lv[(q : Nat)]? = some (some (.int x))) (k : V X kc ks z S I J R (pc + 1) lv (.int x :: st)) : V X kc ks z S I J R (pc) lv st := by
  obtain ⟨p, l, e, Rm, s, m, args, below, meth, c, nL, T, B, Q⟩ := X
  intro H locs ls hR hS hl
  exact lv_iload_n C.1 C.2.1 d rfl (hl.2.2 _ _ h) (k H locs ls hR hS hl)
theorem v_iload (C : Cx X own cc rm T0 B0 nL0) {q : Nat} {x : Int32} (d : decode cc pc = .ok (.iload q, 2)) (h : lv[q]? = some (some (.int x))) (k : V X kc ks z S I J R (pc + 2) lv (.int x :: st)) : V X kc ks z S I J R (pc) lv st := by
  obtain ⟨p, l, e, Rm, s, m, args, below, meth, c, nL, T, B, Q⟩ := X
  intro H locs ls hR hS hl
  exact lv_iload C.1 C.2.1 d (hl.2.2 _ _ h) (k H locs ls hR hS hl)
theorem v_lload_n (C : Cx X own cc rm T0 B0 nL0) {q : Fin 4} {x : Int64} (d : decode cc pc = .ok (.lload_n q, 1)) (h : lv[(q : Nat)]? = some (some (.long x))) (k : V X kc ks z S I J R (pc + 1) lv (.long x :: st)) : V X kc ks z S I J R (pc) lv st := by
  obtain ⟨p, l, e, Rm, s, m, args, below, meth, c, nL, T, B, Q⟩ := X
  intro H locs ls hR hS hl
  exact lv_lload_n C.1 C.2.1 d rfl (hl.2.2 _ _ h) (k H locs ls hR hS hl)
theorem v_lload (C : Cx X own cc rm T0 B0 nL0) {q : Nat} {x : Int64} (d : decode cc pc = .ok (.lload q, 2)) (h : lv[q]? = some (some (.long x))) (k : V X kc ks z S I J R (pc + 2) lv (.long x :: st)) : V X kc ks z S I J R (pc) lv st := by
  obtain ⟨p, l, e, Rm, s, m, args, below, meth, c, nL, T, B, Q⟩ := X
  intro H locs ls hR hS hl
  exact lv_lload C.1 C.2.1 d (hl.2.2 _ _ h) (k H locs ls hR hS hl)
theorem v_aload_n (C : Cx X own cc rm T0 B0 nL0) {q : Fin 4} {x : Nat} (d : decode cc pc = .ok (.aload_n q, 1)) (h : lv[(q : Nat)]? = some (some (.ref x))) (k : V X kc ks z S I J R (pc + 1) lv (.ref x :: st)) : V X kc ks z S I J R (pc) lv st := by
  obtain ⟨p, l, e, Rm, s, m, args, below, meth, c, nL, T, B, Q⟩ := X
  intro H locs ls hR hS hl
  exact lv_aload_n C.1 C.2.1 d rfl (hl.2.2 _ _ h) (k H locs ls hR hS hl)
theorem v_aload (C : Cx X own cc rm T0 B0 nL0) {q : Nat} {x : Nat} (d : decode cc pc = .ok (.aload q, 2)) (h : lv[q]? = some (some (.ref x))) (k : V X kc ks z S I J R (pc + 2) lv (.ref x :: st)) : V X kc ks z S I J R (pc) lv st := by
  obtain ⟨p, l, e, Rm, s, m, args, below, meth, c, nL, T, B, Q⟩ := X
  intro H locs ls hR hS hl
  exact lv_aload C.1 C.2.1 d (hl.2.2 _ _ h) (k H locs ls hR hS hl)
theorem v_aload_nN (C : Cx X own cc rm T0 B0 nL0) {q : Fin 4} (d : decode cc pc = .ok (.aload_n q, 1)) (h : lv[(q : Nat)]? = some (some .null)) (k : V X kc ks z S I J R (pc + 1) lv (.null :: st)) : V X kc ks z S I J R (pc) lv st := by
  obtain ⟨p, l, e, Rm, s, m, args, below, meth, c, nL, T, B, Q⟩ := X
  intro H locs ls hR hS hl
  exact lv_aload_nN C.1 C.2.1 d rfl (hl.2.2 _ _ h) (k H locs ls hR hS hl)
theorem v_aloadN (C : Cx X own cc rm T0 B0 nL0) {q : Nat} (d : decode cc pc = .ok (.aload q, 2)) (h : lv[q]? = some (some .null)) (k : V X kc ks z S I J R (pc + 2) lv (.null :: st)) : V X kc ks z S I J R (pc) lv st := by
  obtain ⟨p, l, e, Rm, s, m, args, below, meth, c, nL, T, B, Q⟩ := X
  intro H locs ls hR hS hl
  exact lv_aloadN C.1 C.2.1 d (hl.2.2 _ _ h) (k H locs ls hR hS hl)
theorem v_istore_n (C : Cx X own cc rm T0 B0 nL0) {q : Fin 4} {x : Int32} (d : decode cc pc = .ok (.istore_n q, 1)) (hn : (q : Nat) < nL0) (k : V X kc ks z S I J R (pc + 1) (sto1 lv (q : Nat) (.int x)) st) : V X kc ks z S I J R pc lv (.int x :: st) := by
  obtain ⟨p, l, e, Rm, s, m, args, below, meth, c, nL, T, B, Q⟩ := X
  intro H locs ls hR hS hl
  obtain ⟨-, -, -, -, -, -, -, -, -, -, -, hn0⟩ := id C
  exact lv_istore_n C.1 C.2.1 d rfl hl.has (by rw [hn0]; exact hn) rfl (fun ls' hl' => k H locs ls' hR hS (lvh_s1 hl'))
theorem v_istore (C : Cx X own cc rm T0 B0 nL0) {q : Nat} {x : Int32} (d : decode cc pc = .ok (.istore q, 2)) (hn : q < nL0) (k : V X kc ks z S I J R (pc + 2) (sto1 lv q (.int x)) st) : V X kc ks z S I J R pc lv (.int x :: st) := by
  obtain ⟨p, l, e, Rm, s, m, args, below, meth, c, nL, T, B, Q⟩ := X
  intro H locs ls hR hS hl
  obtain ⟨-, -, -, -, -, -, -, -, -, -, -, hn0⟩ := id C
  exact lv_istore C.1 C.2.1 d hl.has (by rw [hn0]; exact hn) rfl (fun ls' hl' => k H locs ls' hR hS (lvh_s1 hl'))
theorem v_lstore_n (C : Cx X own cc rm T0 B0 nL0) {q : Fin 4} {x : Int64} (d : decode cc pc = .ok (.lstore_n q, 1)) (hn : (q : Nat) + 1 < nL0) (k : V X kc ks z S I J R (pc + 1) (sto2 lv (q : Nat) (.long x)) st) : V X kc ks z S I J R pc lv (.long x :: st) := by
  obtain ⟨p, l, e, Rm, s, m, args, below, meth, c, nL, T, B, Q⟩ := X
  intro H locs ls hR hS hl
  obtain ⟨-, -, -, -, -, -, -, -, -, -, -, hn0⟩ := id C
  exact lv_lstore_n C.1 C.2.1 d rfl hl.has (by rw [hn0]; exact hn) rfl (fun ls' hl' => k H locs ls' hR hS (lvh_s2 hl'))
theorem v_lstore (C : Cx X own cc rm T0 B0 nL0) {q : Nat} {x : Int64} (d : decode cc pc = .ok (.lstore q, 2)) (hn : q + 1 < nL0) (k : V X kc ks z S I J R (pc + 2) (sto2 lv q (.long x)) st) : V X kc ks z S I J R pc lv (.long x :: st) := by
  obtain ⟨p, l, e, Rm, s, m, args, below, meth, c, nL, T, B, Q⟩ := X
  intro H locs ls hR hS hl
  obtain ⟨-, -, -, -, -, -, -, -, -, -, -, hn0⟩ := id C
  exact lv_lstore C.1 C.2.1 d hl.has (by rw [hn0]; exact hn) rfl (fun ls' hl' => k H locs ls' hR hS (lvh_s2 hl'))
theorem v_astore_n (C : Cx X own cc rm T0 B0 nL0) {q : Fin 4} {x : Nat} (d : decode cc pc = .ok (.astore_n q, 1)) (hn : (q : Nat) < nL0) (k : V X kc ks z S I J R (pc + 1) (sto1 lv (q : Nat) (.ref x)) st) : V X kc ks z S I J R pc lv (.ref x :: st) := by
  obtain ⟨p, l, e, Rm, s, m, args, below, meth, c, nL, T, B, Q⟩ := X
  intro H locs ls hR hS hl
  obtain ⟨-, -, -, -, -, -, -, -, -, -, -, hn0⟩ := id C
  exact lv_astore_n C.1 C.2.1 d rfl hl.has (by rw [hn0]; exact hn) rfl (fun ls' hl' => k H locs ls' hR hS (lvh_s1 hl'))
theorem v_astore (C : Cx X own cc rm T0 B0 nL0) {q : Nat} {x : Nat} (d : decode cc pc = .ok (.astore q, 2)) (hn : q < nL0) (k : V X kc ks z S I J R (pc + 2) (sto1 lv q (.ref x)) st) : V X kc ks z S I J R pc lv (.ref x :: st) := by
  obtain ⟨p, l, e, Rm, s, m, args, below, meth, c, nL, T, B, Q⟩ := X
  intro H locs ls hR hS hl
  obtain ⟨-, -, -, -, -, -, -, -, -, -, -, hn0⟩ := id C
  exact lv_astore C.1 C.2.1 d hl.has (by rw [hn0]; exact hn) rfl (fun ls' hl' => k H locs ls' hR hS (lvh_s1 hl'))
theorem v_astore_nN (C : Cx X own cc rm T0 B0 nL0) {q : Fin 4} (d : decode cc pc = .ok (.astore_n q, 1)) (hn : (q : Nat) < nL0) (k : V X kc ks z S I J R (pc + 1) (sto1 lv (q : Nat) .null) st) : V X kc ks z S I J R pc lv (.null :: st) := by
  obtain ⟨p, l, e, Rm, s, m, args, below, meth, c, nL, T, B, Q⟩ := X
  intro H locs ls hR hS hl
  obtain ⟨-, -, -, -, -, -, -, -, -, -, -, hn0⟩ := id C
  exact lv_astore_nN C.1 C.2.1 d rfl hl.has (by rw [hn0]; exact hn) rfl (fun ls' hl' => k H locs ls' hR hS (lvh_s1 hl'))
theorem v_astoreN (C : Cx X own cc rm T0 B0 nL0) {q : Nat} (d : decode cc pc = .ok (.astore q, 2)) (hn : q < nL0) (k : V X kc ks z S I J R (pc + 2) (sto1 lv q .null) st) : V X kc ks z S I J R pc lv (.null :: st) := by
  obtain ⟨p, l, e, Rm, s, m, args, below, meth, c, nL, T, B, Q⟩ := X
  intro H locs ls hR hS hl
  obtain ⟨-, -, -, -, -, -, -, -, -, -, -, hn0⟩ := id C
  exact lv_astoreN C.1 C.2.1 d hl.has (by rw [hn0]; exact hn) rfl (fun ls' hl' => k H locs ls' hR hS (lvh_s1 hl'))
theorem v_iinc (C : Cx X own cc rm T0 B0 nL0) {q : Nat} {n : Int} {x v : Int32} (d : decode cc pc = .ok (.iinc q n, 3)) (h : lv[q]? = some (some (.int x))) (hv : x + Int32.ofInt n = v) (hn : q < nL0) (k : V X kc ks z S I J R (pc + 3) (sto1 lv q (.int v)) st) : V X kc ks z S I J R pc lv st := by
  obtain ⟨p, l, e, Rm, s, m, args, below, meth, c, nL, T, B, Q⟩ := X
  intro H locs ls hR hS hl
  obtain ⟨-, -, -, -, -, -, -, -, -, -, -, hn0⟩ := id C
  obtain ⟨i, hi⟩ := List.getElem?_of_mem (asc_mem (q := (q, .int x)).mpr h)
  exact lv_iinc C.1 C.2.1 d hl.has hi hv (by rw [hn0]; exact hn) rfl (fun ls' hl' => k H locs ls' hR hS (lvh_s1 hl'))
theorem v_iadd (C : Cx X own cc rm T0 B0 nL0) {x y : Int32} (d : decode cc pc = .ok (.iadd, 1)) (k : V X kc ks z S I J R (pc + 1) lv (.int (x + y) :: st)) : V X kc ks z S I J R (pc) lv (.int y :: .int x :: st) := by
  obtain ⟨p, l, e, Rm, s, m, args, below, meth, c, nL, T, B, Q⟩ := X
  intro H locs ls hR hS hl
  exact lv_iadd C.1 C.2.1 d (k H locs ls hR hS hl)
theorem v_isub (C : Cx X own cc rm T0 B0 nL0) {x y : Int32} (d : decode cc pc = .ok (.isub, 1)) (k : V X kc ks z S I J R (pc + 1) lv (.int (x - y) :: st)) : V X kc ks z S I J R (pc) lv (.int y :: .int x :: st) := by
  obtain ⟨p, l, e, Rm, s, m, args, below, meth, c, nL, T, B, Q⟩ := X
  intro H locs ls hR hS hl
  exact lv_isub C.1 C.2.1 d (k H locs ls hR hS hl)
theorem v_imul (C : Cx X own cc rm T0 B0 nL0) {x y : Int32} (d : decode cc pc = .ok (.imul, 1)) (k : V X kc ks z S I J R (pc + 1) lv (.int (x * y) :: st)) : V X kc ks z S I J R (pc) lv (.int y :: .int x :: st) := by
  obtain ⟨p, l, e, Rm, s, m, args, below, meth, c, nL, T, B, Q⟩ := X
  intro H locs ls hR hS hl
  exact lv_imul C.1 C.2.1 d (k H locs ls hR hS hl)
theorem v_iand (C : Cx X own cc rm T0 B0 nL0) {x y : Int32} (d : decode cc pc = .ok (.iand, 1)) (k : V X kc ks z S I J R (pc + 1) lv (.int (x &&& y) :: st)) : V X kc ks z S I J R (pc) lv (.int y :: .int x :: st) := by
  obtain ⟨p, l, e, Rm, s, m, args, below, meth, c, nL, T, B, Q⟩ := X
  intro H locs ls hR hS hl
  exact lv_iand C.1 C.2.1 d (k H locs ls hR hS hl)
theorem v_ior (C : Cx X own cc rm T0 B0 nL0) {x y : Int32} (d : decode cc pc = .ok (.ior, 1)) (k : V X kc ks z S I J R (pc + 1) lv (.int (x ||| y) :: st)) : V X kc ks z S I J R (pc) lv (.int y :: .int x :: st) := by
  obtain ⟨p, l, e, Rm, s, m, args, below, meth, c, nL, T, B, Q⟩ := X
  intro H locs ls hR hS hl
  exact lv_ior C.1 C.2.1 d (k H locs ls hR hS hl)
theorem v_ixor (C : Cx X own cc rm T0 B0 nL0) {x y : Int32} (d : decode cc pc = .ok (.ixor, 1)) (k : V X kc ks z S I J R (pc + 1) lv (.int (x ^^^ y) :: st)) : V X kc ks z S I J R (pc) lv (.int y :: .int x :: st) := by
  obtain ⟨p, l, e, Rm, s, m, args, below, meth, c, nL, T, B, Q⟩ := X
  intro H locs ls hR hS hl
  exact lv_ixor C.1 C.2.1 d (k H locs ls hR hS hl)
theorem v_ishl (C : Cx X own cc rm T0 B0 nL0) {x y : Int32} (d : decode cc pc = .ok (.ishl, 1)) (k : V X kc ks z S I J R (pc + 1) lv (.int (x <<< (y &&& 31)) :: st)) : V X kc ks z S I J R (pc) lv (.int y :: .int x :: st) := by
  obtain ⟨p, l, e, Rm, s, m, args, below, meth, c, nL, T, B, Q⟩ := X
  intro H locs ls hR hS hl
  exact lv_ishl C.1 C.2.1 d (k H locs ls hR hS hl)
theorem v_ishr (C : Cx X own cc rm T0 B0 nL0) {x y : Int32} (d : decode cc pc = .ok (.ishr, 1)) (k : V X kc ks z S I J R (pc + 1) lv (.int (x >>> (y &&& 31)) :: st)) : V X kc ks z S I J R (pc) lv (.int y :: .int x :: st) := by
  obtain ⟨p, l, e, Rm, s, m, args, below, meth, c, nL, T, B, Q⟩ := X
  intro H locs ls hR hS hl
  exact lv_ishr C.1 C.2.1 d (k H locs ls hR hS hl)
theorem v_idiv (C : Cx X own cc rm T0 B0 nL0) {x y : Int32} (d : decode cc pc = .ok (.idiv, 1)) (hne : ¬ y = 0) (k : V X kc ks z S I J R (pc + 1) lv (.int (x / y) :: st)) : V X kc ks z S I J R (pc) lv (.int y :: .int x :: st) := by
  obtain ⟨p, l, e, Rm, s, m, args, below, meth, c, nL, T, B, Q⟩ := X
  intro H locs ls hR hS hl
  exact lv_idiv C.1 C.2.1 d hne (k H locs ls hR hS hl)
theorem v_irem (C : Cx X own cc rm T0 B0 nL0) {x y : Int32} (d : decode cc pc = .ok (.irem, 1)) (hne : ¬ y = 0) (k : V X kc ks z S I J R (pc + 1) lv (.int (x - x / y * y) :: st)) : V X kc ks z S I J R (pc) lv (.int y :: .int x :: st) := by
  obtain ⟨p, l, e, Rm, s, m, args, below, meth, c, nL, T, B, Q⟩ := X
  intro H locs ls hR hS hl
  exact lv_irem C.1 C.2.1 d hne (k H locs ls hR hS hl)
theorem v_iushr (C : Cx X own cc rm T0 B0 nL0) {x y : Int32} (d : decode cc pc = .ok (.iushr, 1)) (k : V X kc ks z S I J R (pc + 1) lv (.int ((x.toUInt32 >>> (y.toUInt32 &&& Int32.toUInt32 31)).toInt32) :: st)) : V X kc ks z S I J R (pc) lv (.int y :: .int x :: st) := by
  obtain ⟨p, l, e, Rm, s, m, args, below, meth, c, nL, T, B, Q⟩ := X
  intro H locs ls hR hS hl
  exact lv_iushr C.1 C.2.1 d rfl (k H locs ls hR hS hl)
theorem v_ineg (C : Cx X own cc rm T0 B0 nL0) {x : Int32} (d : decode cc pc = .ok (.ineg, 1)) (k : V X kc ks z S I J R (pc + 1) lv (.int (-x) :: st)) : V X kc ks z S I J R (pc) lv (.int x :: st) := by
  obtain ⟨p, l, e, Rm, s, m, args, below, meth, c, nL, T, B, Q⟩ := X
  intro H locs ls hR hS hl
  exact lv_ineg C.1 C.2.1 d (k H locs ls hR hS hl)
theorem v_ladd (C : Cx X own cc rm T0 B0 nL0) {x y : Int64} (d : decode cc pc = .ok (.ladd, 1)) (k : V X kc ks z S I J R (pc + 1) lv (.long (x + y) :: st)) : V X kc ks z S I J R (pc) lv (.long y :: .long x :: st) := by
  obtain ⟨p, l, e, Rm, s, m, args, below, meth, c, nL, T, B, Q⟩ := X
  intro H locs ls hR hS hl
  exact lv_ladd C.1 C.2.1 d (k H locs ls hR hS hl)
theorem v_lsub (C : Cx X own cc rm T0 B0 nL0) {x y : Int64} (d : decode cc pc = .ok (.lsub, 1)) (k : V X kc ks z S I J R (pc + 1) lv (.long (x - y) :: st)) : V X kc ks z S I J R (pc) lv (.long y :: .long x :: st) := by
  obtain ⟨p, l, e, Rm, s, m, args, below, meth, c, nL, T, B, Q⟩ := X
  intro H locs ls hR hS hl
  exact lv_lsub C.1 C.2.1 d (k H locs ls hR hS hl)
theorem v_lmul (C : Cx X own cc rm T0 B0 nL0) {x y : Int64} (d : decode cc pc = .ok (.lmul, 1)) (k : V X kc ks z S I J R (pc + 1) lv (.long (x * y) :: st)) : V X kc ks z S I J R (pc) lv (.long y :: .long x :: st) := by
  obtain ⟨p, l, e, Rm, s, m, args, below, meth, c, nL, T, B, Q⟩ := X
  intro H locs ls hR hS hl
  exact lv_lmul C.1 C.2.1 d (k H locs ls hR hS hl)
theorem v_land (C : Cx X own cc rm T0 B0 nL0) {x y : Int64} (d : decode cc pc = .ok (.land, 1)) (k : V X kc ks z S I J R (pc + 1) lv (.long (x &&& y) :: st)) : V X kc ks z S I J R (pc) lv (.long y :: .long x :: st) := by
  obtain ⟨p, l, e, Rm, s, m, args, below, meth, c, nL, T, B, Q⟩ := X
  intro H locs ls hR hS hl
  exact lv_land C.1 C.2.1 d (k H locs ls hR hS hl)
theorem v_lor (C : Cx X own cc rm T0 B0 nL0) {x y : Int64} (d : decode cc pc = .ok (.lor, 1)) (k : V X kc ks z S I J R (pc + 1) lv (.long (x ||| y) :: st)) : V X kc ks z S I J R (pc) lv (.long y :: .long x :: st) := by
  obtain ⟨p, l, e, Rm, s, m, args, below, meth, c, nL, T, B, Q⟩ := X
  intro H locs ls hR hS hl
  exact lv_lor C.1 C.2.1 d (k H locs ls hR hS hl)
theorem v_lxor (C : Cx X own cc rm T0 B0 nL0) {x y : Int64} (d : decode cc pc = .ok (.lxor, 1)) (k : V X kc ks z S I J R (pc + 1) lv (.long (x ^^^ y) :: st)) : V X kc ks z S I J R (pc) lv (.long y :: .long x :: st) := by
  obtain ⟨p, l, e, Rm, s, m, args, below, meth, c, nL, T, B, Q⟩ := X
  intro H locs ls hR hS hl
  exact lv_lxor C.1 C.2.1 d (k H locs ls hR hS hl)
theorem v_ldiv (C : Cx X own cc rm T0 B0 nL0) {x y : Int64} (d : decode cc pc = .ok (.ldiv, 1)) (hne : ¬ y = 0) (k : V X kc ks z S I J R (pc + 1) lv (.long (x / y) :: st)) : V X kc ks z S I J R (pc) lv (.long y :: .long x :: st) := by
  obtain ⟨p, l, e, Rm, s, m, args, below, meth, c, nL, T, B, Q⟩ := X
  intro H locs ls hR hS hl
  exact lv_ldiv C.1 C.2.1 d hne (k H locs ls hR hS hl)
theorem v_lrem (C : Cx X own cc rm T0 B0 nL0) {x y : Int64} (d : decode cc pc = .ok (.lrem, 1)) (hne : ¬ y = 0) (k : V X kc ks z S I J R (pc + 1) lv (.long (x - x / y * y) :: st)) : V X kc ks z S I J R (pc) lv (.long y :: .long x :: st) := by
  obtain ⟨p, l, e, Rm, s, m, args, below, meth, c, nL, T, B, Q⟩ := X
  intro H locs ls hR hS hl
  exact lv_lrem C.1 C.2.1 d hne (k H locs ls hR hS hl)
theorem v_lneg (C : Cx X own cc rm T0 B0 nL0) {x : Int64} (d : decode cc pc = .ok (.lneg, 1)) (k : V X kc ks z S I J R (pc + 1) lv (.long (-x) :: st)) : V X kc ks z S I J R (pc) lv (.long x :: st) := by
  obtain ⟨p, l, e, Rm, s, m, args, below, meth, c, nL, T, B, Q⟩ := X
  intro H locs ls hR hS hl
  exact lv_lneg C.1 C.2.1 d (k H locs ls hR hS hl)
theorem v_lshl (C : Cx X own cc rm T0 B0 nL0) {x : Int64} {y : Int32} (d : decode cc pc = .ok (.lshl, 1)) (k : V X kc ks z S I J R (pc + 1) lv (.long (x <<< (y.toInt64 &&& 63)) :: st)) : V X kc ks z S I J R (pc) lv (.int y :: .long x :: st) := by
  obtain ⟨p, l, e, Rm, s, m, args, below, meth, c, nL, T, B, Q⟩ := X
  intro H locs ls hR hS hl
  exact lv_lshl C.1 C.2.1 d rfl (k H locs ls hR hS hl)
theorem v_lshr (C : Cx X own cc rm T0 B0 nL0) {x : Int64} {y : Int32} (d : decode cc pc = .ok (.lshr, 1)) (k : V X kc ks z S I J R (pc + 1) lv (.long (x >>> (y.toInt64 &&& 63)) :: st)) : V X kc ks z S I J R (pc) lv (.int y :: .long x :: st) := by
  obtain ⟨p, l, e, Rm, s, m, args, below, meth, c, nL, T, B, Q⟩ := X
  intro H locs ls hR hS hl
  exact lv_lshr C.1 C.2.1 d rfl (k H locs ls hR hS hl)
theorem v_lushr (C : Cx X own cc rm T0 B0 nL0) {x : Int64} {y : Int32} (d : decode cc pc = .ok (.lushr, 1)) (k : V X kc ks z S I J R (pc + 1) lv (.long ((x.toUInt64 >>> (y.toInt64.toUInt64 &&& Int64.toUInt64 63)).toInt64) :: st)) : V X kc ks z S I J R (pc) lv (.int y :: .long x :: st) := by
  obtain ⟨p, l, e, Rm, s, m, args, below, meth, c, nL, T, B, Q⟩ := X
  intro H locs ls hR hS hl
  exact lv_lushr C.1 C.2.1 d rfl (k H locs ls hR hS hl)
theorem v_i2l (C : Cx X own cc rm T0 B0 nL0) {x : Int32} (d : decode cc pc = .ok (.i2l, 1)) (k : V X kc ks z S I J R (pc + 1) lv (.long x.toInt64 :: st)) : V X kc ks z S I J R (pc) lv (.int x :: st) := by
  obtain ⟨p, l, e, Rm, s, m, args, below, meth, c, nL, T, B, Q⟩ := X
  intro H locs ls hR hS hl
  exact lv_i2l C.1 C.2.1 d rfl (k H locs ls hR hS hl)
theorem v_l2i (C : Cx X own cc rm T0 B0 nL0) {x : Int64} (d : decode cc pc = .ok (.l2i, 1)) (k : V X kc ks z S I J R (pc + 1) lv (.int x.toInt32 :: st)) : V X kc ks z S I J R (pc) lv (.long x :: st) := by
  obtain ⟨p, l, e, Rm, s, m, args, below, meth, c, nL, T, B, Q⟩ := X
  intro H locs ls hR hS hl
  exact lv_l2i C.1 C.2.1 d rfl (k H locs ls hR hS hl)
theorem v_lcmp (C : Cx X own cc rm T0 B0 nL0) {x y : Int64} (d : decode cc pc = .ok (.lcmp, 1)) (k : V X kc ks z S I J R (pc + 1) lv (.int (lg_cmp x y) :: st)) : V X kc ks z S I J R (pc) lv (.long y :: .long x :: st) := by
  obtain ⟨p, l, e, Rm, s, m, args, below, meth, c, nL, T, B, Q⟩ := X
  intro H locs ls hR hS hl
  exact W.lcmp C.1 C.2.1 d (k H locs ls hR hS hl)
theorem v_dup (C : Cx X own cc rm T0 B0 nL0) {v : Value} (d : decode cc pc = .ok (.dup, 1)) (hv : v.category = 1) (k : V X kc ks z S I J R (pc + 1) lv (v :: v :: st)) : V X kc ks z S I J R (pc) lv (v :: st) := by
  obtain ⟨p, l, e, Rm, s, m, args, below, meth, c, nL, T, B, Q⟩ := X
  intro H locs ls hR hS hl
  exact lv_dup C.1 C.2.1 d hv (k H locs ls hR hS hl)
theorem v_dup2 (C : Cx X own cc rm T0 B0 nL0) {v u : Value} (d : decode cc pc = .ok (.dup2, 1)) (hv : v.category = 1) (hu : u.category = 1) (k : V X kc ks z S I J R (pc + 1) lv (v :: u :: v :: u :: st)) : V X kc ks z S I J R (pc) lv (v :: u :: st) := by
  obtain ⟨p, l, e, Rm, s, m, args, below, meth, c, nL, T, B, Q⟩ := X
  intro H locs ls hR hS hl
  exact lv_dup2_11 C.1 C.2.1 d hv hu (k H locs ls hR hS hl)
theorem v_if_eq (C : Cx X own cc rm T0 B0 nL0) {x : Int32} {off : Int} (tgt : Nat) (d : decode cc pc = .ok (.ifCond .eq off, 3)) (ht : (pc : Int) + off = (tgt : Int)) (kt : x = 0 → V X kc ks z S I J R tgt lv st) (kf : ¬ x = 0 → V X kc ks z S I J R (pc + 3) lv st) : V X kc ks z S I J R pc lv (.int x :: st) := by
  obtain ⟨p, l, e, Rm, s, m, args, below, meth, c, nL, T, B, Q⟩ := X
  intro H locs ls hR hS hl
  exact lv_if_eq C.1 C.2.1 d ht (fun h => kt h H locs ls hR hS hl) (fun h => kf h H locs ls hR hS hl)
theorem v_icmp_eq (C : Cx X own cc rm T0 B0 nL0) {x y : Int32} {off : Int} (tgt : Nat) (d : decode cc pc = .ok (.if_icmp .eq off, 3)) (ht : (pc : Int) + off = (tgt : Int)) (kt : x = y → V X kc ks z S I J R tgt lv st) (kf : ¬ x = y → V X kc ks z S I J R (pc + 3) lv st) : V X kc ks z S I J R pc lv (.int y :: .int x :: st) := by
  obtain ⟨p, l, e, Rm, s, m, args, below, meth, c, nL, T, B, Q⟩ := X
  intro H locs ls hR hS hl
  exact lv_icmp_eq C.1 C.2.1 d ht (fun h => kt h H locs ls hR hS hl) (fun h => kf h H locs ls hR hS hl)
theorem v_if_ne (C : Cx X own cc rm T0 B0 nL0) {x : Int32} {off : Int} (tgt : Nat) (d : decode cc pc = .ok (.ifCond .ne off, 3)) (ht : (pc : Int) + off = (tgt : Int)) (kt : ¬ x = 0 → V X kc ks z S I J R tgt lv st) (kf : x = 0 → V X kc ks z S I J R (pc + 3) lv st) : V X kc ks z S I J R pc lv (.int x :: st) := by
  obtain ⟨p, l, e, Rm, s, m, args, below, meth, c, nL, T, B, Q⟩ := X
  intro H locs ls hR hS hl
  exact lv_if_ne C.1 C.2.1 d ht (fun h => kt h H locs ls hR hS hl) (fun h => kf h H locs ls hR hS hl)
theorem v_icmp_ne (C : Cx X own cc rm T0 B0 nL0) {x y : Int32} {off : Int} (tgt : Nat) (d : decode cc pc = .ok (.if_icmp .ne off, 3)) (ht : (pc : Int) + off = (tgt : Int)) (kt : ¬ x = y → V X kc ks z S I J R tgt lv st) (kf : x = y → V X kc ks z S I J R (pc + 3) lv st) : V X kc ks z S I J R pc lv (.int y :: .int x :: st) := by
  obtain ⟨p, l, e, Rm, s, m, args, below, meth, c, nL, T, B, Q⟩ := X
  intro H locs ls hR hS hl
  exact lv_icmp_ne C.1 C.2.1 d ht (fun h => kt h H locs ls hR hS hl) (fun h => kf h H locs ls hR hS hl)
theorem v_if_lt (C : Cx X own cc rm T0 B0 nL0) {x : Int32} {off : Int} (tgt : Nat) (d : decode cc pc = .ok (.ifCond .lt off, 3)) (ht : (pc : Int) + off = (tgt : Int)) (kt : x < 0 → V X kc ks z S I J R tgt lv st) (kf : ¬ x < 0 → V X kc ks z S I J R (pc + 3) lv st) : V X kc ks z S I J R pc lv (.int x :: st) := by
  obtain ⟨p, l, e, Rm, s, m, args, below, meth, c, nL, T, B, Q⟩ := X
  intro H locs ls hR hS hl
  exact lv_if_lt C.1 C.2.1 d ht (fun h => kt h H locs ls hR hS hl) (fun h => kf h H locs ls hR hS hl)
theorem v_icmp_lt (C : Cx X own cc rm T0 B0 nL0) {x y : Int32} {off : Int} (tgt : Nat) (d : decode cc pc = .ok (.if_icmp .lt off, 3)) (ht : (pc : Int) + off = (tgt : Int)) (kt : x < y → V X kc ks z S I J R tgt lv st) (kf : ¬ x < y → V X kc ks z S I J R (pc + 3) lv st) : V X kc ks z S I J R pc lv (.int y :: .int x :: st) := by
  obtain ⟨p, l, e, Rm, s, m, args, below, meth, c, nL, T, B, Q⟩ := X
  intro H locs ls hR hS hl
  exact lv_icmp_lt C.1 C.2.1 d ht (fun h => kt h H locs ls hR hS hl) (fun h => kf h H locs ls hR hS hl)
theorem v_if_ge (C : Cx X own cc rm T0 B0 nL0) {x : Int32} {off : Int} (tgt : Nat) (d : decode cc pc = .ok (.ifCond .ge off, 3)) (ht : (pc : Int) + off = (tgt : Int)) (kt : 0 ≤ x → V X kc ks z S I J R tgt lv st) (kf : ¬ 0 ≤ x → V X kc ks z S I J R (pc + 3) lv st) : V X kc ks z S I J R pc lv (.int x :: st) := by
  obtain ⟨p, l, e, Rm, s, m, args, below, meth, c, nL, T, B, Q⟩ := X
  intro H locs ls hR hS hl
  exact lv_if_ge C.1 C.2.1 d ht (fun h => kt h H locs ls hR hS hl) (fun h => kf h H locs ls hR hS hl)
theorem v_icmp_ge (C : Cx X own cc rm T0 B0 nL0) {x y : Int32} {off : Int} (tgt : Nat) (d : decode cc pc = .ok (.if_icmp .ge off, 3)) (ht : (pc : Int) + off = (tgt : Int)) (kt : y ≤ x → V X kc ks z S I J R tgt lv st) (kf : ¬ y ≤ x → V X kc ks z S I J R (pc + 3) lv st) : V X kc ks z S I J R pc lv (.int y :: .int x :: st) := by
  obtain ⟨p, l, e, Rm, s, m, args, below, meth, c, nL, T, B, Q⟩ := X
  intro H locs ls hR hS hl
  exact lv_icmp_ge C.1 C.2.1 d ht (fun h => kt h H locs ls hR hS hl) (fun h => kf h H locs ls hR hS hl)
theorem v_if_gt (C : Cx X own cc rm T0 B0 nL0) {x : Int32} {off : Int} (tgt : Nat) (d : decode cc pc = .ok (.ifCond .gt off, 3)) (ht : (pc : Int) + off = (tgt : Int)) (kt : 0 < x → V X kc ks z S I J R tgt lv st) (kf : ¬ 0 < x → V X kc ks z S I J R (pc + 3) lv st) : V X kc ks z S I J R pc lv (.int x :: st) := by
  obtain ⟨p, l, e, Rm, s, m, args, below, meth, c, nL, T, B, Q⟩ := X
  intro H locs ls hR hS hl
  exact lv_if_gt C.1 C.2.1 d ht (fun h => kt h H locs ls hR hS hl) (fun h => kf h H locs ls hR hS hl)
theorem v_icmp_gt (C : Cx X own cc rm T0 B0 nL0) {x y : Int32} {off : Int} (tgt : Nat) (d : decode cc pc = .ok (.if_icmp .gt off, 3)) (ht : (pc : Int) + off = (tgt : Int)) (kt : y < x → V X kc ks z S I J R tgt lv st) (kf : ¬ y < x → V X kc ks z S I J R (pc + 3) lv st) : V X kc ks z S I J R pc lv (.int y :: .int x :: st) := by
  obtain ⟨p, l, e, Rm, s, m, args, below, meth, c, nL, T, B, Q⟩ := X
  intro H locs ls hR hS hl
  exact lv_icmp_gt C.1 C.2.1 d ht (fun h => kt h H locs ls hR hS hl) (fun h => kf h H locs ls hR hS hl)
theorem v_if_le (C : Cx X own cc rm T0 B0 nL0) {x : Int32} {off : Int} (tgt : Nat) (d : decode cc pc = .ok (.ifCond .le off, 3)) (ht : (pc : Int) + off = (tgt : Int)) (kt : x ≤ 0 → V X kc ks z S I J R tgt lv st) (kf : ¬ x ≤ 0 → V X kc ks z S I J R (pc + 3) lv st) : V X kc ks z S I J R pc lv (.int x :: st) := by
  obtain ⟨p, l, e, Rm, s, m, args, below, meth, c, nL, T, B, Q⟩ := X
  intro H locs ls hR hS hl
  exact lv_if_le C.1 C.2.1 d ht (fun h => kt h H locs ls hR hS hl) (fun h => kf h H locs ls hR hS hl)
theorem v_icmp_le (C : Cx X own cc rm T0 B0 nL0) {x y : Int32} {off : Int} (tgt : Nat) (d : decode cc pc = .ok (.if_icmp .le off, 3)) (ht : (pc : Int) + off = (tgt : Int)) (kt : x ≤ y → V X kc ks z S I J R tgt lv st) (kf : ¬ x ≤ y → V X kc ks z S I J R (pc + 3) lv st) : V X kc ks z S I J R pc lv (.int y :: .int x :: st) := by
  obtain ⟨p, l, e, Rm, s, m, args, below, meth, c, nL, T, B, Q⟩ := X
  intro H locs ls hR hS hl
  exact lv_icmp_le C.1 C.2.1 d ht (fun h => kt h H locs ls hR hS hl) (fun h => kf h H locs ls hR hS hl)
theorem v_goto (C : Cx X own cc rm T0 B0 nL0) {off : Int} (tgt : Nat) (d : decode cc pc = .ok (.goto off, 3)) (ht : (pc : Int) + off = (tgt : Int)) (k : V X kc ks z S I J R tgt lv st) : V X kc ks z S I J R pc lv st := by
  obtain ⟨p, l, e, Rm, s, m, args, below, meth, c, nL, T, B, Q⟩ := X
  intro H locs ls hR hS hl
  exact lv_goto C.1 C.2.1 d ht (k H locs ls hR hS hl)
theorem v_ifnonnull (C : Cx X own cc rm T0 B0 nL0) {x : Nat} {off : Int} (tgt : Nat) (d : decode cc pc = .ok (.ifnonnull off, 3)) (ht : (pc : Int) + off = (tgt : Int)) (k : V X kc ks z S I J R tgt lv st) : V X kc ks z S I J R pc lv (.ref x :: st) := by
  obtain ⟨p, l, e, Rm, s, m, args, below, meth, c, nL, T, B, Q⟩ := X
  intro H locs ls hR hS hl
  exact lv_ifnonnull C.1 C.2.1 d ht (k H locs ls hR hS hl)
theorem v_ifnonnullN (C : Cx X own cc rm T0 B0 nL0) {off : Int} (d : decode cc pc = .ok (.ifnonnull off, 3)) (k : V X kc ks z S I J R (pc + 3) lv st) : V X kc ks z S I J R pc lv (.null :: st) := by
  obtain ⟨p, l, e, Rm, s, m, args, below, meth, c, nL, T, B, Q⟩ := X
  intro H locs ls hR hS hl
  exact lv_ifnonnullN C.1 C.2.1 d (k H locs ls hR hS hl)
theorem v_ifnull (C : Cx X own cc rm T0 B0 nL0) {x : Nat} {off : Int} (d : decode cc pc = .ok (.ifnull off, 3)) (k : V X kc ks z S I J R (pc + 3) lv st) : V X kc ks z S I J R pc lv (.ref x :: st) := by
  obtain ⟨p, l, e, Rm, s, m, args, below, meth, c, nL, T, B, Q⟩ := X
  intro H locs ls hR hS hl
  exact lv_ifnull C.1 C.2.1 d (k H locs ls hR hS hl)
theorem v_ifnullN (C : Cx X own cc rm T0 B0 nL0) {off : Int} (tgt : Nat) (d : decode cc pc = .ok (.ifnull off, 3)) (ht : (pc : Int) + off = (tgt : Int)) (k : V X kc ks z S I J R tgt lv st) : V X kc ks z S I J R pc lv (.null :: st) := by
  obtain ⟨p, l, e, Rm, s, m, args, below, meth, c, nL, T, B, Q⟩ := X
  intro H locs ls hR hS hl
  exact lv_ifnullN C.1 C.2.1 d ht (k H locs ls hR hS hl)
theorem v_tableOut (C : Cx X own cc rm T0 B0 nL0) {dflt lo hi : Int} {offs : Array Int} {len : Nat} {x : Int32} (tgt : Nat) (d : decode cc pc = .ok (.tableswitch dflt lo hi offs, len)) (h : x.toInt < lo ∨ hi < x.toInt) (ht : (pc : Int) + dflt = (tgt : Int)) (k : V X kc ks z S I J R tgt lv st) : V X kc ks z S I J R pc lv (.int x :: st) := by
  obtain ⟨p, l, e, Rm, s, m, args, below, meth, c, nL, T, B, Q⟩ := X
  intro H locs ls hR hS hl
  exact lv_tableOut C.1 C.2.1 d h ht (k H locs ls hR hS hl)
theorem v_tableIn (C : Cx X own cc rm T0 B0 nL0) {dflt lo hi : Int} {offs : Array Int} {len : Nat} {x : Int32} {off : Int} (tgt : Nat) (d : decode cc pc = .ok (.tableswitch dflt lo hi offs, len)) (h1 : ¬ x.toInt < lo) (h2 : ¬ hi < x.toInt) (ho : offs[(x.toInt - lo).toNat]? = some off) (ht : (pc : Int) + off = (tgt : Int)) (k : V X kc ks z S I J R tgt lv st) : V X kc ks z S I J R pc lv (.int x :: st) := by
  obtain ⟨p, l, e, Rm, s, m, args, below, meth, c, nL, T, B, Q⟩ := X
  intro H locs ls hR hS hl
  exact lv_tableIn C.1 C.2.1 d h1 h2 ho ht (k H locs ls hR hS hl)
theorem v_at (h : ∀ {lv' st'}, lv' = lv → st' = st → V X kc ks z S I J R pc lv' st') : V X kc ks z S I J R pc lv st := h rfl rfl
theorem v_eqi {x x' : Int32} (h : x = x') (k : V X kc ks z S I J R pc lv (.int x' :: st)) : V X kc ks z S I J R pc lv (.int x :: st) := h ▸ k
theorem v_eql {x x' : Int64} (h : x = x') (k : V X kc ks z S I J R pc lv (.long x' :: st)) : V X kc ks z S I J R pc lv (.long x :: st) := h ▸ k
theorem v_mem {z' : Nat} {S' : MS} {I' : MI} {J' : MJ} {R' : MR} (k : V X kc ks z' S' I' J' R' pc lv st) (h0 : z = z') (h1 : S = S') (h2 : I = I') (h3 : J = J') (h4 : R = R') : V X kc ks z S I J R pc lv st := by subst h0 h1 h2 h3 h4; exact k
theorem v_widen {k n : Nat} (h1 : kc ≤ k) (h2 : ks ≤ n) (kk : V X k n z S I J R pc lv st) : V X kc ks z S I J R pc lv st := by
  obtain ⟨p, l, e, Rm, s, m, args, below, meth, c, nL, T, B, Q⟩ := X
  intro H locs ls hR hS hl
  exact W.widen h1 h2 (kk H locs ls hR hS hl)
theorem pb_8 : ∀ n : Nat, n < 128 → (Int8.ofInt (n : Int)).toInt32 = nI n := by decide +kernel
theorem v_iconstN (n : Nat) (C : Cx X own cc rm T0 B0 nL0) (d : decode cc pc = .ok (.iconst (n : Int), 1)) (k : V X kc ks z S I J R (pc + 1) lv (.int (nI n) :: st)) : V X kc ks z S I J R pc lv st := v_iconst C d rfl k
theorem v_bipushN (n : Nat) (hn : n < 128) (C : Cx X own cc rm T0 B0 nL0) (d : decode cc pc = .ok (.bipush (n : Int), 2)) (k : V X kc ks z S I J R (pc + 2) lv (.int (nI n) :: st)) : V X kc ks z S I J R pc lv st := v_bipush C d (pb_8 n hn) k
theorem v_sipushN (n : Nat) (hn : (Int16.ofInt (n : Int)).toInt32 = nI n) (C : Cx X own cc rm T0 B0 nL0) (d : decode cc pc = .ok (.sipush (n : Int), 3)) (k : V X kc ks z S I J R (pc + 3) lv (.int (nI n) :: st)) : V X kc ks z S I J R pc lv st := v_sipush C d hn k
theorem v_lconstN (n : Fin 2) (C : Cx X own cc rm T0 B0 nL0) (d : decode cc pc = .ok (.lconst n, 1)) (k : V X kc ks z S I J R (pc + 1) lv (.long (lN n) :: st)) : V X kc ks z S I J R pc lv st := v_lconst C d rfl k
theorem v_iaddN {a b : Nat} (C : Cx X own cc rm T0 B0 nL0) (d : decode cc pc = .ok (.iadd, 1)) (k : V X kc ks z S I J R (pc + 1) lv (.int (nI (a + b)) :: st)) : V X kc ks z S I J R pc lv (.int (nI b) :: .int (nI a) :: st) := v_iadd C d (by rw [nI_add]; exact k)
theorem v_imulN {a b : Nat} (C : Cx X own cc rm T0 B0 nL0) (d : decode cc pc = .ok (.imul, 1)) (k : V X kc ks z S I J R (pc + 1) lv (.int (nI (a * b)) :: st)) : V X kc ks z S I J R pc lv (.int (nI b) :: .int (nI a) :: st) := v_imul C d (by rw [pk_mul]; exact k)
theorem v_isubN {a b : Nat} (C : Cx X own cc rm T0 B0 nL0) (d : decode cc pc = .ok (.isub, 1)) (h : b ≤ a) (k : V X kc ks z S I J R (pc + 1) lv (.int (nI (a - b)) :: st)) : V X kc ks z S I J R pc lv (.int (nI b) :: .int (nI a) :: st) := v_isub C d (by rw [pk_sub h]; exact k)
theorem v_idivN {a b : Nat} (C : Cx X own cc rm T0 B0 nL0) (d : decode cc pc = .ok (.idiv, 1)) (ha : a < 2147483648) (h0 : 0 < b) (hb : b < 2147483648) (k : V X kc ks z S I J R (pc + 1) lv (.int (nI (a / b)) :: st)) : V X kc ks z S I J R pc lv (.int (nI b) :: .int (nI a) :: st) := v_idiv C d (nI_ne0 h0 hb) (by rw [pk_div ha h0 hb]; exact k)
theorem v_iremN {a b : Nat} (C : Cx X own cc rm T0 B0 nL0) (d : decode cc pc = .ok (.irem, 1)) (ha : a < 2147483648) (h0 : 0 < b) (hb : b < 2147483648) (k : V X kc ks z S I J R (pc + 1) lv (.int (nI (a % b)) :: st)) : V X kc ks z S I J R pc lv (.int (nI b) :: .int (nI a) :: st) := v_irem C d (nI_ne0 h0 hb) (by rw [pk_rem ha h0 hb]; exact k)
theorem v_i2lN {a : Nat} (C : Cx X own cc rm T0 B0 nL0) (d : decode cc pc = .ok (.i2l, 1)) (h : a < 2147483648) (k : V X kc ks z S I J R (pc + 1) lv (.long (lN a) :: st)) : V X kc ks z S I J R pc lv (.int (nI a) :: st) := v_i2l C d (by rw [nI_l h]; exact k)
theorem v_l2iN {a : Nat} (C : Cx X own cc rm T0 B0 nL0) (d : decode cc pc = .ok (.l2i, 1)) (k : V X kc ks z S I J R (pc + 1) lv (.int (nI a) :: st)) : V X kc ks z S I J R pc lv (.long (lN a) :: st) := v_l2i C d (by rw [lN_i]; exact k)
theorem v_laddN {a b : Nat} (C : Cx X own cc rm T0 B0 nL0) (d : decode cc pc = .ok (.ladd, 1)) (k : V X kc ks z S I J R (pc + 1) lv (.long (lN (a + b)) :: st)) : V X kc ks z S I J R pc lv (.long (lN b) :: .long (lN a) :: st) := v_ladd C d (by rw [lN_add]; exact k)
theorem v_lmulN {a b : Nat} (C : Cx X own cc rm T0 B0 nL0) (d : decode cc pc = .ok (.lmul, 1)) (k : V X kc ks z S I J R (pc + 1) lv (.long (lN (a * b)) :: st)) : V X kc ks z S I J R pc lv (.long (lN b) :: .long (lN a) :: st) := v_lmul C d (by rw [lN_mul]; exact k)
theorem v_iincN {q : Nat} {a : Nat} (n : Nat) (C : Cx X own cc rm T0 B0 nL0) (d : decode cc pc = .ok (.iinc q (n : Int), 3)) (h : lv[q]? = some (some (.int (nI a)))) (hn : q < nL0) (k : V X kc ks z S I J R (pc + 3) (sto1 lv q (.int (nI (a + n)))) st) : V X kc ks z S I J R pc lv st := v_iinc C d h (by rw [← nI_add]; rfl) hn k
-- eq : x = y / ¬ x = y
theorem v_icmp_eqN {a b : Nat} (C : Cx X own cc rm T0 B0 nL0) {off : Int} (tgt : Nat) (d : decode cc pc = .ok (.if_icmp .eq off, 3)) (ha : a < 2147483648) (hb : b < 2147483648) (ht : (pc : Int) + off = (tgt : Int)) (kt : a = b → V X kc ks z S I J R tgt lv st) (kf : ¬ a = b → V X kc ks z S I J R (pc + 3) lv st) : V X kc ks z S I J R pc lv (.int (nI b) :: .int (nI a) :: st) := v_icmp_eq C tgt d ht (fun h => kt ((nI_eq ha hb).mp h)) (fun h => kf (fun q => h ((nI_eq ha hb).mpr q)))
-- ne : ¬ x = y / x = y
theorem v_icmp_neN {a b : Nat} (C : Cx X own cc rm T0 B0 nL0) {off : Int} (tgt : Nat) (d : decode cc pc = .ok (.if_icmp .ne off, 3)) (ha : a < 2147483648) (hb : b < 2147483648) (ht : (pc : Int) + off = (tgt : Int)) (kt : ¬ a = b → V X kc ks z S I J R tgt lv st) (kf : a = b → V X kc ks z S I J R (pc + 3) lv st) : V X kc ks z S I J R pc lv (.int (nI b) :: .int (nI a) :: st) := v_icmp_ne C tgt d ht (fun h => kt (fun q => h ((nI_eq ha hb).mpr q))) (fun h => kf ((nI_eq ha hb).mp h))
-- lt : x < y / ¬ x < y
theorem v_icmp_ltN {a b : Nat} (C : Cx X own cc rm T0 B0 nL0) {off : Int} (tgt : Nat) (d : decode cc pc = .ok (.if_icmp .lt off, 3)) (ha : a < 2147483648) (hb : b < 2147483648) (ht : (pc : Int) + off = (tgt : Int)) (kt : a < b → V X kc ks z S I J R tgt lv st) (kf : b ≤ a → V X kc ks z S I J R (pc + 3) lv st) : V X kc ks z S I J R pc lv (.int (nI b) :: .int (nI a) :: st) := v_icmp_lt C tgt d ht (fun h => kt ((nI_ltI ha hb).mp h)) (fun h => kf (Nat.le_of_not_lt fun q => h ((nI_ltI ha hb).mpr q)))
-- ge : y ≤ x / ¬ y ≤ x
theorem v_icmp_geN {a b : Nat} (C : Cx X own cc rm T0 B0 nL0) {off : Int} (tgt : Nat) (d : decode cc pc = .ok (.if_icmp .ge off, 3)) (ha : a < 2147483648) (hb : b < 2147483648) (ht : (pc : Int) + off = (tgt : Int)) (kt : b ≤ a → V X kc ks z S I J R tgt lv st) (kf : a < b → V X kc ks z S I J R (pc + 3) lv st) : V X kc ks z S I J R pc lv (.int (nI b) :: .int (nI a) :: st) := v_icmp_ge C tgt d ht (fun h => kt ((nI_leI hb ha).mp h)) (fun h => kf (Nat.lt_of_not_le fun q => h ((nI_leI hb ha).mpr q)))
-- gt : y < x / ¬ y < x
theorem v_icmp_gtN {a b : Nat} (C : Cx X own cc rm T0 B0 nL0) {off : Int} (tgt : Nat) (d : decode cc pc = .ok (.if_icmp .gt off, 3)) (ha : a < 2147483648) (hb : b < 2147483648) (ht : (pc : Int) + off = (tgt : Int)) (kt : b < a → V X kc ks z S I J R tgt lv st) (kf : a ≤ b → V X kc ks z S I J R (pc + 3) lv st) : V X kc ks z S I J R pc lv (.int (nI b) :: .int (nI a) :: st) := v_icmp_gt C tgt d ht (fun h => kt ((nI_ltI hb ha).mp h)) (fun h => kf (Nat.le_of_not_lt fun q => h ((nI_ltI hb ha).mpr q)))
-- le : x ≤ y / ¬ x ≤ y
theorem v_icmp_leN {a b : Nat} (C : Cx X own cc rm T0 B0 nL0) {off : Int} (tgt : Nat) (d : decode cc pc = .ok (.if_icmp .le off, 3)) (ha : a < 2147483648) (hb : b < 2147483648) (ht : (pc : Int) + off = (tgt : Int)) (kt : a ≤ b → V X kc ks z S I J R tgt lv st) (kf : b < a → V X kc ks z S I J R (pc + 3) lv st) : V X kc ks z S I J R pc lv (.int (nI b) :: .int (nI a) :: st) := v_icmp_le C tgt d ht (fun h => kt ((nI_leI ha hb).mp h)) (fun h => kf (Nat.lt_of_not_le fun q => h ((nI_leI ha hb).mpr q)))
end VR
