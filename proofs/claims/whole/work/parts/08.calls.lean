/-! ends of methods, contracts, calls -/
abbrev PT : Type := Int32 → Int64 → Option Nat → Nat → MS → MI → MJ → MR → Prop
abbrev Sp : Type := List Value → Nat → MS → MI → MJ → MR → PT → Prop
/-- what a method gives back: 0 nothing, 1 an int, 2 a long, 3 a reference -/
def rvv (kd : Nat) (i : Int32) (j : Int64) (r : Option Nat) : List Value := match kd with
  | 0 => []
  | 1 => [.int i]
  | 2 => [.long j]
  | _ => [va_rf r]
def Qx (T : TC) (B kd : Nat) (Post : PT) : Array Value → State → Outcome → State → Prop := fun _ st o t => ∃ (i : Int32) (j : Int64) (r : Option Nat) (z : Nat) (S : MS) (I : MI) (J : MJ) (R : MR), o = .returned (rvv kd i j r).head? ∧ Post i j r z S I J R ∧ Rep T B z S I J R t.heap ∧ va_F (fun q => B ≤ q) st t
def Rt (X : CX) (rt : Option FieldType) (kd mc ms : Nat) (Post : PT) : Prop := match X with
  | (_, _, _, _, s, _, args, below, meth, _, _, T, B, Q) => meth.sig.returnType = rt ∧ Q = MQ below (Qx T B kd Post) args s mc ms (fun q => B ≤ q)
def Mt (T : TC) (B : Nat) (y : MethodName) (cc : ByteArray) (maxL : Nat) (ret : Option FieldType) (kd : Nat) (rm : Room) (sp : Sp) : Prop :=
  ∀ (l : Launch) (av : List Value) (z : Nat) (S : MS) (I : MI) (J : MJ) (R : MR) (Post : PT), sp av z S I J R Post → Met l y (Cond.code y cc maxL ret :: wG) rm (va_Pc av (fun U => Rep T B z S I J R U.heap ∧ Kx T U)) (Qx T B kd Post) rm.cells rm.slots (fun q => B ≤ q)
theorem Mt_of {T : TC} {B : Nat} {y : MethodName} {cc : ByteArray} {maxL : Nat} {ret : Option FieldType} {kd : Nat} {rm : Room} {sp : Sp} (hy : plainName y.cls = true) (hfit : ∀ av z S I J R Post, sp av z S I J R Post → (lg_sl av).length ≤ maxL)
    (body : ∀ X av z S I J R Post, sp av z S I J R Post → Cx X y.cls cc rm T B maxL → Rt X ret kd rm.cells rm.slots Post → (y.name = "<init>" → IsInit X) → V X 0 0 z S I J R 0 (ent av maxL) []) : Mt T B y cc maxL ret kd rm sp := by
  intro l av z S I J R Post hsp
  refine Met.ofW (cc := cc) (maxL := maxL) (ret := ret) hy rfl ?_
  intro p e s m args below meth c s₁ Bd hml hv
  obtain ⟨rfl, hR, hK⟩ := hv
  have hts := atoms_spec (ws := Cond.code y cc maxL ret :: wG) Bd.pre
  have hl := lv_entry av (n := maxL) (hfit av z S I J R Post hsp)
  rw [lg_entry_eq]
  generalize (lg_sl av ++ List.replicate (maxL - (lg_sl av).length) Slot.unset).toArray = ls at hl ⊢
  exact body (p, l, e, rm, s, m, av.toArray, below, meth, c, maxL, T, B, MQ below (Qx T B kd Post) av.toArray s rm.cells rm.slots (fun q => B ≤ q)) av z S I J R Post hsp
    ⟨Bd.exec, Bd.bytes, hml, findClass_of_methodNamed Bd.named, fun w hw => hts w (List.mem_cons_of_mem _ hw), hK, by rw [hR.1]; exact hR.2.1, Bd.notSynchronized, rfl, rfl, rfl, rfl⟩ ⟨Bd.returns, rfl⟩ (fun hn => ((name_of_methodNamed Bd.named Bd.method).1).trans hn)
    s.heap [] ls hR va_S.rf (lvh_ent hl)
section VC
variable {X : CX} {own : String} {cc : ByteArray} {rm : Room} {T0 : TC} {B0 nL0 : Nat} {kc ks z : Nat} {S : MS} {I : MI} {J : MJ} {R : MR} {pc : Nat} {lv : List (Option Value)} {st : List Value} {mc ms : Nat} {Post : PT}
theorem v_iret (C : Cx X own cc rm T0 B0 nL0) (Q : Rt X (some .int) 1 mc ms Post) {x : Int32} (d : decode cc pc = .ok (.ireturn, 1)) (h1 : kc ≤ mc) (h2 : ks ≤ ms) (hp : Post x 0 none z S I J R) : V X kc ks z S I J R pc lv [.int x] := by
  obtain ⟨p, l, e, Rm, s, m, args, below, meth, c, nL, T, B, Q0⟩ := X
  intro H locs ls hR hS hl
  obtain ⟨c1, c2, c3, c4, c5, c6, c7, c8, c9, c10, c11, c12⟩ := id C
  obtain ⟨hr, rfl⟩ := Q
  refine W.widen h1 h2 ?_
  exact W.iret c1 c2 hr (fun t ht hW => ⟨x, 0, none, z, S, I, J, R, rfl, hp, by rw [ht]; exact hR, hS.F ht⟩) hS.2.2 d c8
theorem v_zret (C : Cx X own cc rm T0 B0 nL0) (Q : Rt X (some .boolean) 1 mc ms Post) {x : Int32} (d : decode cc pc = .ok (.ireturn, 1)) (h1 : kc ≤ mc) (h2 : ks ≤ ms) (hx : narrow .boolean (.int x) = .int x) (hp : Post x 0 none z S I J R) : V X kc ks z S I J R pc lv [.int x] := by
  obtain ⟨p, l, e, Rm, s, m, args, below, meth, c, nL, T, B, Q0⟩ := X
  intro H locs ls hR hS hl
  obtain ⟨c1, c2, c3, c4, c5, c6, c7, c8, c9, c10, c11, c12⟩ := id C
  obtain ⟨hr, rfl⟩ := Q
  refine W.widen h1 h2 ?_
  exact W.zret c1 c2 hr hx (fun t ht hW => ⟨x, 0, none, z, S, I, J, R, rfl, hp, by rw [ht]; exact hR, hS.F ht⟩) hS.2.2 d c8
theorem v_lret (C : Cx X own cc rm T0 B0 nL0) (Q : Rt X (some .long) 2 mc ms Post) {x : Int64} (d : decode cc pc = .ok (.lreturn, 1)) (h1 : kc ≤ mc) (h2 : ks ≤ ms) (hp : Post 0 x none z S I J R) : V X kc ks z S I J R pc lv [.long x] := by
  obtain ⟨p, l, e, Rm, s, m, args, below, meth, c, nL, T, B, Q0⟩ := X
  intro H locs ls hR hS hl
  obtain ⟨c1, c2, c3, c4, c5, c6, c7, c8, c9, c10, c11, c12⟩ := id C
  obtain ⟨hr, rfl⟩ := Q
  refine W.widen h1 h2 ?_
  exact W.lret c1 c2 hr (fun t ht hW => ⟨0, x, none, z, S, I, J, R, rfl, hp, by rw [ht]; exact hR, hS.F ht⟩) hS.2.2 d c8
theorem v_ret (C : Cx X own cc rm T0 B0 nL0) (Q : Rt X none 0 mc ms Post) (d : decode cc pc = .ok (.return_, 1)) (h1 : kc ≤ mc) (h2 : ks ≤ ms) (hp : Post 0 0 none z S I J R) : V X kc ks z S I J R pc lv [] := by
  obtain ⟨p, l, e, Rm, s, m, args, below, meth, c, nL, T, B, Q0⟩ := X
  intro H locs ls hR hS hl
  obtain ⟨c1, c2, c3, c4, c5, c6, c7, c8, c9, c10, c11, c12⟩ := id C
  obtain ⟨hr, rfl⟩ := Q
  refine W.widen h1 h2 ?_
  exact W.vret c1 c2 hr (fun t ht hW => ⟨0, 0, none, z, S, I, J, R, rfl, hp, by rw [ht]; exact hR, hS.F ht⟩) hS.2.2 d c8
theorem v_aret {rt : FieldType} (C : Cx X own cc rm T0 B0 nL0) (Q : Rt X (some rt) 3 mc ms Post) {r : Option Nat} (d : decode cc pc = .ok (.areturn, 1)) (h1 : kc ≤ mc) (h2 : ks ≤ ms) (hrt : (∃ n, rt = .object n) ∨ ∃ t, rt = .array t) (hp : Post 0 0 r z S I J R) : V X kc ks z S I J R pc lv [va_rf r] := by
  obtain ⟨p, l, e, Rm, s, m, args, below, meth, c, nL, T, B, Q0⟩ := X
  intro H locs ls hR hS hl
  obtain ⟨c1, c2, c3, c4, c5, c6, c7, c8, c9, c10, c11, c12⟩ := id C
  obtain ⟨hr, rfl⟩ := Q
  refine W.widen h1 h2 ?_
  exact W.aret c1 c2 hr hrt (by cases r with | none => exact Or.inl rfl | some a => exact Or.inr ⟨a, rfl⟩) (fun t ht hW => ⟨0, 0, r, z, S, I, J, R, rfl, hp, by rw [ht]; exact hR, hS.F ht⟩) hS.2.2 d c8
/-- a call's words -/
def LkB (own : String) (ix : Nat) (y : MethodName) (bytes : ByteArray) (maxL : Nat) (ret : Option FieldType) (n : Nat) : Prop :=
  Cond.methodLink own ix y ∈ wG ∧ Cond.initialized y.cls ∈ wG ∧ Cond.code y bytes maxL ret ∈ wG ∧ (y.cls ≠ "java/lang/invoke/MethodHandle" ∧ y.cls ≠ "java/lang/invoke/VarHandle" ∧ (parseMethodDescriptor y.desc).map (fun d => d.parameters.length) = some n)
theorem good_ws {y : MethodName} {bytes : ByteArray} {maxL : Nat} {ret : Option FieldType} (h : Cond.code y bytes maxL ret ∈ wG) : GoodIn wG (Cond.code y bytes maxL ret :: wG) := by
  intro w hw
  rcases List.mem_cons.mp hw with rfl | hw
  · exact ⟨h, good_of_word (wg_good h)⟩
  · exact ⟨hw, good_of_word (wg_good hw)⟩
theorem blindK {T : TC} {B z : Nat} {S : MS} {I : MI} {J : MJ} {R : MR} {av : List Value} : FrameBlind (va_Pc av (fun U => Rep T B z S I J R U.heap ∧ Kx T U)) := fun a U g mk q => ⟨q.1, q.2.1, q.2.2.calling g mk a⟩
/-- what any call comes to -/
theorem v_run {p : Program} {l : Launch} {e : Env} {Rm : Room} {s : State} {m : MethodId} {args : Array Value} {below : List Frame} {meth : Method} {c : Code} {nL B kd mc ms : Nat} {T : TC} {Q : State → Prop} {H : Heap} {locs : List Loc} {ls : Array Slot} {st0 rest : List Value} {av : Array Value}
    (hS : va_S (fun q => B ≤ q) s.heap H locs) (hl : lvh ls nL lv)
    (hr : va_Run p l e Rm s m args below meth c H locs kc ks mc ms (F0 m pc ls st0) rest (Qx T B kd (fun i j r z' S' I' J' R' => V (p, l, e, Rm, s, m, args, below, meth, c, nL, T, B, Q) (kc + mc) (ks + ms) z' S' I' J' R' (pc + 3) lv (rvv kd i j r ++ rest)) av) (fun q => B ≤ q)) :
    W p l e Rm s m args below meth c H locs kc ks Q (F0 m pc ls st0) := by
  intro T1 hT X1
  obtain ⟨v, st₀, t, T', L, h0, X', hL, e1, e2, ⟨i, j, r, z', S', I', J', R', hv, hp, hrep, hF⟩, stp⟩ := hr T1 hT X1
  have hv' : v.toList ++ rest = rvv kd i j r ++ rest := by
    have h9 : v = (rvv kd i j r).head? := by injection hv
    rw [h9]
    unfold rvv
    match kd with
    | 0 => rfl
    | 1 => rfl
    | 2 => rfl
    | n + 3 => rfl
  have hF' := hF
  obtain ⟨hz, hk⟩ := hF'
  rw [h0] at hz hk
  obtain ⟨t2, a1, b1⟩ := hp T'.heap (locs ++ L) ls (by rw [e1]; exact hrep) ⟨Nat.le_trans hS.1 (by rw [e1]; exact hz), fun q h1 h2 => by rw [e1, hk q (Nat.lt_of_lt_of_le h1 hS.1) h2]; exact hS.2.1 q h1 h2, fun q hq => by
      rcases List.mem_append.mp hq with h | h
      · exact hS.2.2 q h
      · exact hL q h⟩ hl T' rfl X'
  refine ⟨t2, stp t2 ?_, b1⟩
  show Steps p.tables e below (T'.setTop (F0 m (pc + 3) ls (v.toList ++ rest))) t2
  rw [hv']
  exact a1
theorem v_callV (C : Cx X own cc rm T0 B0 nL0) {y : MethodName} {bytes : ByteArray} {maxL : Nat} {ret : Option FieldType} {kd : Nat} {rm' : Room} {sp : Sp} (M : Mt T0 B0 y bytes maxL ret kd rm' sp) {ix n : Nat} (lk : LkB own ix y bytes maxL ret n) (lk2 : Cond.instanceMethod y ∈ wG ∧ Cond.selects y.cls y y ∈ wG) (ci : Nat) {Tn : u_T} {N : Nat} (hcl : vwCl[ci]? = some (y.cls, Tn, N)) (d : decode cc pc = .ok (.invokevirtual ix, 3))
    (hroom : rm'.frames + 1 ≤ rm.frames ∧ 8 + (maxL + 11) + rm'.locals ≤ rm.locals) {b : Nat} (av : List Value) (rest : List Value) (hlen : av.length = n) (hst : st = av.reverse ++ .ref b :: rest) (hcat : (rest.map fun v => v.category).sum ≤ 8) (hf : kc + rm'.cells ≤ rm.cells ∧ ks + rm'.slots ≤ rm.slots) (hb : S b = (ci + 1, 0)) {fs : List Value} (hfs : cT T0 S I J R b = .inr (ci, fs))
    (h : sp (.ref b :: av) z S I J R (fun i j r z' S' I' J' R' => V X (kc + rm'.cells) (ks + rm'.slots) z' S' I' J' R' (pc + 3) lv (rvv kd i j r ++ rest))) : V X kc ks z S I J R pc lv st := by
  obtain ⟨p, l, e, Rm, s, m, args, below, meth, c, nL, T, B, Q⟩ := X
  intro H locs ls hR hS hl
  obtain ⟨c1, c2, c3, c4, c5, c6, c7, c8, c9, c10, c11, c12⟩ := id C
  subst c9 c10 c11
  have cw := callB_of (R := Rm) (s := s) (args := args) (own := own) (index := ix) n c5 (good_ws lk.2.2.1) rfl (rm := rm') rfl rfl (c5 _ lk.2.1) (c5 _ lk.1) lk.2.2.2 hroom
  have hrec := va_recv (D := T.1) (tys := tys4 T) c6.1 (P1 (hR.at (sne hb) hfs)) hcl (q0 := 0) rfl
  exact v_run hS hl (va_runV ⟨c1, c2, c3, c4, c5⟩ (M l _ z S I J R _ h) ⟨cw, c5 _ lk2.1, c5 _ lk2.2⟩ ⟨blindK, hrec, fun U hU hW => ⟨rfl, by rw [hU]; exact hR, c6.warm hW⟩⟩ rfl hlen hl.1 hst (lv_room hcat) d hf)
theorem v_callS (C : Cx X own cc rm T0 B0 nL0) {y : MethodName} {bytes : ByteArray} {maxL : Nat} {ret : Option FieldType} {kd : Nat} {rm' : Room} {sp : Sp} (M : Mt T0 B0 y bytes maxL ret kd rm' sp) {ix n : Nat} (lk : LkB own ix y bytes maxL ret n) (lk2 : Cond.static y ∈ wG) (d : decode cc pc = .ok (.invokestatic ix, 3))
    (hroom : rm'.frames + 1 ≤ rm.frames ∧ 8 + (maxL + 11) + rm'.locals ≤ rm.locals) (av : List Value) (rest : List Value) (hlen : av.length = n) (hst : st = av.reverse ++ rest) (hcat : (rest.map fun v => v.category).sum ≤ 8) (hf : kc + rm'.cells ≤ rm.cells ∧ ks + rm'.slots ≤ rm.slots)
    (h : sp av z S I J R (fun i j r z' S' I' J' R' => V X (kc + rm'.cells) (ks + rm'.slots) z' S' I' J' R' (pc + 3) lv (rvv kd i j r ++ rest))) : V X kc ks z S I J R pc lv st := by
  obtain ⟨p, l, e, Rm, s, m, args, below, meth, c, nL, T, B, Q⟩ := X
  intro H locs ls hR hS hl
  obtain ⟨c1, c2, c3, c4, c5, c6, c7, c8, c9, c10, c11, c12⟩ := id C
  subst c9 c10 c11
  have cw := callB_of (R := Rm) (s := s) (args := args) (own := own) (index := ix) n c5 (good_ws lk.2.2.1) rfl (rm := rm') rfl rfl (c5 _ lk.2.1) (c5 _ lk.1) lk.2.2.2 hroom
  exact v_run hS hl (va_runS ⟨c1, c2, c3, c4, c5⟩ (M l _ z S I J R _ h) ⟨cw, c5 _ lk2⟩ ⟨blindK, fun U hU hW => ⟨rfl, by rw [hU]; exact hR, c6.warm hW⟩⟩ rfl hlen hl.1 hst (lv_room hcat) d hf)
theorem v_callI (C : Cx X own cc rm T0 B0 nL0) {y : MethodName} {bytes : ByteArray} {maxL : Nat} {rm' : Room} {sp : Sp} (M : Mt T0 B0 y bytes maxL none 0 rm' sp) {ix n : Nat} (lk : LkB own ix y bytes maxL none n) (hy : y.name = "<init>") (lk2 : Cond.instanceMethod y ∈ wG) (d : decode cc pc = .ok (.invokespecial ix, 3))
    (hroom : rm'.frames + 1 ≤ rm.frames ∧ 8 + (maxL + 11) + rm'.locals ≤ rm.locals) {b : Nat} (av : List Value) (rest : List Value) (hlen : av.length = n) (hst : st = av.reverse ++ .ref b :: rest) (hcat : (rest.map fun v => v.category).sum ≤ 8) (hf : kc + rm'.cells ≤ rm.cells ∧ ks + rm'.slots ≤ rm.slots)
    (h : sp (.ref b :: av) z S I J R (fun _ _ _ z' S' I' J' R' => V X (kc + rm'.cells) (ks + rm'.slots) z' S' I' J' R' (pc + 3) lv rest)) : V X kc ks z S I J R pc lv st := by
  obtain ⟨p, l, e, Rm, s, m, args, below, meth, c, nL, T, B, Q⟩ := X
  intro H locs ls hR hS hl
  obtain ⟨c1, c2, c3, c4, c5, c6, c7, c8, c9, c10, c11, c12⟩ := id C
  subst c9 c10 c11
  have cw := callB_of (R := Rm) (s := s) (args := args) (own := own) (index := ix) n c5 (good_ws lk.2.2.1) rfl (rm := rm') rfl rfl (c5 _ lk.2.1) (c5 _ lk.1) lk.2.2.2 hroom
  exact v_run (kd := 0) hS hl (va_runI ⟨c1, c2, c3, c4, c5⟩ (M l _ z S I J R _ h) ⟨cw, hy, c5 _ lk2⟩ ⟨blindK, fun U hU hW => ⟨rfl, by rw [hU]; exact hR, c6.warm hW⟩⟩ rfl hlen hl.1 hst (lv_room hcat) d hf)
/-- a call of a nest mate's private method: the link is among Kx -/
def LkN (y : MethodName) (bytes : ByteArray) (maxL : Nat) (ret : Option FieldType) (n : Nat) : Prop :=
  Cond.initialized y.cls ∈ wG ∧ Cond.code y bytes maxL ret ∈ wG ∧ (y.cls ≠ "java/lang/invoke/MethodHandle" ∧ y.cls ≠ "java/lang/invoke/VarHandle" ∧ (parseMethodDescriptor y.desc).map (fun d => d.parameters.length) = some n)
theorem v_callSN (C : Cx X own cc rm T0 B0 nL0) {y : MethodName} {bytes : ByteArray} {maxL : Nat} {ret : Option FieldType} {kd : Nat} {rm' : Room} {sp : Sp} (M : Mt T0 B0 y bytes maxL ret kd rm' sp) {ix n : Nat} {host : String} (hn : ∀ U, Kx T0 U → va_Nw (.methodLinkNest own ix y host) U) (lk : LkN y bytes maxL ret n) (lk2 : Cond.static y ∈ wG) (d : decode cc pc = .ok (.invokestatic ix, 3))
    (hroom : rm'.frames + 1 ≤ rm.frames ∧ 8 + (maxL + 11) + rm'.locals ≤ rm.locals) (av : List Value) (rest : List Value) (hlen : av.length = n) (hst : st = av.reverse ++ rest) (hcat : (rest.map fun v => v.category).sum ≤ 8) (hf : kc + rm'.cells ≤ rm.cells ∧ ks + rm'.slots ≤ rm.slots)
    (h : sp av z S I J R (fun i j r z' S' I' J' R' => V X (kc + rm'.cells) (ks + rm'.slots) z' S' I' J' R' (pc + 3) lv (rvv kd i j r ++ rest))) : V X kc ks z S I J R pc lv st := by
  obtain ⟨p, l, e, Rm, s, m, args, below, meth, c, nL, T, B, Q⟩ := X
  intro H locs ls hR hS hl
  obtain ⟨c1, c2, c3, c4, c5, c6, c7, c8, c9, c10, c11, c12⟩ := id C
  subst c9 c10 c11
  have cw := va_cnB (R := Rm) (s := s) (args := args) (own := own) (index := ix) (host := host) n c5 (good_ws lk.2.1) rfl (rm := rm') rfl rfl (hn s c6) (c5 _ lk.1) lk.2.2 hroom
  exact v_run hS hl (va_runSN ⟨c1, c2, c3, c4, c5⟩ (M l _ z S I J R _ h) ⟨cw, c5 _ lk2, trivial⟩ ⟨blindK, fun U hU hW => ⟨rfl, by rw [hU]; exact hR, c6.warm hW⟩⟩ rfl hlen hl.1 hst (lv_room hcat) d hf)
theorem v_callIN (C : Cx X own cc rm T0 B0 nL0) {y : MethodName} {bytes : ByteArray} {maxL : Nat} {rm' : Room} {sp : Sp} (M : Mt T0 B0 y bytes maxL none 0 rm' sp) {ix n : Nat} {host : String} (hn : ∀ U, Kx T0 U → va_Nw (.methodLinkNest own ix y host) U) (lk : LkN y bytes maxL none n) (hy : y.name = "<init>") (lk2 : Cond.instanceMethod y ∈ wG) (d : decode cc pc = .ok (.invokespecial ix, 3))
    (hroom : rm'.frames + 1 ≤ rm.frames ∧ 8 + (maxL + 11) + rm'.locals ≤ rm.locals) {b : Nat} (av : List Value) (rest : List Value) (hlen : av.length = n) (hst : st = av.reverse ++ .ref b :: rest) (hcat : (rest.map fun v => v.category).sum ≤ 8) (hf : kc + rm'.cells ≤ rm.cells ∧ ks + rm'.slots ≤ rm.slots)
    (h : sp (.ref b :: av) z S I J R (fun _ _ _ z' S' I' J' R' => V X (kc + rm'.cells) (ks + rm'.slots) z' S' I' J' R' (pc + 3) lv rest)) : V X kc ks z S I J R pc lv st := by
  obtain ⟨p, l, e, Rm, s, m, args, below, meth, c, nL, T, B, Q⟩ := X
  intro H locs ls hR hS hl
  obtain ⟨c1, c2, c3, c4, c5, c6, c7, c8, c9, c10, c11, c12⟩ := id C
  subst c9 c10 c11
  have cw := va_cnB (R := Rm) (s := s) (args := args) (own := own) (index := ix) (host := host) n c5 (good_ws lk.2.1) rfl (rm := rm') rfl rfl (hn s c6) (c5 _ lk.1) lk.2.2 hroom
  exact v_run (kd := 0) hS hl (va_runIN ⟨c1, c2, c3, c4, c5⟩ (M l _ z S I J R _ h) ⟨cw, hy, c5 _ lk2⟩ ⟨blindK, fun U hU hW => ⟨rfl, by rw [hU]; exact hR, c6.warm hW⟩⟩ rfl hlen hl.1 hst (lv_room hcat) d hf)
theorem v_mmax (C : Cx X own cc rm T0 B0 nL0) {ix : Nat} {x y : Int32} (hlk : Cond.methodLink own ix Lib.Math.max.name ∈ wG) (hst : Cond.static Lib.Math.max.name ∈ wG) (hco : Cond.code Lib.Math.max.name Lib.Math.max.code 2 (some .int) ∈ wG) (hf : 1 ≤ rm.frames) (hlo : (st.map fun v => v.category).sum + 13 ≤ rm.locals) (hc : kc ≤ rm.cells) (hs : ks ≤ rm.slots) (d : decode cc pc = .ok (.invokestatic ix, 3)) (k : V X kc ks z S I J R (pc + 3) lv (.int (if x < y then y else x) :: st)) : V X kc ks z S I J R pc lv (.int y :: .int x :: st) := by
  obtain ⟨p, l, e, Rm, s, m, args, below, meth, c, nL, T, B, Q⟩ := X
  intro H locs ls hR hS hl
  obtain ⟨c1, c2, c3, c4, c5, c6, c7, c8, c9, c10, c11, c12⟩ := id C
  subst c9
  exact va_mmax c1 c2 (by rw [c3, hl.1]) c4 (c5 _ hlk) (c5 _ hst) (c5 (.initialized "java/lang/Math") wt_7) (c5 _ hco) hf hlo hc hs d (k H locs ls hR hS hl)
theorem v_mmin (C : Cx X own cc rm T0 B0 nL0) {ix : Nat} {x y : Int32} (hlk : Cond.methodLink own ix Lib.Math.min.name ∈ wG) (hst : Cond.static Lib.Math.min.name ∈ wG) (hco : Cond.code Lib.Math.min.name Lib.Math.min.code 2 (some .int) ∈ wG) (hf : 1 ≤ rm.frames) (hlo : (st.map fun v => v.category).sum + 13 ≤ rm.locals) (hc : kc ≤ rm.cells) (hs : ks ≤ rm.slots) (d : decode cc pc = .ok (.invokestatic ix, 3)) (k : V X kc ks z S I J R (pc + 3) lv (.int (if y < x then y else x) :: st)) : V X kc ks z S I J R pc lv (.int y :: .int x :: st) := by
  obtain ⟨p, l, e, Rm, s, m, args, below, meth, c, nL, T, B, Q⟩ := X
  intro H locs ls hR hS hl
  obtain ⟨c1, c2, c3, c4, c5, c6, c7, c8, c9, c10, c11, c12⟩ := id C
  subst c9
  exact va_mmin c1 c2 (by rw [c3, hl.1]) c4 (c5 _ hlk) (c5 _ hst) (c5 (.initialized "java/lang/Math") wt_7) (c5 _ hco) hf hlo hc hs d (k H locs ls hR hS hl)
theorem v_mabsL (C : Cx X own cc rm T0 B0 nL0) {ix : Nat} {x : Int64} (hlk : Cond.methodLink own ix Lib.MathLoose.abs_long.x ∈ wG) (hst : Cond.static Lib.MathLoose.abs_long.x ∈ wG) (hco : Cond.code Lib.MathLoose.abs_long.x Lib.MathLoose.abs_long.code 2 (some .long) ∈ wG) (hf : 1 ≤ rm.frames) (hlo : (st.map fun v => v.category).sum + 13 ≤ rm.locals) (hc : kc ≤ rm.cells) (hs : ks ≤ rm.slots) (d : decode cc pc = .ok (.invokestatic ix, 3)) (k : V X kc ks z S I J R (pc + 3) lv (.long (if 0 < x then x else -x) :: st)) : V X kc ks z S I J R pc lv (.long x :: st) := by
  obtain ⟨p, l, e, Rm, s, m, args, below, meth, c, nL, T, B, Q⟩ := X
  intro H locs ls hR hS hl
  obtain ⟨c1, c2, c3, c4, c5, c6, c7, c8, c9, c10, c11, c12⟩ := id C
  subst c9
  exact va_mabs_long c1 c2 (by rw [c3, hl.1]) c4 (c5 _ hlk) (c5 _ hst) (c5 (.initialized "java/lang/Math") wt_7) (c5 _ hco) hf hlo hc hs d (k H locs ls hR hS hl)
/-- n ints of the row a from place sp on, laid into the row b from place dp on -/
def mcp (I : MI) (a sp b dp n : Nat) : MI := fun q k => if q = b ∧ dp ≤ k ∧ k < dp + n then I a (sp + (k - dp)) else I q k
theorem v_copyi (C : Cx X own cc rm T0 B0 nL0) {ix a0 a n0 n1 sp dp n : Nat} (hlk : Cond.methodLink own ix arraycopyName ∈ wG) (hnat : Cond.native arraycopyName ∈ wG) (hstt : Cond.static arraycopyName ∈ wG) (hs0 : S a0 = (7, n0)) (hs1 : S a = (7, n1)) (h4 : sp + n ≤ n0) (h5 : dp + n ≤ n1) (h6 : n0 < 100000) (h7 : n1 < 100000) (hf : 1 ≤ rm.frames) (hlo : (st.map fun v => v.category).sum + (nativeFrameWords "java/lang/System" "arraycopy" 5 + 11) ≤ rm.locals) (d : decode cc pc = .ok (.invokestatic ix, 3)) (kk : V X kc ks z S (mcp I a0 sp a dp n) J R (pc + 3) lv st) : V X kc ks z S I J R pc lv (.int (nI n) :: .int (nI dp) :: .ref a :: .int (nI sp) :: .ref a0 :: st) := by
  obtain ⟨p, l, e, Rm, s, m, args, below, meth, c, nL, T, B, Q⟩ := X
  intro H locs ls hR hS hl
  obtain ⟨c1, c2, c3, c4, c5, c6, c7, c8, c9, c10, c11, c12⟩ := id C
  subst c9
  have hA0 : H[a0]? = some (vp_cell T.2.1 (n0, .inl (I a0))) := hR.at (sne hs0) (cT7 (T := T) (I := I) (J := J) (R := R) hs0)
  have hA1 : H[a]? = some (vp_cell T.2.1 (n1, .inl (I a))) := hR.at (sne hs1) (cT7 (T := T) (I := I) (J := J) (R := R) hs1)
  have e_n : (nI n).toNatClampNeg = n := nI_clamp (by omega)
  have e_sp : (nI sp).toNatClampNeg = sp := nI_clamp (by omega)
  have e_dp : (nI dp).toNatClampNeg = dp := nI_clamp (by omega)
  have t_n : (nI n).toInt = (n : Int) := nI_toInt (by omega)
  have t_sp : (nI sp).toInt = (sp : Int) := nI_toInt (by omega)
  have t_dp : (nI dp).toInt = (dp : Int) := nI_toInt (by omega)
  intro T1 hT X1
  obtain ⟨-, k0, hk0, cm0, hkk0⟩ := (c6.1.2 0 _ rfl).1 n0 (fun j => .int (I a0 j))
  obtain ⟨-, k1, hk1, cm1, hkk1⟩ := (c6.1.2 0 _ rfl).1 n1 (fun j => .int (I a j))
  obtain ⟨vm', X', step⟩ := X1.arraycopy c1 c4 (c5 _ hlk) (c5 _ hnat) (c5 _ hstt) (c5 (.initialized "java/lang/System") wt_8) (src := a0) (dst := a) (cs := vp_cell T.2.1 (n0, .inl (I a0))) (cd := vp_cell T.2.1 (n1, .inl (I a))) (srcPos := nI sp) (destPos := nI dp) (n := nI n) (by rw [hT]; exact hA0) (by rw [hT]; exact hA1)
    (fun _ h => by cases h) (fun _ h => by cases h) (fun h => by cases h) (fun h => by cases h) hk0 hk1 hkk0 hkk1 (by simp) (nI_pos (by omega)) (nI_pos (by omega)) (nI_pos (by omega))
    (by rw [t_sp, t_n]; show ¬ _ > ((arrV _ n0 (fun j => .int (I a0 j))).slots.size : Int); rw [arrV_size]; omega)
    (by rw [t_dp, t_n]; show ¬ _ > ((arrV _ n1 (fun j => .int (I a j))).slots.size : Int); rw [arrV_size]; omega)
    (fun vm₁ _ i hi => by
      rw [e_n] at hi
      have e : (vp_cell T.2.1 (n0, .inl (I a0))).slots.getD ((nI sp).toNatClampNeg + i) .null = .int (I a0 (sp + i)) := by
        show (arrV _ n0 (fun j => .int (I a0 j))).slots.getD _ _ = _
        rw [e_sp, Array.getD_eq_getD_getElem?, arrV_read _ _ (by omega)]
        rfl
      refine ⟨?_, ?_⟩
      · rw [e]
        rfl
      · rw [e]
        exact trivial)
    (g := F0 m pc ls (.int (nI n) :: .int (nI dp) :: .ref a :: .int (nI sp) :: .ref a0 :: st)) rfl (by rw [c3, hl.1]) (rest := st) rfl (by rw [c2]; exact d) hf (by show 2 * 0 + _ + _ ≤ _; omega)
  have e1 : copied (vp_cell T.2.1 (n0, .inl (I a0))) (vp_cell T.2.1 (n1, .inl (I a))) (nI sp) (nI dp) (nI n) = vp_cell T.2.1 (n1, .inl (va_cpy (I a0) (I a) (nI sp).toNatClampNeg (nI dp).toNatClampNeg (nI n).toNatClampNeg)) := va_copied (fun z => .int z) T.2.1 T.2.1 (I a0) (I a) (by rw [e_sp, e_n]; exact h4)
  rw [e1, e_sp, e_dp, e_n] at X' step
  have hla : a < H.size := (Array.getElem?_eq_some_iff.mp hA1).1
  have hheap : ((T1.setVm vm').setCell a (vp_cell T.2.1 (n1, .inl (va_cpy (I a0) (I a) sp dp n)))).heap = H.setIfInBounds a (vp_cell T.2.1 (n1, .inl (va_cpy (I a0) (I a) sp dp n))) := by rw [← hT]; rfl
  have oq : ∀ q : Nat, q ≠ a → (H.setIfInBounds a (vp_cell T.2.1 (n1, .inl (va_cpy (I a0) (I a) sp dp n))))[q]? = H[q]? := fun q hq => by simp [Array.getElem?_setIfInBounds, Ne.symm hq]
  have hrow : mcp I a0 sp a dp n a = va_cpy (I a0) (I a) sp dp n := by
    funext q
    simp [mcp, va_cpy]
  obtain ⟨t, a1, b1⟩ := kk _ _ ls (hR.put (a := a) (H1 := H.setIfInBounds a (vp_cell T.2.1 (n1, .inl (va_cpy (I a0) (I a) sp dp n)))) (by simp) oq (by
      rw [cT7 hs1, hrow]
      show (H.setIfInBounds a _)[a]? = some _
      simp [Array.getElem?_setIfInBounds, hla]) (fun b hb => cT_congr T rfl (by funext q; simp [mcp, hb]) rfl rfl)) ⟨by simp; exact hS.1, fun q g1 g2 => by
      rw [oq q (fun e => g2 (by rw [e]; exact (hR.2.2 a (sne hs1)).1))]
      exact hS.2.1 q g1 g2, fun q hq => by
      rcases List.mem_append.mp hq with h | h
      · exact hS.2.2 q h
      · obtain ⟨z, -, hz⟩ := List.mem_map.mp h
        rw [← hz]
        exact (hR.2.2 a (sne hs1)).1⟩ hl _ hheap X'
  exact ⟨t, step t a1, b1⟩
end VC
