section VH
variable {X : CX} {own : String} {cc : ByteArray} {rm : Room} {T0 : TC} {B0 nL0 : Nat} {kc ks z : Nat} {S : MS} {I : MI} {J : MJ} {R : MR} {pc : Nat} {lv : List (Option Value)} {st : List Value}
theorem P1 {D : va_G} {cl : List vw_C} {a : Nat} {e : va_E} {H : Heap} (h : va_at D cl (a, e) H) : va_P D cl [(a, e)] H := by
  intro k q hk
  match k, hk with
  | 0, hk => cases hk; exact h
/-- getfield of any field -/
theorem v_getG (C : Cx X own cc rm T0 B0 nL0) {a ci k N ix : Nat} {Cn : String} {Tn : u_T} {v : Value} {fs : List Value} (hcl : vwCl[ci]? = some (Cn, Tn, N)) (hin : ∀ w ∈ u_ws Cn Tn N, w ∈ wG) (ha : (S a).1 ≠ 0) (he : cT T0 S I J R a = .inr (ci, fs)) (hk : k < N) (hv : fs[k]? = some v)
    (hlk : Cond.fieldLink own ix (Tn k).1 (Tn k).2.1 (Tn k).2.2.1 ∈ wG) (d : decode cc pc = .ok (.getfield ix, 3)) (kk : V X kc ks z S I J R (pc + 3) lv (v :: st)) : V X kc ks z S I J R pc lv (.ref a :: st) := by
  obtain ⟨p, l, e, Rm, s, m, args, below, meth, c, nL, T, B, Q⟩ := X
  intro H locs ls hR hS hl
  obtain ⟨c1, c2, c3, c4, c5, c6, c7, c8, c9, c10, c11, c12⟩ := id C
  subst c10
  exact va_get c1 c2 c5 hin c4 c6.1 (P1 (hR.at ha he)) 0 rfl hcl k hk (c5 _ hlk) (fun _ h => h) hv d (kk H locs ls hR hS hl)
/-- putfield of any field that isn't final -/
theorem v_putG (C : Cx X own cc rm T0 B0 nL0) {a ci k N ix : Nat} {Cn : String} {Tn : u_T} {v : Value} {fs : List Value} {I' : MI} {J' : MJ} {R' : MR} {ty0 : Nat → FieldType} {ty : FieldType} (hcl : vwCl[ci]? = some (Cn, Tn, N)) (hin : ∀ w ∈ u_ws Cn Tn N, w ∈ wG) (hty : ∀ k, k < N → parseFieldDescriptor (Tn k).2.2.1 = some (ty0 k)) (hnm : ∀ a, a < N → ∀ b, b < N → a ≠ b → (Tn a).2.1 ≠ (Tn b).2.1) (ha : (S a).1 ≠ 0) (he : cT T0 S I J R a = .inr (ci, fs)) (hk : k < N) (hlen : k < fs.length)
    (hfin : (Tn k).2.2.2 = false) (hd : parseFieldDescriptor (Tn k).2.2.1 = some ty) (hn : narrow ty v = v) (hfit : fits ty v = true) (hlk : Cond.fieldLink own ix (Tn k).1 (Tn k).2.1 (Tn k).2.2.1 ∈ wG) (d : decode cc pc = .ok (.putfield ix, 3))
    (he' : cT T0 S I' J' R' a = .inr (ci, fs.set k v)) (ho : ∀ b, b ≠ a → cT T0 S I' J' R' b = cT T0 S I J R b) (kk : V X kc ks z S I' J' R' (pc + 3) lv st) : V X kc ks z S I J R pc lv (v :: .ref a :: st) := by
  obtain ⟨p, l, e, Rm, s, m, args, below, meth, c, nL, T, B, Q⟩ := X
  intro H locs ls hR hS hl
  obtain ⟨c1, c2, c3, c4, c5, c6, c7, c8, c9, c10, c11, c12⟩ := id C
  subst c10
  have hap := va_apart (own := own) c5 hin ty0 hty hnm c6.1 hcl
  obtain ⟨r, h1, cell, q1, q2, q3, q4⟩ := hR.at ha he
  have hr : r = (Cn, Tn, N) := Option.some.inj (h1.symm.trans hcl)
  subst hr
  obtain ⟨hKS, hfc, kC, hkC, hkind⟩ := c6.1.1 ci _ hcl
  obtain ⟨cf, kf, fi, f, hi, hsl⟩ := hKS k hk
  have hlay := c5 _ (hin _ (u_in_lay hk))
  unfold u_lay at hlay
  rw [if_neg (by rw [hfin]; decide)] at hlay
  have hst := (u_facts hfc hkC (u_lays c5 hin hk) hi).1
  have h6 := u_store hfc hkC hkind hlay hi hd hn hfit
  refine W.putK c1 c2 (f := f) ⟨c4, c5 _ hlk, ⟨_, _, _, hi⟩, hst⟩ (by rw [q2]; exact h6) q1 q3 (by rw [hsl]; exact k2_hasslot (q4 k hk)) rfl rfl d fun H' e1 e2 e3 => ?_
  rw [hsl] at e1
  refine kk H' _ ls (hR.put e2 e3 ?_ ho) (hS.put e2 e3 (hR.2.2 a ha).1) hl
  rw [he']
  exact ⟨_, hcl, t_OB.to (V := updV (vp_V fs) k v) ⟨_, e1, q2, q3, t_set q4 hap hk v⟩ (fun j _ => vp_updV_set hlen v j)⟩
def IsInit (X : CX) : Prop := match X with
  | (_, _, _, _, _, _, _, _, meth, _, _, _, _, _) => meth.name = "<init>"
/-- putfield of a final field, in its constructor -/
theorem v_putF (C : Cx X own cc rm T0 B0 nL0) (hI : IsInit X) {a ci k N ix : Nat} {Cn : String} {Tn : u_T} {v : Value} {fs : List Value} {I' : MI} {J' : MJ} {R' : MR} {ty0 : Nat → FieldType} {ty : FieldType} (hcl : vwCl[ci]? = some (Cn, Tn, N)) (hin : ∀ w ∈ u_ws Cn Tn N, w ∈ wG) (hty : ∀ k, k < N → parseFieldDescriptor (Tn k).2.2.1 = some (ty0 k)) (hnm : ∀ a, a < N → ∀ b, b < N → a ≠ b → (Tn a).2.1 ≠ (Tn b).2.1) (ha : (S a).1 ≠ 0) (he : cT T0 S I J R a = .inr (ci, fs)) (hk : k < N) (hlen : k < fs.length)
    (hfin : (Tn k).2.2.2 = true) (hdecl : (Tn k).1 = own) (hd : parseFieldDescriptor (Tn k).2.2.1 = some ty) (hn : narrow ty v = v) (hfit : fits ty v = true) (hlk : Cond.fieldLink own ix (Tn k).1 (Tn k).2.1 (Tn k).2.2.1 ∈ wG) (d : decode cc pc = .ok (.putfield ix, 3))
    (he' : cT T0 S I' J' R' a = .inr (ci, fs.set k v)) (ho : ∀ b, b ≠ a → cT T0 S I' J' R' b = cT T0 S I J R b) (kk : V X kc ks z S I' J' R' (pc + 3) lv st) : V X kc ks z S I J R pc lv (v :: .ref a :: st) := by
  obtain ⟨p, l, e, Rm, s, m, args, below, meth, c, nL, T, B, Q⟩ := X
  intro H locs ls hR hS hl
  obtain ⟨c1, c2, c3, c4, c5, c6, c7, c8, c9, c10, c11, c12⟩ := id C
  subst c10
  have hap := va_apart (own := own) c5 hin ty0 hty hnm c6.1 hcl
  obtain ⟨r, h1, cell, q1, q2, q3, q4⟩ := hR.at ha he
  have hr : r = (Cn, Tn, N) := Option.some.inj (h1.symm.trans hcl)
  subst hr
  obtain ⟨hKS, hfc, kC, hkC, hkind⟩ := c6.1.1 ci _ hcl
  obtain ⟨cf, kf, fi, f, hi, hsl⟩ := hKS k hk
  have hlay := c5 _ (hin _ (u_in_lay hk))
  unfold u_lay at hlay
  rw [if_pos hfin] at hlay
  have hst := (u_facts hfc hkC (u_lays c5 hin hk) hi).1
  have hcf : m.cls = cf := by
    obtain ⟨_, _, c', _, _, _, -, -, hf', -, -, -, hown2, -⟩ := Cond.laysFinal_spec hlay
    have e1 : c' = cf := by have := hi.symm.trans hf'; simp at this; exact this.1.symm
    rw [hdecl] at hown2
    rw [← e1]; exact Option.some.inj (c4.symm.trans hown2)
  have h6 := u_fits hfc hkC hkind (Or.inr hlay) hi hd hn hfit
  refine W.putFinK c1 c2 c4 (c5 _ hlk) hi hst hcf hI (by rw [q2]; exact h6) q1 q3 (by rw [hsl]; exact k2_hasslot (q4 k hk)) rfl rfl d fun H' e1 e2 e3 => ?_
  rw [hsl] at e1
  refine kk H' _ ls (hR.put e2 e3 ?_ ho) (hS.put e2 e3 (hR.2.2 a ha).1) hl
  rw [he']
  exact ⟨_, hcl, t_OB.to (V := updV (vp_V fs) k v) ⟨_, e1, q2, q3, t_set q4 hap hk v⟩ (fun j _ => vp_updV_set hlen v j)⟩
/-! arrays -/
theorem cT7 {T : TC} {a n : Nat} (h : S a = (7, n)) : cT T S I J R a = .inl (T.2.1, n, .inl (I a)) := by simp [cT, h]
theorem cT8 {T : TC} {a n : Nat} (h : S a = (8, n)) : cT T S I J R a = .inl (T.2.2.1, n, .inr (.inl (J a))) := by simp [cT, h]
theorem cT9 {T : TC} {a n : Nat} (h : S a = (9, n)) : cT T S I J R a = .inl (T.2.2.2.1, n, .inl (I a)) := by simp [cT, h]
theorem cT10 {T : TC} {a n : Nat} (h : S a = (10, n)) : cT T S I J R a = .inl (T.2.2.2.2, n, .inr (.inr (.inr (.inr (R a))))) := by simp [cT, h]
theorem sne {a t n : Nat} (h : S a = (t + 1, n)) : (S a).1 ≠ 0 := by rw [h]; exact Nat.succ_ne_zero t
theorem v_iald (C : Cx X own cc rm T0 B0 nL0) {a n : Nat} {i : Int32} (hs : S a = (7, n)) (hi : vp_in i n) (d : decode cc pc = .ok (.iaload, 1)) (kk : V X kc ks z S I J R (pc + 1) lv (.int (I a i.toNatClampNeg) :: st)) : V X kc ks z S I J R pc lv (.int i :: .ref a :: st) := by
  obtain ⟨p, l, e, Rm, s, m, args, below, meth, c, nL, T, B, Q⟩ := X
  intro H locs ls hR hS hl
  obtain ⟨c1, c2, c3, c4, c5, c6, c7, c8, c9, c10, c11, c12⟩ := id C
  exact va_iald (D := T.1) (tys := tys4 T) c1 c2 c6.1 (P1 (hR.at (sne hs) (cT7 hs))) 0 0 rfl rfl hi d (kk H locs ls hR hS hl)
theorem v_lald (C : Cx X own cc rm T0 B0 nL0) {a n : Nat} {i : Int32} (hs : S a = (8, n)) (hi : vp_in i n) (d : decode cc pc = .ok (.laload, 1)) (kk : V X kc ks z S I J R (pc + 1) lv (.long (J a i.toNatClampNeg) :: st)) : V X kc ks z S I J R pc lv (.int i :: .ref a :: st) := by
  obtain ⟨p, l, e, Rm, s, m, args, below, meth, c, nL, T, B, Q⟩ := X
  intro H locs ls hR hS hl
  obtain ⟨c1, c2, c3, c4, c5, c6, c7, c8, c9, c10, c11, c12⟩ := id C
  exact va_lald (D := T.1) (tys := tys4 T) c1 c2 c6.1 (P1 (hR.at (sne hs) (cT8 hs))) 0 1 rfl rfl hi d (kk H locs ls hR hS hl)
theorem v_zald (C : Cx X own cc rm T0 B0 nL0) {a n : Nat} {i : Int32} (hs : S a = (9, n)) (hi : vp_in i n) (d : decode cc pc = .ok (.baload, 1)) (kk : V X kc ks z S I J R (pc + 1) lv (.int (I a i.toNatClampNeg) :: st)) : V X kc ks z S I J R pc lv (.int i :: .ref a :: st) := by
  obtain ⟨p, l, e, Rm, s, m, args, below, meth, c, nL, T, B, Q⟩ := X
  intro H locs ls hR hS hl
  obtain ⟨c1, c2, c3, c4, c5, c6, c7, c8, c9, c10, c11, c12⟩ := id C
  exact va_zald (D := T.1) (tys := tys4 T) c1 c2 c6.1 (P1 (hR.at (sne hs) (cT9 hs))) 0 2 rfl rfl hi d (kk H locs ls hR hS hl)
theorem v_aald (C : Cx X own cc rm T0 B0 nL0) {a n : Nat} {i : Int32} (hs : S a = (10, n)) (hi : vp_in i n) (d : decode cc pc = .ok (.aaload, 1)) (kk : V X kc ks z S I J R (pc + 1) lv (va_rf (R a i.toNatClampNeg) :: st)) : V X kc ks z S I J R pc lv (.int i :: .ref a :: st) := by
  obtain ⟨p, l, e, Rm, s, m, args, below, meth, c, nL, T, B, Q⟩ := X
  intro H locs ls hR hS hl
  obtain ⟨c1, c2, c3, c4, c5, c6, c7, c8, c9, c10, c11, c12⟩ := id C
  exact va_aldq (D := T.1) (tys := tys4 T) c1 c2 c6.1 (P1 (hR.at (sne hs) (cT10 hs))) 0 3 rfl rfl hi d (kk H locs ls hR hS hl)
theorem v_alen (C : Cx X own cc rm T0 B0 nL0) {a n : Nat} (hs : S a = (7, n)) (d : decode cc pc = .ok (.arraylength, 1)) (kk : V X kc ks z S I J R (pc + 1) lv (.int (nI n) :: st)) : V X kc ks z S I J R pc lv (.ref a :: st) := by
  obtain ⟨p, l, e, Rm, s, m, args, below, meth, c, nL, T, B, Q⟩ := X
  intro H locs ls hR hS hl
  obtain ⟨c1, c2, c3, c4, c5, c6, c7, c8, c9, c10, c11, c12⟩ := id C
  exact va_alen (D := T.1) (tys := tys4 T) c1 c2 c6.1 (P1 (hR.at (sne hs) (cT7 hs))) 0 0 rfl rfl rfl d (kk H locs ls hR hS hl)
theorem v_iast (C : Cx X own cc rm T0 B0 nL0) {a n : Nat} {i x : Int32} (hs : S a = (7, n)) (hi : vp_in i n) (d : decode cc pc = .ok (.iastore, 1)) (kk : V X kc ks z S (mu I a i.toNatClampNeg x) J R (pc + 1) lv st) : V X kc ks z S I J R pc lv (.int x :: .int i :: .ref a :: st) := by
  obtain ⟨p, l, e, Rm, s, m, args, below, meth, c, nL, T, B, Q⟩ := X
  intro H locs ls hR hS hl
  obtain ⟨c1, c2, c3, c4, c5, c6, c7, c8, c9, c10, c11, c12⟩ := id C
  have hA := hR.at (sne hs) (cT7 (T := T) (I := I) (J := J) (R := R) hs)
  refine W.iast c1 c2 hA ((c6.1.2 0 _ rfl).1 n (fun j => .int (I a j))) (fun q => by cases q) (by show ¬ (i < 0 ∨ (arrV _ _ _).slots.size ≤ _); rw [arrV_size]; exact hi) rfl rfl d fun H1 e1 z1 oq => ?_
  refine kk H1 _ ls (hR.put z1 oq ?_ (fun b hb => cT_congr T rfl (mu_ne I x hb) rfl rfl)) (hS.put z1 oq (hR.2.2 a (sne hs)).1) hl
  rw [cT7 hs, mu_row]
  show H1[a]? = some (vp_cell _ _)
  rw [e1, vp_cell_i, vp_cell_i, arrV_store]
  congr 2
  funext q
  by_cases hq : q = i.toNatClampNeg
  · subst hq; simp [updV]
  · simp [updV, hq]
theorem v_last (C : Cx X own cc rm T0 B0 nL0) {a n : Nat} {i : Int32} {x : Int64} (hs : S a = (8, n)) (hi : vp_in i n) (d : decode cc pc = .ok (.lastore, 1)) (kk : V X kc ks z S I (mu J a i.toNatClampNeg x) R (pc + 1) lv st) : V X kc ks z S I J R pc lv (.long x :: .int i :: .ref a :: st) := by
  obtain ⟨p, l, e, Rm, s, m, args, below, meth, c, nL, T, B, Q⟩ := X
  intro H locs ls hR hS hl
  obtain ⟨c1, c2, c3, c4, c5, c6, c7, c8, c9, c10, c11, c12⟩ := id C
  have hA := hR.at (sne hs) (cT8 (T := T) (I := I) (J := J) (R := R) hs)
  refine W.last c1 c2 hA ((c6.1.2 1 _ rfl).1 n (fun j => .long (J a j))) (fun q => by cases q) (by show ¬ (i < 0 ∨ (arrV _ _ _).slots.size ≤ _); rw [arrV_size]; exact hi) rfl rfl d fun H1 e1 z1 oq => ?_
  refine kk H1 _ ls (hR.put z1 oq ?_ (fun b hb => cT_congr T rfl rfl (mu_ne J x hb) rfl)) (hS.put z1 oq (hR.2.2 a (sne hs)).1) hl
  rw [cT8 hs, mu_row]
  show H1[a]? = some (vp_cell _ _)
  rw [e1, vp_cell_l, vp_cell_l, arrV_store]
  congr 2
  funext q
  by_cases hq : q = i.toNatClampNeg
  · subst hq; simp [updV]
  · simp [updV, hq]
theorem v_zast (C : Cx X own cc rm T0 B0 nL0) {a n : Nat} {i x : Int32} (hs : S a = (9, n)) (hi : vp_in i n) (hx : narrow .boolean (.int x) = .int x) (d : decode cc pc = .ok (.bastore, 1)) (kk : V X kc ks z S (mu I a i.toNatClampNeg x) J R (pc + 1) lv st) : V X kc ks z S I J R pc lv (.int x :: .int i :: .ref a :: st) := by
  obtain ⟨p, l, e, Rm, s, m, args, below, meth, c, nL, T, B, Q⟩ := X
  intro H locs ls hR hS hl
  obtain ⟨c1, c2, c3, c4, c5, c6, c7, c8, c9, c10, c11, c12⟩ := id C
  have hA := hR.at (sne hs) (cT9 (T := T) (I := I) (J := J) (R := R) hs)
  refine W.zast c1 c2 hA ((c6.1.2 2 _ rfl).1 n (fun j => .int (I a j))) (fun q => by cases q) (by show ¬ (i < 0 ∨ (arrV _ _ _).slots.size ≤ _); rw [arrV_size]; exact hi) rfl rfl d fun H1 e1 z1 oq => ?_
  refine kk H1 _ ls (hR.put z1 oq ?_ (fun b hb => cT_congr T rfl (mu_ne I x hb) rfl rfl)) (hS.put z1 oq (hR.2.2 a (sne hs)).1) hl
  rw [cT9 hs, mu_row]
  show H1[a]? = some (vp_cell _ _)
  rw [e1, hx, vp_cell_i, vp_cell_i, arrV_store]
  congr 2
  funext q
  by_cases hq : q = i.toNatClampNeg
  · subst hq; simp [updV]
  · simp [updV, hq]
theorem v_aast (C : Cx X own cc rm T0 B0 nL0) {a n v : Nat} {i : Int32} (hs : S a = (10, n)) (hv : S v = (3, 0)) (hi : vp_in i n) (d : decode cc pc = .ok (.aastore, 1)) (kk : V X kc ks z S I J (mu R a i.toNatClampNeg (some v)) (pc + 1) lv st) : V X kc ks z S I J R pc lv (.ref v :: .int i :: .ref a :: st) := by
  obtain ⟨p, l, e, Rm, s, m, args, below, meth, c, nL, T, B, Q⟩ := X
  intro H locs ls hR hS hl
  obtain ⟨c1, c2, c3, c4, c5, c6, c7, c8, c9, c10, c11, c12⟩ := id C
  have hA := hR.at (sne hs) (cT10 (T := T) (I := I) (J := J) (R := R) hs)
  have hlt : i.toNatClampNeg < n := Nat.not_le.mp fun q => hi (Or.inr q)
  have h0 : ¬ i < 0 := fun q => hi (Or.inl q)
  obtain ⟨r', hr', cellV, g1, g2, g3, -⟩ := hR.at (sne hv) (e := .inr (2, _)) (by simp only [cT, hv]; rfl)
  have hc : vwCl[2]? = some (RX2, TX2, 9) := rfl
  have hcls := (c6.1.1 2 _ hc).2
  obtain ⟨kA, comp, k1, k2, k3, -⟩ := (c6.1.2 3 _ rfl).2
  have hcomp : comp = T.1.1 2 := Option.some.inj (k3.symm.trans hcls.1)
  subst hcomp
  obtain ⟨kC, hkC, -⟩ := hcls.2
  refine W.aast c1 c2 hA (fun q h => by cases h) (fun h => by cases h) k1 k2 rfl hkC ⟨h0, by show _ < (arrV _ _ _).slots.size; rw [arrV_size]; exact hlt⟩ g1 (fun q h => by rw [g3] at h; cases h) (by rw [g2]; exact hkC) (by rw [g2]; exact va_assign hcls) rfl rfl d fun H1 e1 z1 oq => ?_
  refine kk H1 _ ls (hR.put z1 oq ?_ (fun b hb => cT_congr T rfl rfl rfl (mu_ne R (some v) hb))) (hS.put z1 oq (hR.2.2 a (sne hs)).1) hl
  rw [cT10 hs, mu_row]
  show H1[a]? = some (vp_cell _ _)
  rw [e1, vp_cell_q, vp_cell_q, arrV_store]
  congr 2
  funext q
  by_cases hq : q = i.toNatClampNeg
  · subst hq; simp [updV, va_rf]
  · simp [updV, hq]
/-! new cells -/
theorem v_newI (C : Cx X own cc rm T0 B0 nL0) {N : Nat} (hN : N < 100000) (hc : kc + 1 ≤ rm.cells) (hs : ks + N ≤ rm.slots) (d : decode cc pc = .ok (.newarray .int, 2)) (kk : V X (kc + 1) (ks + N) (z + 1) (su S z 7 N) (mz I z 0) J R (pc + 2) lv (.ref z :: st)) : V X kc ks z S I J R pc lv (.int (nI N) :: st) := by
  obtain ⟨p, l, e, Rm, s, m, args, below, meth, c, nL, T, B, Q⟩ := X
  intro H locs ls hR hS hl
  obtain ⟨c1, c2, c3, c4, c5, c6, c7, c8, c9, c10, c11, c12⟩ := id C
  subst c9
  refine va_newaK (N := N) c1 c2 (atype := .int) (c5 (.arrayClass .int) wt_40) rfl d rfl (nI_pos (by omega)) (nI_clamp (by omega)) (by show N * 4 ≤ _; omega) hc hs hR.1 fun H1 cA e1 z1 o1 hAr hNm => ?_
  have hcA : cA = T.2.1 := Option.some.inj (hNm.symm.trans (c6.1.2 0 _ rfl).2)
  subst hcA
  refine kk H1 _ ls (hR.push z1 o1 ?_ (fun b hb => ⟨su_ne S hb, cT_congr T (su_ne S hb) (mz_ne I 0 hb) rfl rfl⟩)) ⟨Nat.le_trans hS.1 (by rw [hR.1]; omega), fun x h1 h2 => (o1 x (by have := hS.1; rw [hR.1] at this; omega)).trans (hS.2.1 x h1 h2), hS.2.2⟩ hl
  rw [cT7 (su_at S z 7 N)]
  show H1[z]? = some (vp_cell _ _)
  rw [e1, vp_cell_i, show mz I z 0 z = fun _ => 0 from funext (mz_at I z 0)]
  rfl
theorem v_newJ (C : Cx X own cc rm T0 B0 nL0) {N : Nat} (hN : N < 100000) (hc : kc + 1 ≤ rm.cells) (hs : ks + N ≤ rm.slots) (harr : Cond.arrayClass .long ∈ wG) (d : decode cc pc = .ok (.newarray .long, 2)) (kk : V X (kc + 1) (ks + N) (z + 1) (su S z 8 N) I (mz J z 0) R (pc + 2) lv (.ref z :: st)) : V X kc ks z S I J R pc lv (.int (nI N) :: st) := by
  obtain ⟨p, l, e, Rm, s, m, args, below, meth, c, nL, T, B, Q⟩ := X
  intro H locs ls hR hS hl
  obtain ⟨c1, c2, c3, c4, c5, c6, c7, c8, c9, c10, c11, c12⟩ := id C
  subst c9
  refine va_newaK (N := N) c1 c2 (atype := .long) (c5 (.arrayClass .long) harr) rfl d rfl (nI_pos (by omega)) (nI_clamp (by omega)) (by show N * 8 ≤ _; omega) hc hs hR.1 fun H1 cA e1 z1 o1 hAr hNm => ?_
  have hcA : cA = T.2.2.1 := Option.some.inj (hNm.symm.trans (c6.1.2 1 _ rfl).2)
  subst hcA
  refine kk H1 _ ls (hR.push z1 o1 ?_ (fun b hb => ⟨su_ne S hb, cT_congr T (su_ne S hb) rfl (mz_ne J 0 hb) rfl⟩)) ⟨Nat.le_trans hS.1 (by rw [hR.1]; omega), fun x h1 h2 => (o1 x (by have := hS.1; rw [hR.1] at this; omega)).trans (hS.2.1 x h1 h2), hS.2.2⟩ hl
  rw [cT8 (su_at S z 8 N)]
  show H1[z]? = some (vp_cell _ _)
  rw [e1, vp_cell_l, show mz J z 0 z = fun _ => 0 from funext (mz_at J z 0)]
  rfl
theorem v_newZ (C : Cx X own cc rm T0 B0 nL0) {N : Nat} (hN : N < 100000) (hc : kc + 1 ≤ rm.cells) (hs : ks + N ≤ rm.slots) (harr : Cond.arrayClass .boolean ∈ wG) (d : decode cc pc = .ok (.newarray .boolean, 2)) (kk : V X (kc + 1) (ks + N) (z + 1) (su S z 9 N) (mz I z 0) J R (pc + 2) lv (.ref z :: st)) : V X kc ks z S I J R pc lv (.int (nI N) :: st) := by
  obtain ⟨p, l, e, Rm, s, m, args, below, meth, c, nL, T, B, Q⟩ := X
  intro H locs ls hR hS hl
  obtain ⟨c1, c2, c3, c4, c5, c6, c7, c8, c9, c10, c11, c12⟩ := id C
  subst c9
  refine va_newaK (N := N) c1 c2 (atype := .boolean) (c5 (.arrayClass .boolean) harr) rfl d rfl (nI_pos (by omega)) (nI_clamp (by omega)) (by show N * 1 ≤ _; omega) hc hs hR.1 fun H1 cA e1 z1 o1 hAr hNm => ?_
  have hcA : cA = T.2.2.2.1 := Option.some.inj (hNm.symm.trans (c6.1.2 2 _ rfl).2)
  subst hcA
  refine kk H1 _ ls (hR.push z1 o1 ?_ (fun b hb => ⟨su_ne S hb, cT_congr T (su_ne S hb) (mz_ne I 0 hb) rfl rfl⟩)) ⟨Nat.le_trans hS.1 (by rw [hR.1]; omega), fun x h1 h2 => (o1 x (by have := hS.1; rw [hR.1] at this; omega)).trans (hS.2.1 x h1 h2), hS.2.2⟩ hl
  rw [cT9 (su_at S z 9 N)]
  show H1[z]? = some (vp_cell _ _)
  rw [e1, vp_cell_i, show mz I z 0 z = fun _ => 0 from funext (mz_at I z 0)]
  rfl
theorem v_newR (C : Cx X own cc rm T0 B0 nL0) {N ix : Nat} (hN : N < 100000) (hc : kc + 1 ≤ rm.cells) (hs : ks + N ≤ rm.slots) (hlk : Cond.classLink own ix RX2 ∈ wG) (d : decode cc pc = .ok (.anewarray ix, 3)) (kk : V X (kc + 1) (ks + N) (z + 1) (su S z 10 N) I J (mz R z none) (pc + 3) lv (.ref z :: st)) : V X kc ks z S I J R pc lv (.int (nI N) :: st) := by
  obtain ⟨p, l, e, Rm, s, m, args, below, meth, c, nL, T, B, Q⟩ := X
  intro H locs ls hR hS hl
  obtain ⟨c1, c2, c3, c4, c5, c6, c7, c8, c9, c10, c11, c12⟩ := id C
  subst c9
  have hcl : (nI N).toNatClampNeg = N := nI_clamp (by omega)
  refine W.anew c1 c2 c4 (c5 _ hlk) (va_AO.use c6.2.1) rfl d rfl (nI_pos (by omega)) (by rw [hcl]; omega) hc (by rw [hcl]; exact hs) fun cA kA comp f1 f2 f3 f4 => ?_
  rw [hcl]
  generalize hH1 : H.push ({ cls := cA, slots := Array.replicate N .null, vm := .none } : Cell) = H1
  have z1 : H1.size = z + 1 := by rw [← hH1, Array.size_push, hR.1]
  have e1 : H1[z]? = some (arrV cA N (fun _ => .null)) := by rw [← hH1, ← hR.1, Array.getElem?_push_size, ← arrV_new]
  have o1 : ∀ q : Nat, q < z → H1[q]? = H[q]? := fun q hq => by rw [← hH1, Array.getElem?_push, if_neg (by rw [hR.1]; exact Nat.ne_of_lt hq)]
  obtain ⟨kB, comp', b1, b2, b3, b4⟩ := (c6.1.2 3 _ rfl).2
  have hcA : cA = T.2.2.2.2 := Option.some.inj (f1.symm.trans b4)
  subst hcA
  rw [show H.size = z from hR.1]
  refine kk H1 _ ls (hR.push z1 o1 ?_ (fun b hb => ⟨su_ne S hb, cT_congr T (su_ne S hb) rfl rfl (mz_ne R none hb)⟩)) ⟨Nat.le_trans hS.1 (by rw [hR.1]; omega), fun x h1 h2 => (o1 x (by have := hS.1; rw [hR.1] at this; omega)).trans (hS.2.1 x h1 h2), hS.2.2⟩ hl
  rw [cT10 (su_at S z 10 N)]
  show H1[z]? = some (vp_cell _ _)
  rw [e1, vp_cell_q, show mz R z none z = fun _ => none from funext (mz_at R z none)]
  rfl
theorem v_newG (C : Cx X own cc rm T0 B0 nL0) {ci N ix : Nat} {Cn : String} {Tn : u_T} {fs : List Value} (hcl : vwCl[ci]? = some (Cn, Tn, N)) (hin : ∀ w ∈ u_ws Cn Tn N, w ∈ wG) (ty : Nat → FieldType) (hty : ∀ k, k < N → parseFieldDescriptor (Tn k).2.2.1 = some (ty k)) (hfs : ∀ j, j < N → defaultValue (ty j) = vp_V fs j) (hlk : Cond.classLink own ix Cn ∈ wG) (hinst : Cond.instantiable Cn N ∈ wG) (hini : Cond.initialized Cn ∈ wG) (hc : kc + 1 ≤ rm.cells) (hs : ks + N ≤ rm.slots) (d : decode cc pc = .ok (.new ix, 3))
    (he : cT T0 (su S z (ci + 1) 0) (mz I z 0) (mz J z 0) (mz R z none) z = .inr (ci, fs)) (kk : V X (kc + 1) (ks + N) (z + 1) (su S z (ci + 1) 0) (mz I z 0) (mz J z 0) (mz R z none) (pc + 3) lv (.ref z :: st)) : V X kc ks z S I J R pc lv st := by
  obtain ⟨p, l, e, Rm, s, m, args, below, meth, c, nL, T, B, Q⟩ := X
  intro H locs ls hR hS hl
  obtain ⟨c1, c2, c3, c4, c5, c6, c7, c8, c9, c10, c11, c12⟩ := id C
  subst c9
  subst c10
  have hKn := c6.1.1 ci _ hcl
  refine W.newcK c1 c2 c4 (c5 _ hlk) (c5 _ hinst) (c5 _ hini) rfl d hc hs hKn.2.1 hR.1 fun H1 kC hkC e1 z1 o1 => ?_
  refine kk H1 _ ls (hR.push z1 o1 ?_ (fun b hb => ⟨su_ne S hb, cT_congr T (su_ne S hb) (mz_ne I 0 hb) (mz_ne J 0 hb) (mz_ne R none hb)⟩)) ⟨Nat.le_trans hS.1 (by rw [hR.1]; omega), fun x h1 h2 => (o1 x (by have := hS.1; rw [hR.1] at this; omega)).trans (hS.2.1 x h1 h2), hS.2.2⟩ hl
  rw [he]
  exact ⟨_, hcl, (u_born ty c5 hin hKn hkC e1 hty).to hfs⟩
theorem v_objInit (C : Cx X own cc rm T0 B0 nL0) {a ix : Nat} (hlk : Cond.methodLink own ix Lib.objectInit ∈ wG) (hf : 1 ≤ rm.frames) (hl2 : (st.map fun v => v.category).sum + 12 ≤ rm.locals) (d : decode cc pc = .ok (.invokespecial ix, 3)) (kk : V X kc ks z S I J R (pc + 3) lv st) : V X kc ks z S I J R pc lv (.ref a :: st) := by
  obtain ⟨p, l, e, Rm, s, m, args, below, meth, c, nL, T, B, Q⟩ := X
  intro H locs ls hR hS hl
  obtain ⟨c1, c2, c3, c4, c5, c6, c7, c8, c9, c10, c11, c12⟩ := id C
  subst c9
  exact W.objInit c1 c2 c4 (c5 _ hlk) (c5 (.instanceMethod Lib.objectInit) wt_17) (c5 (.code Lib.objectInit ⟨#[0xb1]⟩ 1 none) wt_18) rfl (by rw [c3]; exact hl.1) rfl d hf (by show 2 * 0 + _ + 12 ≤ _; omega) (kk H locs ls hR hS hl)
end VH
