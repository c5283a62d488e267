/-! The memory: tags and lengths S, ints I, longs J, references R, by address and place. Tags: 1 to 6 the objects of vwCl's kinds 0 to 5; 7 int rows, 8 long rows, 9 boolean rows, 10 rows of Scatters. -/
abbrev MI : Type := Nat → Nat → Int32
abbrev MJ : Type := Nat → Nat → Int64
abbrev MR : Type := Nat → Nat → Option Nat
abbrev MS : Type := Nat → Nat × Nat
abbrev TC : Type := va_G × ClassId × ClassId × ClassId × ClassId
def mu {α : Type} (f : Nat → Nat → α) (a k : Nat) (v : α) : Nat → Nat → α := fun b j => if b = a ∧ j = k then v else f b j
def su (S : MS) (a t n : Nat) : MS := fun b => if b = a then (t, n) else S b
/-- a new cell's places -/
def mz {α : Type} (f : Nat → Nat → α) (a : Nat) (d : α) : Nat → Nat → α := fun b j => if b = a then d else f b j
theorem mu_ne {α : Type} (f : Nat → Nat → α) {a k : Nat} (v : α) {b : Nat} (h : b ≠ a) : mu f a k v b = f b := by
  funext j; simp [mu, h]
theorem mu_at {α : Type} (f : Nat → Nat → α) (a k : Nat) (v : α) : mu f a k v a k = v := by simp [mu]
theorem mu_other {α : Type} (f : Nat → Nat → α) {a k : Nat} (v : α) {b j : Nat} (h : ¬ (b = a ∧ j = k)) : mu f a k v b j = f b j := by simp [mu, h]
theorem mu_row {α : Type} (f : Nat → Nat → α) (a k : Nat) (v : α) : mu f a k v a = fun j => if j = k then v else f a j := by
  funext j; simp [mu]
theorem mz_ne {α : Type} (f : Nat → Nat → α) {a : Nat} (d : α) {b : Nat} (h : b ≠ a) : mz f a d b = f b := by
  funext j; simp [mz, h]
theorem mz_at {α : Type} (f : Nat → Nat → α) (a : Nat) (d : α) (j : Nat) : mz f a d a j = d := by simp [mz]
theorem su_ne (S : MS) {a t n b : Nat} (h : b ≠ a) : su S a t n b = S b := by simp [su, h]
theorem su_at (S : MS) (a t n : Nat) : su S a t n a = (t, n) := by simp [su]
def cT (T : TC) (S : MS) (I : MI) (J : MJ) (R : MR) (a : Nat) : va_E :=
  match (S a).1 with
  | 1 => .inr (0, [va_rf (R a 0), .long (J a 1), .int (I a 2), va_rf (R a 3), va_rf (R a 4), .int (I a 5), .int (I a 6)])
  | 2 => .inr (1, [va_rf (R a 0), va_rf (R a 1), .int (I a 2), .int (I a 3), .int (I a 4)])
  | 3 => .inr (2, [.int (I a 0), .int (I a 1), .int (I a 2), .int (I a 3), .int (I a 4), va_rf (R a 5), va_rf (R a 6), va_rf (R a 7), va_rf (R a 8)])
  | 4 => .inr (3, [va_rf (R a 0), va_rf (R a 1), va_rf (R a 2)])
  | 5 => .inr (4, [va_rf (R a 0), va_rf (R a 1), va_rf (R a 2), va_rf (R a 3), va_rf (R a 4), va_rf (R a 5), .int (I a 6), .int (I a 7)])
  | 6 => .inr (5, [.int (I a 0), va_rf (R a 1), va_rf (R a 2), va_rf (R a 3), va_rf (R a 4), va_rf (R a 5), va_rf (R a 6), va_rf (R a 7), va_rf (R a 8), va_rf (R a 9), va_rf (R a 10), va_rf (R a 11), va_rf (R a 12), .int (I a 13), va_rf (R a 14), va_rf (R a 15), va_rf (R a 16), va_rf (R a 17), va_rf (R a 18), va_rf (R a 19), va_rf (R a 20)])
  | 7 => .inl (T.2.1, (S a).2, .inl (I a))
  | 8 => .inl (T.2.2.1, (S a).2, .inr (.inl (J a)))
  | 9 => .inl (T.2.2.2.1, (S a).2, .inl (I a))
  | 10 => .inl (T.2.2.2.2, (S a).2, .inr (.inr (.inr (.inr (R a)))))
  | _ => .inr (99, [])
theorem cT_congr (T : TC) {S S' : MS} {I I' : MI} {J J' : MJ} {R R' : MR} {b : Nat} (h0 : S' b = S b) (h1 : I' b = I b) (h2 : J' b = J b) (h3 : R' b = R b) : cT T S' I' J' R' b = cT T S I J R b := by
  simp only [cT, h0, h1, h2, h3]
def tys4 (T : TC) : List (ClassId × FieldType) := [(T.2.1, .int), (T.2.2.1, .long), (T.2.2.2.1, .boolean), (T.2.2.2.2, .object RX2)]
def Rep (T : TC) (B z : Nat) (S : MS) (I : MI) (J : MJ) (R : MR) (H : Heap) : Prop := H.size = z ∧ B ≤ z ∧ ∀ a, (S a).1 ≠ 0 → B ≤ a ∧ va_at T.1 vwCl (a, cT T S I J R a) H
theorem Rep.at {T : TC} {B z : Nat} {S : MS} {I : MI} {J : MJ} {R : MR} {H : Heap} (h : Rep T B z S I J R H) {a : Nat} (ha : (S a).1 ≠ 0) {e : va_E} (he : cT T S I J R a = e) : va_at T.1 vwCl (a, e) H := he ▸ (h.2.2 a ha).2
theorem Rep.put {T : TC} {B z : Nat} {S : MS} {I I' : MI} {J J' : MJ} {R R' : MR} {H H1 : Heap} (h : Rep T B z S I J R H) {a : Nat} (hz : H1.size = H.size) (oq : ∀ q : Nat, q ≠ a → H1[q]? = H[q]?) (he : va_at T.1 vwCl (a, cT T S I' J' R' a) H1) (ho : ∀ b, b ≠ a → cT T S I' J' R' b = cT T S I J R b) : Rep T B z S I' J' R' H1 := by
  refine ⟨hz.trans h.1, h.2.1, fun b h1 => ⟨(h.2.2 b h1).1, ?_⟩⟩
  by_cases hb : b = a
  · subst hb; exact he
  · rw [ho b hb]
    exact ((h.2.2 b h1).2).kept (oq b hb)
theorem Rep.push {T : TC} {B z : Nat} {S S' : MS} {I I' : MI} {J J' : MJ} {R R' : MR} {H H1 : Heap} (h : Rep T B z S I J R H) (hz : H1.size = z + 1) (oq : ∀ q : Nat, q < z → H1[q]? = H[q]?) (he : va_at T.1 vwCl (z, cT T S' I' J' R' z) H1) (ho : ∀ b, b ≠ z → S' b = S b ∧ cT T S' I' J' R' b = cT T S I J R b) : Rep T B (z + 1) S' I' J' R' H1 := by
  refine ⟨hz, Nat.le_trans h.2.1 (Nat.le_succ z), fun b h1 => ?_⟩
  by_cases hb : b = z
  · subst hb; exact ⟨h.2.1, he⟩
  · obtain ⟨o1, o2⟩ := ho b hb
    rw [o1] at h1
    obtain ⟨h3, h4⟩ := h.2.2 b h1
    have hlt : b < H.size := h4.lt
    rw [h.1] at hlt
    rw [o2]
    exact ⟨h3, h4.kept (oq b hlt)⟩
/-- what the tables say, of any state of the run -/
def Kx (T : TC) (U : State) : Prop := va_K T.1 vwCl (tys4 T) U ∧ va_AO RX2 U ∧ va_Nw (.methodLinkNest "EvenScatter" 17 ⟨"EvenScatter$Tray", "<init>", "()V"⟩ "EvenScatter") U ∧ va_Nw (.methodLinkNest "EvenScatter" 24 ⟨"EvenScatter$Ranks", "<init>", "()V"⟩ "EvenScatter") U ∧ va_Nw (.methodLinkNest "EvenScatter" 35 ⟨"EvenScatter$Corners", "<init>", "()V"⟩ "EvenScatter") U ∧ va_Nw (.methodLinkNest "EvenScatter$Corners" 33 ⟨"EvenScatter", "powerOf", "(JI)J"⟩ "EvenScatter") U ∧ va_Nw (.methodLinkNest "EvenScatter$Scatter" 77 ⟨"EvenScatter", "firstOf", "(JI)I"⟩ "EvenScatter") U ∧ va_Nw (.methodLinkNest "EvenScatter$Tray" 43 ⟨"EvenScatter", "powerOf", "(JI)J"⟩ "EvenScatter") U
theorem Kx.warm {T : TC} {s U : State} (hW : s.WarmedH U.vm) (h : Kx T s) : Kx T U := ⟨h.1.moved hW.alike, h.2.1.moved hW.alike, h.2.2.1.warmM hW, h.2.2.2.1.warmM hW, h.2.2.2.2.1.warmM hW, h.2.2.2.2.2.1.warmM hW, h.2.2.2.2.2.2.1.warmM hW, h.2.2.2.2.2.2.2.warmM hW⟩
theorem Kx.calling {T : TC} {U : State} (h : Kx T U) (g : JFrame) (mk : MethodId) (a : Array Value) : Kx T (U.calling g mk a) := ⟨va_K.moved (u := U) (U := U.calling g mk a) (Vm.Alike.refl U.vm) h.1, va_AO.moved (u := U) (U := U.calling g mk a) (Vm.Alike.refl U.vm) h.2.1, h.2.2.1.same rfl rfl, h.2.2.2.1.same rfl rfl, h.2.2.2.2.1.same rfl rfl, h.2.2.2.2.2.1.same rfl rfl, h.2.2.2.2.2.2.1.same rfl rfl, h.2.2.2.2.2.2.2.same rfl rfl⟩
/-! locals by their places -/
def killc (o : Option Value) : Option Value := match o with
  | some v => bif v.category == 2 then none else some v
  | none => none
def sto1 : List (Option Value) → Nat → Value → List (Option Value)
  | [], _, _ => []
  | _ :: t, 0, v => some v :: t
  | [a], 1, _ => [killc a]
  | a :: _ :: u, 1, v => killc a :: some v :: u
  | a :: t, i + 2, v => a :: sto1 t (i + 1) v
def sto2 : List (Option Value) → Nat → Value → List (Option Value)
  | [], _, _ => []
  | [_], 0, v => [some v]
  | _ :: _ :: u, 0, v => some v :: none :: u
  | [a], 1, _ => [killc a]
  | [a, _], 1, v => [killc a, some v]
  | a :: _ :: _ :: w, 1, v => killc a :: some v :: none :: w
  | a :: t, i + 2, v => a :: sto2 t (i + 1) v
def lvh (ls : Array Slot) (nL : Nat) (lv : List (Option Value)) : Prop := ls.size = nL ∧ lv_wf ls ∧ ∀ (i : Nat) (v : Value), lv[i]? = some (some v) → ls[i]? = some (.val v)
def asc (lv : List (Option Value)) : List (Nat × Value) := (List.range lv.length).filterMap (fun j => match lv[j]? with
  | some (some v) => some (j, v)
  | _ => none)
theorem asc_mem {lv : List (Option Value)} {q : Nat × Value} : q ∈ asc lv ↔ lv[q.1]? = some (some q.2) := by
  constructor
  · intro h
    obtain ⟨j, -, hj⟩ := List.mem_filterMap.mp h
    cases hq : lv[j]? with
    | none => rw [hq] at hj; cases hj
    | some o =>
      cases o with
      | none => rw [hq] at hj; cases hj
      | some v => rw [hq] at hj; cases hj; exact hq
  · intro h
    refine List.mem_filterMap.mpr ⟨q.1, List.mem_range.mpr (List.getElem?_eq_some_iff.mp h).1, ?_⟩
    rw [h]
theorem lvh.has {ls : Array Slot} {nL : Nat} {lv : List (Option Value)} (h : lvh ls nL lv) : lv_has ls nL (asc lv) := ⟨h.1, h.2.1, fun q hq => h.2.2 q.1 q.2 (asc_mem.mp hq)⟩
theorem killc_in {o : Option Value} {v : Value} (h : killc o = some v) : o = some v ∧ ¬ v.category = 2 := by
  cases o with
  | none => simp [killc] at h
  | some w =>
    simp only [killc] at h
    cases hc : (w.category == 2) with
    | true => rw [hc, cond_true] at h; cases h
    | false =>
      rw [hc, cond_false] at h
      have := Option.some.inj h
      subst this
      exact ⟨rfl, by simpa using hc⟩
theorem sto1_in : ∀ (lv : List (Option Value)) (i : Nat) (v : Value) (j : Nat) (u : Value), (sto1 lv i v)[j]? = some (some u) → (j = i ∧ u = v) ∨ (j ≠ i ∧ lv[j]? = some (some u) ∧ ¬ (j + 1 = i ∧ u.category = 2))
  | [], _, _, j, u, h => by simp [sto1] at h
  | a :: t, 0, v, j, u, h => by
    simp only [sto1] at h
    cases j with
    | zero => simp at h; exact Or.inl ⟨rfl, h.symm⟩
    | succ j => simp only [List.getElem?_cons_succ] at h; exact Or.inr ⟨by omega, by simpa using h, by omega⟩
  | [a], 1, v, j, u, h => by
    simp only [sto1] at h
    cases j with
    | zero =>
      simp only [List.getElem?_cons_zero] at h
      obtain ⟨h1, h2⟩ := killc_in (Option.some.inj h)
      exact Or.inr ⟨by omega, by simp [h1], fun q => h2 q.2⟩
    | succ j => simp at h
  | a :: b :: t, 1, v, j, u, h => by
    simp only [sto1] at h
    match j, h with
    | 0, h =>
      simp only [List.getElem?_cons_zero] at h
      obtain ⟨h1, h2⟩ := killc_in (Option.some.inj h)
      exact Or.inr ⟨by omega, by simp [h1], fun q => h2 q.2⟩
    | 1, h => simp at h; exact Or.inl ⟨rfl, h.symm⟩
    | j + 2, h => simp only [List.getElem?_cons_succ] at h; exact Or.inr ⟨by omega, by simpa using h, by omega⟩
  | a :: t, i + 2, v, j, u, h => by
    simp only [sto1] at h
    cases j with
    | zero => simp only [List.getElem?_cons_zero] at h; exact Or.inr ⟨by omega, by simpa using h, by omega⟩
    | succ j =>
      simp only [List.getElem?_cons_succ] at h
      rcases sto1_in t (i + 1) v j u h with ⟨h1, h2⟩ | ⟨h1, h2, h3⟩
      · exact Or.inl ⟨by omega, h2⟩
      · exact Or.inr ⟨by omega, by simpa using h2, fun q => h3 ⟨by omega, q.2⟩⟩
theorem sto2_in : ∀ (lv : List (Option Value)) (i : Nat) (v : Value) (j : Nat) (u : Value), (sto2 lv i v)[j]? = some (some u) → (j = i ∧ u = v) ∨ (j ≠ i ∧ j ≠ i + 1 ∧ lv[j]? = some (some u) ∧ ¬ (j + 1 = i ∧ u.category = 2))
  | [], _, _, j, u, h => by simp [sto2] at h
  | [a], 0, v, j, u, h => by
    simp only [sto2] at h
    cases j with
    | zero => simp at h; exact Or.inl ⟨rfl, h.symm⟩
    | succ j => simp at h
  | a :: b :: t, 0, v, j, u, h => by
    simp only [sto2] at h
    match j, h with
    | 0, h => simp at h; exact Or.inl ⟨rfl, h.symm⟩
    | 1, h => simp at h
    | j + 2, h => simp only [List.getElem?_cons_succ] at h; exact Or.inr ⟨by omega, by omega, by simpa using h, by omega⟩
  | [a], 1, v, j, u, h => by
    simp only [sto2] at h
    cases j with
    | zero =>
      simp only [List.getElem?_cons_zero] at h
      obtain ⟨h1, h2⟩ := killc_in (Option.some.inj h)
      exact Or.inr ⟨by omega, by omega, by simp [h1], fun q => h2 q.2⟩
    | succ j => simp at h
  | [a, b], 1, v, j, u, h => by
    simp only [sto2] at h
    match j, h with
    | 0, h =>
      simp only [List.getElem?_cons_zero] at h
      obtain ⟨h1, h2⟩ := killc_in (Option.some.inj h)
      exact Or.inr ⟨by omega, by omega, by simp [h1], fun q => h2 q.2⟩
    | 1, h => simp at h; exact Or.inl ⟨rfl, h.symm⟩
    | j + 2, h => simp at h
  | a :: b :: c :: t, 1, v, j, u, h => by
    simp only [sto2] at h
    match j, h with
    | 0, h =>
      simp only [List.getElem?_cons_zero] at h
      obtain ⟨h1, h2⟩ := killc_in (Option.some.inj h)
      exact Or.inr ⟨by omega, by omega, by simp [h1], fun q => h2 q.2⟩
    | 1, h => simp at h; exact Or.inl ⟨rfl, h.symm⟩
    | 2, h => simp at h
    | j + 3, h => simp only [List.getElem?_cons_succ] at h; exact Or.inr ⟨by omega, by omega, by simpa using h, by omega⟩
  | a :: t, i + 2, v, j, u, h => by
    simp only [sto2] at h
    cases j with
    | zero => simp only [List.getElem?_cons_zero] at h; exact Or.inr ⟨by omega, by omega, by simpa using h, by omega⟩
    | succ j =>
      simp only [List.getElem?_cons_succ] at h
      rcases sto2_in t (i + 1) v j u h with ⟨h1, h2⟩ | ⟨h1, h2, h3, h4⟩
      · exact Or.inl ⟨by omega, h2⟩
      · exact Or.inr ⟨by omega, by omega, by simpa using h3, fun q => h4 ⟨by omega, q.2⟩⟩
theorem lvh_s1 {ls' : Array Slot} {nL : Nat} {lv : List (Option Value)} {i : Nat} {v : Value} (h : lv_has ls' nL ((i, v) :: (asc lv).filter (fun q => !(q.1 == i) && !(q.1 + 1 == i && q.2.category == 2)))) : lvh ls' nL (sto1 lv i v) := by
  refine ⟨h.1, h.2.1, fun j u hj => ?_⟩
  rcases sto1_in lv i v j u hj with ⟨h1, h2⟩ | ⟨h1, h2, h3⟩
  · subst h1; subst h2
    exact h.2.2 (j, u) List.mem_cons_self
  · refine h.2.2 (j, u) (List.mem_cons_of_mem _ (List.mem_filter.mpr ⟨asc_mem.mpr h2, ?_⟩))
    have : (j == i) = false := by simpa using h1
    simp only [this]
    simp only [Bool.not_false, Bool.true_and, Bool.not_eq_true', Bool.and_eq_false_iff, beq_eq_false_iff_ne, ne_eq]
    exact Decidable.not_and_iff_or_not.mp h3
theorem lvh_s2 {ls' : Array Slot} {nL : Nat} {lv : List (Option Value)} {i : Nat} {v : Value} (h : lv_has ls' nL ((i, v) :: (asc lv).filter (fun q => !(q.1 == i) && (!(q.1 == i + 1) && !(q.1 + 1 == i && q.2.category == 2))))) : lvh ls' nL (sto2 lv i v) := by
  refine ⟨h.1, h.2.1, fun j u hj => ?_⟩
  rcases sto2_in lv i v j u hj with ⟨h1, h2⟩ | ⟨h1, h2, h3, h4⟩
  · subst h1; subst h2
    exact h.2.2 (j, u) List.mem_cons_self
  · refine h.2.2 (j, u) (List.mem_cons_of_mem _ (List.mem_filter.mpr ⟨asc_mem.mpr h3, ?_⟩))
    have e1 : (j == i) = false := by simpa using h1
    have e2 : (j == i + 1) = false := by simpa using h2
    simp only [e1, e2]
    simp only [Bool.not_false, Bool.true_and, Bool.not_eq_true', Bool.and_eq_false_iff, beq_eq_false_iff_ne, ne_eq]
    exact Decidable.not_and_iff_or_not.mp h4
/-- a method's locals at its entry -/
def entA : List Value → List (Option Value)
  | [] => []
  | v :: vs => bif v.category == 2 then some v :: none :: entA vs else some v :: entA vs
def ent (vs : List Value) (n : Nat) : List (Option Value) := entA vs ++ List.replicate (n - (entA vs).length) none
theorem entA_in : ∀ (vs : List Value) (i j : Nat) (u : Value), (entA vs)[j]? = some (some u) → (i + j, u) ∈ lv_args i vs
  | [], i, j, u, h => by simp [entA] at h
  | v :: vs, i, j, u, h => by
    simp only [entA] at h
    simp only [lv_args]
    by_cases hc : v.category = 2
    · simp only [hc, beq_self_eq_true, cond_true] at h
      rw [if_pos hc]
      match j, h with
      | 0, h => simp at h; subst h; exact List.mem_cons_self
      | 1, h => simp at h
      | j + 2, h =>
        simp only [List.getElem?_cons_succ] at h
        have := entA_in vs (i + 2) j u h
        rw [show i + (j + 2) = i + 2 + j by omega]
        exact List.mem_cons_of_mem _ this
    · have hb : (v.category == 2) = false := by simpa using hc
      simp only [hb, cond_false] at h
      rw [if_neg hc]
      match j, h with
      | 0, h => simp at h; subst h; exact List.mem_cons_self
      | j + 1, h =>
        simp only [List.getElem?_cons_succ] at h
        have := entA_in vs (i + 1) j u h
        rw [show i + (j + 1) = i + 1 + j by omega]
        exact List.mem_cons_of_mem _ this
theorem lvh_ent {ls : Array Slot} {n : Nat} {vs : List Value} (h : lv_has ls n (lv_args 0 vs)) : lvh ls n (ent vs n) := by
  refine ⟨h.1, h.2.1, fun j u hj => ?_⟩
  have h1 : (entA vs)[j]? = some (some u) := by
    unfold ent at hj
    by_cases hl : j < (entA vs).length
    · rw [List.getElem?_append_left hl] at hj; exact hj
    · rw [List.getElem?_append_right (by omega)] at hj
      have := List.mem_of_getElem? hj
      have := List.eq_of_mem_replicate this
      cases this
  have := entA_in vs 0 j u h1
  rw [Nat.zero_add] at this
  exact h.2.2 (j, u) this
