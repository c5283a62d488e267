abbrev WS : Type := Int64 × Bool × (Nat → Nat)
def cns (s : WS) (v : Int64) (c : Bool) (h : Nat → Nat) : WS := if s.1 < v then (v, c, h) else s
def wst (mo mc : Nat → Bool) (vo vc : Nat → Int64) (h : Nat → Nat → Nat) (x : Nat) (s : WS) : WS :=
  if mo x = true then (if mc x = true then cns (cns s (vo x) false (h x)) (vc x) true (h x) else cns s (vo x) false (h x)) else s
def srch (mo mc : Nat → Bool) (vo vc : Nat → Int64) (h : Nat → Nat → Nat) : Nat → Nat → WS → WS
  | 0, _, s => s
  | f + 1, x, s => srch mo mc vo vc h f (x + 1) (wst mo mc vo vc h x s)
def minL : Int64 := -9223372036854775808
/-- HIGHS of the corner x; which corners may be; what they give -/
def hX (b d x j : Nat) : Nat := x / b ^ (d - 1 - j) % b
def mOp (P : Nat → Nat → Nat) (c d : Nat) (op : Bool) (x : Nat) : Bool := allB (fun j => (op && decide (hX (c + 1) d x j = c)) || !(decide (qc (fun n => P n j) (hX (c + 1) d x j) c = 0))) d
def bel (P : Nat → Nat → Nat) (c d x : Nat) : Nat := cB (c + 1) d (fun n => pl (fun j => P n j + 1) (c + 1) d) c d x
def vOp (P : Nat → Nat → Nat) (c d x : Nat) : Int64 := lN (prodN (hX (c + 1) d x) d) - lN (c ^ (d - 1) * bel P c d x)
def vCl (P : Nat → Nat → Nat) (c d x : Nat) : Int64 := lN (c ^ (d - 1) * bel P c d (x + dgn (c + 1) d)) - lN (prodN (hX (c + 1) d x) d)
def mCl (P : Nat → Nat → Nat) (c d x : Nat) : Bool := mOp P c d false x && decide (x + dgn (c + 1) d < (c + 1) ^ d)
def wBest (P : Nat → Nat → Nat) (c d : Nat) (cl0 : Bool) (h0 : Nat → Nat) : WS := srch (mOp P c d true) (mCl P c d) (vOp P c d) (vCl P c d) (hX (c + 1) d) ((c + 1) ^ d) 0 (minL, cl0, h0)
theorem fMB_eq {I : MI} {k c d : Nat} {P : Nat → Nat → Nat} {op : Bool} {x : Nat} (hc : c ≤ 256) (hu : ∀ j v, j < d → v ≤ c → I (k + 3) (j * (c + 1) + v) = nI (qc (fun n => P n j) v c)) : allB (fMB I k (c + 1) c (hX (c + 1) d x) op) d = mOp P c d op x := by
  apply allB_congr
  intro j hj
  have hl : hX (c + 1) d x j ≤ c := Nat.le_of_lt_succ (Nat.mod_lt _ (by omega))
  have hq := qc_le (fun n => P n j) (hX (c + 1) d x j) c
  unfold fMB
  rw [hu j _ hj hl]
  congr 2
  exact decide_eq_decide.mpr ⟨fun q => (nI_eq (by omega) (by decide)).mp (q.trans nI_0.symm), fun q => by rw [q]; rfl⟩
/-- what search may change -/
def FrJ (J J' : MJ) (k : Nat) : Prop := ∀ q i, ¬ (q = k ∧ i = 1) → J' q i = J q i
theorem dgn_le {b : Nat} (hb : 2 ≤ b) : ∀ j, dgn b j + 1 ≤ b ^ j
  | 0 => Nat.le_refl 1
  | j + 1 => by
    have ih := dgn_le hb j
    have : (dgn b j + 1) * b ≤ b ^ j * b := Nat.mul_le_mul_right b ih
    rw [Nat.add_mul, Nat.one_mul] at this
    simp only [dgn, Nat.pow_succ]
    omega
def SM (P : Nat → Nat → Nat) (x c d N : Nat) (I0 : MI) (J0 : MJ) (h : Nat → Nat) (I : MI) (J : MJ) (s : WS) : Prop := FrS I0 I (x + 9) (x + 13) ∧ FrJ J0 J (x + 10) ∧ I (x + 10) 5 = nI (c + 1) ∧ I (x + 10) 6 = nI N ∧ (∀ u, u < N → I (x + 9) u = nI (bel P c d u)) ∧ (∀ j v, j < d → v ≤ c → I (x + 10 + 3) (j * (c + 1) + v) = nI (qc (fun n => P n j) v c)) ∧ (∀ j, j < d → I (x + 10 + 2) j = nI (h j)) ∧ J (x + 10) 1 = s.1 ∧ (s.1 ≠ minL → I (x + 10) 2 = nI (b2 s.2.1) ∧ ∀ j, j < d → I (x + 11) j = nI (s.2.2 j))
theorem SM_1 {P : Nat → Nat → Nat} {x c d N : Nat} {I0 : MI} {J0 : MJ} {h : Nat → Nat} {I : MI} {J : MJ} {s : WS} {v : Int64} {cl : Bool} (H : SM P x c d N I0 J0 h I J s) (hv : J (x + 10) 1 < v) : SM P x c d N I0 J0 h (mcp (mu I (x + 10) 2 (nI (b2 cl))) (x + 10 + 2) 0 (x + 10 + 1) 0 d) (mu J (x + 10) 1 v) (cns s v cl h) := by
  obtain ⟨h1, h2, h3, h4, h5, h6, h7, h8, h9⟩ := H
  have o : ∀ q i, q ≠ x + 10 + 1 → mcp (mu I (x + 10) 2 (nI (b2 cl))) (x + 10 + 2) 0 (x + 10 + 1) 0 d q i = mu I (x + 10) 2 (nI (b2 cl)) q i := fun q i hq => by simp [mcp, hq]
  have hc : cns s v cl h = (v, cl, h) := by unfold cns; rw [if_pos (by rw [← h8]; exact hv)]
  rw [hc]
  refine ⟨fun q i hq => ?_, fun q i hq => ?_, ?_, ?_, fun u hu => ?_, fun j w e1 e2 => ?_, fun j hj => ?_, mu_at _ _ _ _, fun _ => ⟨?_, fun j hj => ?_⟩⟩
  · rw [o q i (by omega), mu_ne _ _ (by omega)]; exact h1 q i hq
  · rw [mu_other _ _ hq]; exact h2 q i hq
  · rw [o _ _ (by omega), mu_other _ _ (by omega)]; exact h3
  · rw [o _ _ (by omega), mu_other _ _ (by omega)]; exact h4
  · rw [o _ _ (by omega), mu_ne _ _ (by omega)]; exact h5 u hu
  · rw [o _ _ (by omega), mu_ne _ _ (by omega)]; exact h6 j w e1 e2
  · rw [o _ _ (by omega), mu_ne _ _ (by omega)]; exact h7 j hj
  · rw [o _ _ (by omega), mu_at]
  · have : mcp (mu I (x + 10) 2 (nI (b2 cl))) (x + 10 + 2) 0 (x + 10 + 1) 0 d (x + 11) j = mu I (x + 10) 2 (nI (b2 cl)) (x + 10 + 2) (0 + (j - 0)) := by
      unfold mcp; rw [if_pos ⟨rfl, Nat.zero_le _, by omega⟩]
    rw [this, mu_ne _ _ (by omega), Nat.zero_add, Nat.sub_zero]
    exact h7 j hj
theorem cns_0 {s : WS} {v : Int64} {cl : Bool} {h : Nat → Nat} (hv : v ≤ s.1) : cns s v cl h = s := by
  unfold cns
  rw [if_neg (Int64.not_lt.mpr hv)]
def s_X0_search : Sp := fun av z S I J R Post => ∃ (x a c d : Nat), ∃ (P : Nat → Nat → Nat), av = [.ref (x + 10), .ref a, .ref (x + 9)] ∧ (XS S R x) ∧ (ScS S R a c) ∧ (x + 14 < a) ∧ (I a 2 = nI c) ∧ (I a 3 = nI d) ∧ (1 ≤ d) ∧ (d ≤ 3) ∧ ((c + 1) ^ d ≤ 4913) ∧ (d * (c + 1) ≤ 195) ∧ (∀ n j, n < c → j < d → I (a + 4) (j * c + n) = nI (P n j) ∧ P n j < c) ∧ (∀ (I' : MI) (J' : MJ), FrS I I' (x + 9) (x + 13) → FrJ J J' (x + 10) → J' (x + 10) 1 = (wBest P c d false (fun _ => 0)).1 → ((wBest P c d false (fun _ => 0)).1 ≠ minL → I' (x + 10) 2 = nI (b2 (wBest P c d false (fun _ => 0)).2.1) ∧ ∀ j, j < d → I' (x + 11) j = nI ((wBest P c d false (fun _ => 0)).2.2 j)) → Post 0 0 none z S I' J' R)
theorem c_X0_search {x a c d : Nat} {P : Nat → Nat → Nat} {z : Nat} {S : MS} {I : MI} {J : MJ} {R : MR} {Post : PT} (hX : XS S R x) (hSc : ScS S R a c) (hxa : x + 14 < a) (hcc : I a 2 = nI c) (hd : I a 3 = nI d) (hd1 : 1 ≤ d) (hd3 : d ≤ 3) (hN2 : (c + 1) ^ d ≤ 4913) (hdb : d * (c + 1) ≤ 195) (hP : ∀ n j, n < c → j < d → I (a + 4) (j * c + n) = nI (P n j) ∧ P n j < c) (hp : ∀ (I' : MI) (J' : MJ), FrS I I' (x + 9) (x + 13) → FrJ J J' (x + 10) → J' (x + 10) 1 = (wBest P c d false (fun _ => 0)).1 → ((wBest P c d false (fun _ => 0)).1 ≠ minL → I' (x + 10) 2 = nI (b2 (wBest P c d false (fun _ => 0)).2.1) ∧ ∀ j, j < d → I' (x + 11) j = nI ((wBest P c d false (fun _ => 0)).2.2 j)) → Post 0 0 none z S I' J' R) : s_X0_search [.ref (x + 10), .ref a, .ref (x + 9)] z S I J R Post := ⟨x, a, c, d, P, rfl, hX, hSc, hxa, hcc, hd, hd1, hd3, hN2, hdb, hP, hp⟩
set_option maxRecDepth 100000 in
set_option maxHeartbeats 2000000 in
theorem m_X0_search (T : TC) (B : Nat) : Mt T B yX0_search cX0_search 9 none 0 (rmL 4 0 0) s_X0_search := by
  refine Mt_of rfl (by rintro _ _ _ _ _ _ _ ⟨_, _, _, _, _, rfl, -⟩; exact Nat.le_of_ble_eq_true rfl) ?_
  intro X av z S I J R Post h C Q hI
  obtain ⟨x, a, c, d, P, rfl, hX, hSc, hxa, hcc, hd, hd1, hd3, hN2, hdb, hP, hp⟩ := h
  have hX0 := hX
  have hSc0 := hSc
  obtain ⟨hx, hx0, hx1, hx2, hx3, hx4, hx5, hs1, hT, hRa, hs9, hCo, hs14⟩ := hX
  obtain ⟨hs, hr5, hr6, hr7, hr8, hsa1, hs2, hs3, hs4, hc1, hc2⟩ := hSc
  have hCo0 := hCo
  obtain ⟨hk, hk0, hk3, hk4, hk1', hk2', hk3'⟩ := hCo
  have hp := hp
  have gHx : ∀ (y j : Nat), hX (c + 1) d y j ≤ c := fun y j => Nat.le_of_lt_succ (Nat.mod_lt _ (by omega))
  have hdg := dgn_le (b := c + 1) (by omega) d
  generalize hNe : (c + 1) ^ d = N at *
  have hcN : c ≤ N := by
    rw [← hNe]
    exact Nat.le_trans (Nat.le_succ c) (Nat.le_trans (Nat.le_of_eq (Nat.pow_one _).symm) (Nat.pow_le_pow_right (by omega) hd1))
  -- after a comparison: the memory holds the state s
  have loop : ∀ (f y : Nat), y + f = N → ∀ (s : WS) (I' : MI) (J' : MJ), FrS I I' (x + 9) (x + 13) → FrJ J J' (x + 10) → I' (x + 10) 5 = nI (c + 1) → I' (x + 10) 6 = nI N → (∀ u, u < N → I' (x + 9) u = nI (bel P c d u)) → (∀ j v, j < d → v ≤ c → I' (x + 10 + 3) (j * (c + 1) + v) = nI (qc (fun n => P n j) v c)) → J' (x + 10) 1 = s.1 → (s.1 ≠ minL → I' (x + 10) 2 = nI (b2 s.2.1) ∧ ∀ j, j < d → I' (x + 11) j = nI (s.2.2 j)) → srch (mOp P c d true) (mCl P c d) (vOp P c d) (vCl P c d) (hX (c + 1) d) f y s = wBest P c d false (fun _ => 0) → V X 0 0 z S I' J' R 80 [some (.ref (x + 10)), some (.ref a), some (.ref (x + 9)), some (.long (lN (c ^ (d - 1)))), none, some (.int (nI (dgn (c + 1) d))), some (.int (nI y)), none, none] [] := by
    intro f
    induction f with
    | zero =>
      intro y hy s I' J' hF hFJ f5 f6 hbel huse hb1 hb2 hsr
      refine v_iload C dX0_search_80 rfl ?_
      refine v_aload_n C dX0_search_82 rfl ?_
      first | refine gv_0_6 C (by assumption) (by assumption) wt_78 dX0_search_83 ?_ | refine g_0_6 C (by assumption) wt_78 dX0_search_83 ?_
      first | refine v_icmp_geN C 174 dX0_search_86 (by omega) (by omega) (by decide) (fun h86 => ?_) (fun h86 => ?_) | refine v_icmp_ge C 174 dX0_search_86 (by decide) (fun h86 => ?_) (fun h86 => ?_)
      · refine v_ret C Q dX0_search_174 (Nat.le_of_ble_eq_true rfl) (Nat.le_of_ble_eq_true rfl) ?_
        simp only [srch] at hsr
        exact hp I' J' hF hFJ (by rw [hb1, hsr]) (fun q => by rw [← hsr] at q ⊢; exact hb2 q)
      · exact absurd h86 (by omega)
    | succ f ih =>
      intro y hy s I' J' hF hFJ f5 f6 hbel huse hb1 hb2 hsr
      simp only [srch] at hsr
      have nxt : ∀ (s2 : WS) (I2 : MI) (J2 : MJ), SM P x c d N I J (hX (c + 1) d y) I2 J2 s2 → srch (mOp P c d true) (mCl P c d) (vOp P c d) (vCl P c d) (hX (c + 1) d) f (y + 1) s2 = wBest P c d false (fun _ => 0) → V X 0 0 z S I2 J2 R 168 [some (.ref (x + 10)), some (.ref a), some (.ref (x + 9)), some (.long (lN (c ^ (d - 1)))), none, some (.int (nI (dgn (c + 1) d))), some (.int (nI y)), none, none] [] := by
        intro s2 I2 J2 H hq
        obtain ⟨h1, h2, h3, h4, h5, h6, h7, h8, h9⟩ := H
        first | refine v_iincN 1 C dX0_search_168 rfl (by decide) ?_ | refine v_iinc C dX0_search_168 rfl rfl (by decide) ?_
        refine v_goto C 80 dX0_search_171 (by decide) ?_
        exact v_less (ih (y + 1) (by omega) s2 I2 J2 h1 h2 h3 h4 h5 h6 h8 h9 hq) (by repeat (first | exact trivial | refine And.intro rfl ?_))
      have aft : ∀ (s1 : WS) (I2 : MI) (J2 : MJ), SM P x c d N I J (hX (c + 1) d y) I2 J2 s1 → srch (mOp P c d true) (mCl P c d) (vOp P c d) (vCl P c d) (hX (c + 1) d) f (y + 1) (if mCl P c d y = true then cns s1 (vCl P c d y) true (hX (c + 1) d y) else s1) = wBest P c d false (fun _ => 0) → V X 0 0 z S I2 J2 R 128 [some (.ref (x + 10)), some (.ref a), some (.ref (x + 9)), some (.long (lN (c ^ (d - 1)))), none, some (.int (nI (dgn (c + 1) d))), some (.int (nI y)), some (.long (lN (prodN (hX (c + 1) d y) d))), none] [] := by
        intro s1 I2 J2 H hq
        have H0 := H
        obtain ⟨h1, h2, h3, h4, h5, h6, h7, h8, h9⟩ := H
        have g2 : I2 a 2 = nI c := (h1 a 2 (by omega)).trans hcc
        have g3 : I2 a 3 = nI d := (h1 a 3 (by omega)).trans hd
        refine v_aload_n C dX0_search_128 rfl ?_
        refine v_aload_n C dX0_search_129 rfl ?_
        refine v_iconstN 0 C dX0_search_130 ?_
        refine v_callV2_1 C (m_X0_cornerMayBe T B) lk_X0_64 ⟨wt_465, ws_15⟩ 0 rfl dX0_search_131 ⟨Nat.le_of_ble_eq_true rfl, Nat.le_of_ble_eq_true rfl⟩ (Nat.le_of_ble_eq_true rfl) ⟨Nat.le_of_ble_eq_true rfl, Nat.le_of_ble_eq_true rfl⟩ (by assumption) (cTo_0 (by assumption)) ?_
        refine c_X0_cornerMayBe (h := hX (c + 1) d y) (op := false) hCo0 hs g2 g3 hd3 h3 hdb hc2 (fun j hj => ⟨h7 j hj, gHx y j⟩) ?_
        rw [fMB_eq hc2 h6]
        refine v_if_eq C 168 dX0_search_134 (by decide) (fun h134 => ?_) (fun h134 => ?_)
        · have hm : mCl P c d y = false := by
            unfold mCl
            cases hq : mOp P c d false y with
            | false => rfl
            | true => rw [hq] at h134; exact absurd h134 (by decide)
          rw [hm, if_neg (by decide)] at hq
          exact v_less (nxt s1 I2 J2 H0 hq) (by repeat (first | exact trivial | refine And.intro rfl ?_))
        · have hmo : mOp P c d false y = true := by
            cases hq : mOp P c d false y with
            | true => rfl
            | false => rw [hq] at h134; exact absurd rfl h134
          refine v_iload C dX0_search_137 rfl ?_
          refine v_iload C dX0_search_139 rfl ?_
          first | refine v_iaddN C dX0_search_141 ?_ | refine v_iadd C dX0_search_141 ?_
          refine v_aload_n C dX0_search_142 rfl ?_
          first | refine gv_0_6 C (by assumption) (by assumption) wt_78 dX0_search_143 ?_ | refine g_0_6 C (by assumption) wt_78 dX0_search_143 ?_
          first | refine v_icmp_geN C 168 dX0_search_146 (by omega) (by omega) (by decide) (fun h146 => ?_) (fun h146 => ?_) | refine v_icmp_ge C 168 dX0_search_146 (by decide) (fun h146 => ?_) (fun h146 => ?_)
          · have hm : mCl P c d y = false := by unfold mCl; rw [hmo, hNe, decide_eq_false (by omega)]; rfl
            rw [hm, if_neg (by decide)] at hq
            exact v_less (nxt s1 I2 J2 H0 hq) (by repeat (first | exact trivial | refine And.intro rfl ?_))
          · have hm : mCl P c d y = true := by unfold mCl; rw [hmo, hNe, decide_eq_true h146]; rfl
            rw [hm, if_pos rfl] at hq
            have hbl := cB_le (c + 1) d (fun n => pl (fun j => P n j + 1) (c + 1) d) c d (y + dgn (c + 1) d)
            change bel P c d (y + dgn (c + 1) d) ≤ c at hbl
            refine v_aload_n C dX0_search_149 rfl ?_
            refine v_aload_n C dX0_search_150 rfl ?_
            refine v_lload_n C dX0_search_151 rfl ?_
            refine v_aload_n C dX0_search_152 rfl ?_
            refine v_iload C dX0_search_153 rfl ?_
            refine v_iload C dX0_search_155 rfl ?_
            first | refine v_iaddN C dX0_search_157 ?_ | refine v_iadd C dX0_search_157 ?_
            first | refine v_ialdN C (by assumption) (by omega) (by omega) dX0_search_158 ?_ | refine v_iald C (by assumption) (by assumption) dX0_search_158 ?_
            rw [h5 _ h146]
            first | refine v_i2lN C dX0_search_159 (by omega) ?_ | refine v_i2l C dX0_search_159 ?_
            first | refine v_lmulN C dX0_search_160 ?_ | refine v_lmul C dX0_search_160 ?_
            refine v_lload C dX0_search_161 rfl ?_
            refine v_lsub C dX0_search_163 ?_
            refine v_iconstN 1 C dX0_search_164 ?_
            refine v_callV3_0 C (m_X0_consider T B) lk_X0_72 ⟨wt_473, ws_17⟩ 0 rfl dX0_search_165 ⟨Nat.le_of_ble_eq_true rfl, Nat.le_of_ble_eq_true rfl⟩ (Nat.le_of_ble_eq_true rfl) ⟨Nat.le_of_ble_eq_true rfl, Nat.le_of_ble_eq_true rfl⟩ (by assumption) (cTo_0 (by assumption)) ?_
            refine c_X0_consider (cl := true) hCo0 hs (by omega) g3 hd3 ⟨fun q => ?_, fun q => ?_⟩
            · exact v_less (nxt _ _ _ (SM_1 H0 q) hq) (by repeat (first | exact trivial | refine And.intro rfl ?_))
            · rw [cns_0 (by rw [← h8]; exact q)] at hq
              exact v_less (nxt s1 I2 J2 H0 hq) (by repeat (first | exact trivial | refine And.intro rfl ?_))
      have fst : ∀ I2 : MI, SM P x c d N I J (hX (c + 1) d y) I2 J' s → V X 0 0 z S I2 J' R 96 [some (.ref (x + 10)), some (.ref a), some (.ref (x + 9)), some (.long (lN (c ^ (d - 1)))), none, some (.int (nI (dgn (c + 1) d))), some (.int (nI y)), none, none] [] := by
        intro I2 H
        have H0 := H
        obtain ⟨h1, h2, h3, h4, h5, h6, h7, h8, h9⟩ := H
        have g2 : I2 a 2 = nI c := (h1 a 2 (by omega)).trans hcc
        have g3 : I2 a 3 = nI d := (h1 a 3 (by omega)).trans hd
        have hyN : y < N := by omega
        have hbl := cB_le (c + 1) d (fun n => pl (fun j => P n j + 1) (c + 1) d) c d y
        change bel P c d y ≤ c at hbl
        refine v_aload_n C dX0_search_96 rfl ?_
        refine v_aload_n C dX0_search_97 rfl ?_
        refine v_iconstN 1 C dX0_search_98 ?_
        refine v_callV2_1 C (m_X0_cornerMayBe T B) lk_X0_64 ⟨wt_465, ws_15⟩ 0 rfl dX0_search_99 ⟨Nat.le_of_ble_eq_true rfl, Nat.le_of_ble_eq_true rfl⟩ (Nat.le_of_ble_eq_true rfl) ⟨Nat.le_of_ble_eq_true rfl, Nat.le_of_ble_eq_true rfl⟩ (by assumption) (cTo_0 (by assumption)) ?_
        refine c_X0_cornerMayBe (h := hX (c + 1) d y) (op := true) hCo0 hs g2 g3 hd3 h3 hdb hc2 (fun j hj => ⟨h7 j hj, gHx y j⟩) ?_
        rw [fMB_eq hc2 h6]
        refine v_if_eq C 168 dX0_search_102 (by decide) (fun h102 => ?_) (fun h102 => ?_)
        · have hm : mOp P c d true y = false := by
            cases hq : mOp P c d true y with
            | false => rfl
            | true => rw [hq] at h102; exact absurd h102 (by decide)
          rw [wst, hm, if_neg (by decide)] at hsr
          exact v_less (nxt s I2 J' H0 hsr) (by repeat (first | exact trivial | refine And.intro rfl ?_))
        · have hm : mOp P c d true y = true := by
            cases hq : mOp P c d true y with
            | true => rfl
            | false => rw [hq] at h102; exact absurd rfl h102
          rw [wst, if_pos hm] at hsr
          refine v_aload_n C dX0_search_105 rfl ?_
          refine v_aload_n C dX0_search_106 rfl ?_
          refine v_callV1_2 C (m_X0_sizeOf T B) lk_X0_68 ⟨wt_469, ws_16⟩ 0 rfl dX0_search_107 ⟨Nat.le_of_ble_eq_true rfl, Nat.le_of_ble_eq_true rfl⟩ (Nat.le_of_ble_eq_true rfl) ⟨Nat.le_of_ble_eq_true rfl, Nat.le_of_ble_eq_true rfl⟩ (by assumption) (cTo_0 (by assumption)) ?_
          refine c_X0_sizeOf (h := hX (c + 1) d y) hCo0 hs g3 hd3 (fun j hj => ⟨h7 j hj, by have := gHx y j; omega⟩) ?_
          refine v_lstore C dX0_search_110 (by decide) ?_
          refine v_aload_n C dX0_search_112 rfl ?_
          refine v_aload_n C dX0_search_113 rfl ?_
          refine v_lload C dX0_search_114 rfl ?_
          refine v_lload_n C dX0_search_116 rfl ?_
          refine v_aload_n C dX0_search_117 rfl ?_
          refine v_iload C dX0_search_118 rfl ?_
          first | refine v_ialdN C (by assumption) (by omega) (by omega) dX0_search_120 ?_ | refine v_iald C (by assumption) (by assumption) dX0_search_120 ?_
          rw [h5 _ hyN]
          first | refine v_i2lN C dX0_search_121 (by omega) ?_ | refine v_i2l C dX0_search_121 ?_
          first | refine v_lmulN C dX0_search_122 ?_ | refine v_lmul C dX0_search_122 ?_
          refine v_lsub C dX0_search_123 ?_
          refine v_iconstN 0 C dX0_search_124 ?_
          refine v_callV3_0 C (m_X0_consider T B) lk_X0_72 ⟨wt_473, ws_17⟩ 0 rfl dX0_search_125 ⟨Nat.le_of_ble_eq_true rfl, Nat.le_of_ble_eq_true rfl⟩ (Nat.le_of_ble_eq_true rfl) ⟨Nat.le_of_ble_eq_true rfl, Nat.le_of_ble_eq_true rfl⟩ (by assumption) (cTo_0 (by assumption)) ?_
          refine c_X0_consider (cl := false) hCo0 hs (by omega) g3 hd3 ⟨fun q => ?_, fun q => ?_⟩
          · refine v_less (aft _ _ _ (SM_1 H0 q) ?_) (by repeat (first | exact trivial | refine And.intro rfl ?_))
            exact hsr
          · refine v_less (aft s I2 J' H0 ?_) (by repeat (first | exact trivial | refine And.intro rfl ?_))
            rw [cns_0 (s := s) (v := vOp P c d y) (by rw [← h8]; exact q)] at hsr
            exact hsr
      refine v_iload C dX0_search_80 rfl ?_
      refine v_aload_n C dX0_search_82 rfl ?_
      first | refine gv_0_6 C (by assumption) (by assumption) wt_78 dX0_search_83 ?_ | refine g_0_6 C (by assumption) wt_78 dX0_search_83 ?_
      first | refine v_icmp_geN C 174 dX0_search_86 (by omega) (by omega) (by decide) (fun h86 => ?_) (fun h86 => ?_) | refine v_icmp_ge C 174 dX0_search_86 (by decide) (fun h86 => ?_) (fun h86 => ?_)
      · exact absurd h86 (by omega)
      · refine v_aload_n C dX0_search_89 rfl ?_
        refine v_aload_n C dX0_search_90 rfl ?_
        refine v_iload C dX0_search_91 rfl ?_
        refine v_callV2_0 C (m_X0_setHighs T B) lk_X0_60 ⟨wt_461, ws_14⟩ 0 rfl dX0_search_93 ⟨Nat.le_of_ble_eq_true rfl, Nat.le_of_ble_eq_true rfl⟩ (Nat.le_of_ble_eq_true rfl) ⟨Nat.le_of_ble_eq_true rfl, Nat.le_of_ble_eq_true rfl⟩ (by assumption) (cTo_0 (by assumption)) ?_
        refine c_X0_setHighs hCo0 hs (by omega) ((hF a 3 (by omega)).trans hd) hd3 f5 (by omega) (by omega) (by omega) (fun I2 hF2 hI2 => ?_)
        exact v_less (fst I2 ⟨fun q i hq => (hF2 q i (by omega)).trans (hF q i hq), hFJ, (hF2 _ _ (by omega)).trans f5, (hF2 _ _ (by omega)).trans f6, fun u hu => (hF2 _ _ (by omega)).trans (hbel u hu), fun j v e1 e2 => (hF2 _ _ (by omega)).trans (huse j v e1 e2), hI2, hb1, fun q => ⟨(hF2 _ _ (by omega)).trans (hb2 q).1, fun j hj => (hF2 _ _ (by omega)).trans ((hb2 q).2 j hj)⟩⟩) (by repeat (first | exact trivial | refine And.intro rfl ?_))
  have hc1' : c + 1 ≤ 4913 := by omega
  have mid : ∀ I' : MI, FrS I I' (x + 9) (x + 13) → I' (x + 10) 5 = nI (c + 1) → I' (x + 10) 6 = nI N → (∀ j v, j < d → v ≤ c → I' (x + 10 + 3) (j * (c + 1) + v) = nI (qc (fun n => P n j) v c)) → (∀ u, u < N → I' (x + 9) u = nI (bel P c d u)) → V X 0 0 z S I' (mu J (x + 10) 1 minL) R 55 [some (.ref (x + 10)), some (.ref a), some (.ref (x + 9)), none, none, none, none, none, none] [] := by
    intro I' hF f5 f6 huse hbel
    have g2 : I' a 2 = nI c := (hF a 2 (by omega)).trans hcc
    have g3 : I' a 3 = nI d := (hF a 3 (by omega)).trans hd
    refine v_aload_n C dX0_search_55 rfl ?_
    first | refine gv_2_2 C (by assumption) (by assumption) wt_149 dX0_search_56 ?_ | refine g_2_2 C (by assumption) wt_149 dX0_search_56 ?_
    first | refine v_i2lN C dX0_search_59 (by omega) ?_ | refine v_i2l C dX0_search_59 ?_
    refine v_aload_n C dX0_search_60 rfl ?_
    first | refine gv_2_3 C (by assumption) (by assumption) wt_155 dX0_search_61 ?_ | refine g_2_3 C (by assumption) wt_155 dX0_search_61 ?_
    refine v_iconstN 1 C dX0_search_64 ?_
    first | refine v_isubN C dX0_search_65 (by omega) ?_ | refine v_isub C dX0_search_65 ?_
    refine v_callSN2_2 C (m_X4_powerOf T B) (fun _ h => h.2.2.2.2.2.1) lk_X0_33 wt_418 dX0_search_66 ⟨Nat.le_of_ble_eq_true rfl, Nat.le_of_ble_eq_true rfl⟩ (Nat.le_of_ble_eq_true rfl) ⟨Nat.le_of_ble_eq_true rfl, Nat.le_of_ble_eq_true rfl⟩ ?_
    refine c_X4_powerOf (by omega) ?_
    refine v_lstore_n C dX0_search_69 (by decide) ?_
    refine v_aload_n C dX0_search_70 rfl ?_
    refine v_aload_n C dX0_search_71 rfl ?_
    refine v_callV1_1 C (m_X0_diagonalOf T B) lk_X0_56 ⟨wt_457, ws_13⟩ 0 rfl dX0_search_72 ⟨Nat.le_of_ble_eq_true rfl, Nat.le_of_ble_eq_true rfl⟩ (Nat.le_of_ble_eq_true rfl) ⟨Nat.le_of_ble_eq_true rfl, Nat.le_of_ble_eq_true rfl⟩ (by assumption) (cTo_0 (by assumption)) ?_
    refine c_X0_diagonalOf hk hs g3 hd3 f5 ?_
    refine v_istore C dX0_search_75 (by decide) ?_
    refine v_iconstN 0 C dX0_search_77 ?_
    refine v_istore C dX0_search_78 (by decide) ?_
    exact v_less (loop N 0 (by omega) (minL, false, fun _ => 0) I' _ hF (fun q i hq => mu_other _ _ hq) f5 f6 hbel huse (mu_at _ _ _ _) (fun q => absurd rfl q) (by unfold wBest; rw [hNe])) (by repeat (first | exact trivial | refine And.intro rfl ?_))
  have hka3 : x + 10 + 3 < a := by omega
  refine v_aload_n C dX0_search_0 rfl ?_
  refine v_aload_n C dX0_search_1 rfl ?_
  first | refine gv_2_2 C (by assumption) (by assumption) wt_149 dX0_search_2 ?_ | refine g_2_2 C (by assumption) wt_149 dX0_search_2 ?_
  refine v_iconstN 1 C dX0_search_5 ?_
  first | refine v_iaddN C dX0_search_6 ?_ | refine v_iadd C dX0_search_6 ?_
  refine p_0_5 C (by assumption) wt_77 dX0_search_7 ?_
  refine v_aload_n C dX0_search_10 rfl ?_
  refine v_aload_n C dX0_search_11 rfl ?_
  first | refine gv_0_5 C (by assumption) (mu_at _ _ _ _) wt_77 dX0_search_12 ?_ | refine g_0_5 C (by assumption) wt_77 dX0_search_12 ?_
  first | refine v_i2lN C dX0_search_15 (by omega) ?_ | refine v_i2l C dX0_search_15 ?_
  refine v_aload_n C dX0_search_16 rfl ?_
  first | refine gv_2_3 C (by assumption) ((congrFun (mu_ne _ _ (by omega)) 3).trans hd) wt_155 dX0_search_17 ?_ | refine g_2_3 C (by assumption) wt_155 dX0_search_17 ?_
  refine v_callSN2_2 C (m_X4_powerOf T B) (fun _ h => h.2.2.2.2.2.1) lk_X0_33 wt_418 dX0_search_20 ⟨Nat.le_of_ble_eq_true rfl, Nat.le_of_ble_eq_true rfl⟩ (Nat.le_of_ble_eq_true rfl) ⟨Nat.le_of_ble_eq_true rfl, Nat.le_of_ble_eq_true rfl⟩ ?_
  refine c_X4_powerOf (by omega) ?_
  first | refine v_l2iN C dX0_search_23 ?_ | refine v_l2i C dX0_search_23 ?_
  rw [hNe]
  refine p_0_6 C (by assumption) wt_78 dX0_search_24 ?_
  refine v_aload_n C dX0_search_27 rfl ?_
  refine v_ldc2 C dX0_search_28 wt_441 ?_
  refine p_0_1 C (by assumption) wt_71 dX0_search_31 ?_
  refine v_aload_n C dX0_search_34 rfl ?_
  first | refine gv_0_6 C (by assumption) (mu_at _ _ _ _) wt_78 dX0_search_35 ?_ | refine g_0_6 C (by assumption) wt_78 dX0_search_35 ?_
  refine v_aload_n C dX0_search_38 rfl ?_
  refine v_alen C (by assumption) dX0_search_39 ?_
  first | refine v_icmp_leN C 44 dX0_search_40 (by omega) (by omega) (by decide) (fun h40 => ?_) (fun h40 => ?_) | refine v_icmp_le C 44 dX0_search_40 (by decide) (fun h40 => ?_) (fun h40 => ?_)
  · refine v_aload_n C dX0_search_44 rfl ?_
    refine v_aload_n C dX0_search_45 rfl ?_
    refine v_callV1_0 C (m_X0_noteParts T B) lk_X0_48 ⟨wt_444, ws_11⟩ 0 rfl dX0_search_46 ⟨Nat.le_of_ble_eq_true rfl, Nat.le_of_ble_eq_true rfl⟩ (Nat.le_of_ble_eq_true rfl) ⟨Nat.le_of_ble_eq_true rfl, Nat.le_of_ble_eq_true rfl⟩ (by assumption) (cTo_0 (by assumption)) ?_
    refine c_X0_noteParts (P := P) hCo0 hSc0 hka3 (((congrFun (mu_ne _ _ (by omega)) 2).trans (congrFun (mu_ne _ _ (by omega)) 2)).trans hcc) (((congrFun (mu_ne _ _ (by omega)) 3).trans (congrFun (mu_ne _ _ (by omega)) 3)).trans hd) hd3 ((mu_other _ _ (by omega)).trans (mu_at _ _ _ _)) hdb (fun n j hn hj => ⟨((congrFun (mu_ne _ _ (by omega)) _).trans (congrFun (mu_ne _ _ (by omega)) _)).trans (hP n j hn hj).1, (hP n j hn hj).2⟩) (fun I2 hF2 hI2 => ?_)
    have w5 : I2 (x + 10) 5 = nI (c + 1) := (hF2 _ _ (by omega)).trans ((mu_other _ _ (by omega)).trans (mu_at _ _ _ _))
    have w6 : I2 (x + 10) 6 = nI N := (hF2 _ _ (by omega)).trans (mu_at _ _ _ _)
    have wF : FrS I I2 (x + 9) (x + 13) := fun q i hq => (hF2 q i (by omega)).trans (by rw [mu_ne _ _ (by omega), mu_ne _ _ (by omega)])
    have w2 : I2 a 2 = I a 2 := wF a 2 (by omega)
    have w3 : I2 a 3 = I a 3 := wF a 3 (by omega)
    have w4 : ∀ i, I2 (a + 4) i = I (a + 4) i := fun i => wF (a + 4) i (by omega)
    refine v_aload_n C dX0_search_49 rfl ?_
    refine v_aload_n C dX0_search_50 rfl ?_
    refine v_aload_n C dX0_search_51 rfl ?_
    refine v_callV2_0 C (m_X0_countBelow T B) lk_X0_52 ⟨wt_452, ws_12⟩ 0 rfl dX0_search_52 ⟨Nat.le_of_ble_eq_true rfl, Nat.le_of_ble_eq_true rfl⟩ (Nat.le_of_ble_eq_true rfl) ⟨Nat.le_of_ble_eq_true rfl, Nat.le_of_ble_eq_true rfl⟩ (by assumption) (cTo_0 (by assumption)) ?_
    refine c_X0_countBelow (P := P) hk hSc0 hs9 (by omega) (w2.trans hcc) (w3.trans hd) hd1 hd3 w5 (w6.trans (by rw [hNe])) (by rw [hNe]; exact hN2) (fun n j hn hj => ⟨(w4 _).trans (hP n j hn hj).1, (hP n j hn hj).2⟩) (fun I3 hF3 hI3 => ?_)
    exact v_less (mid I3 (wF.tr (hF3.wide (by omega) (by omega))) ((hF3 _ _ (by omega)).trans w5) ((hF3 _ _ (by omega)).trans w6) (fun j v e1 e2 => (hF3 _ _ (by omega)).trans (hI2 j v e1 e2)) (fun u hu => hI3 u (by rw [hNe]; exact hu))) (by repeat (first | exact trivial | refine And.intro rfl ?_))
  · exact absurd h40 (by omega)
