set_option maxRecDepth 100000 in
set_option maxHeartbeats 1000000 in
/-- mark -/
theorem law_14 {X : CX} {T : TC} {B : Nat} (C : Cx X "EvenScatterLaw" code room_1 T B 4) {b L x j : Nat} {xs : Nat → Int32} (hs : Scr X b L xs) (hL : L ≤ 2560) (hj : j + 5 ≤ L) {st : St} {z : Nat} {S : MS} {I : MI} {J : MJ} {R : MR} (hJ : Jn x st z S I R) (nx : Nx X b x j) : V X (40 + j) (100000 + 321 * j) z S I J R 732 [some (.ref b), some (.ref x), some (.ref (x + 15)), some (.int (nI j))] [] := by
  obtain ⟨hR, hM, hm, hO⟩ := hJ
  have hxx : S x = (5, 0) := by obtain ⟨sa, hX, -⟩ := hR; exact hX.1
  refine v_aload_n C dL_law_732 rfl ?_
  refine v_aload_n C dL_law_733 rfl ?_
  refine v_iload_n C dL_law_734 rfl ?_
  refine v_iconstN 1 C dL_law_735 ?_
  first | refine v_iaddN C dL_law_736 ?_ | refine v_iadd C dL_law_736 ?_
  refine v_sld C hs (by omega) (by omega) dL_law_737 ?_
  refine v_aload_n C dL_law_738 rfl ?_
  refine v_iload_n C dL_law_739 rfl ?_
  refine v_iconstN 2 C dL_law_740 ?_
  first | refine v_iaddN C dL_law_741 ?_ | refine v_iadd C dL_law_741 ?_
  refine v_sld C hs (by omega) (by omega) dL_law_742 ?_
  refine v_callV2_1 C (m_X4_mark T B) lk_L_76 ⟨wt_316, wt_317⟩ 4 rfl dL_law_743 ⟨Nat.le_of_ble_eq_true rfl, Nat.le_of_ble_eq_true rfl⟩ (Nat.le_of_ble_eq_true rfl) ⟨by show 40 + j + 0 ≤ 600000; omega, by show 100000 + 321 * j + 0 ≤ 7302250; omega⟩ (by assumption) (cTo_4 (by assumption)) ?_
  refine c_X4_mark (st := st) hR hO (fun z1 S1 I1 J1 R1 r1 k1 => ?_)
  have hM1 := MoS_kp k1 hM
  have hm1 := Rm_kp k1 hm
  have hxM1 := hM1.1
  refine v_widen (k := 40 + (j + 5)) (n := 100000 + 321 * (j + 5)) (by show 40 + j + 0 ≤ 40 + (j + 5); omega) (by show 100000 + 321 * j + 0 ≤ 100000 + 321 * (j + 5); omega) ?_
  refine v_aload_n C dL_law_746 rfl ?_
  refine v_aload_n C dL_law_747 rfl ?_
  refine v_iload_n C dL_law_748 rfl ?_
  refine v_iconstN 1 C dL_law_749 ?_
  first | refine v_iaddN C dL_law_750 ?_ | refine v_iadd C dL_law_750 ?_
  refine v_sld C hs (by omega) (by omega) dL_law_751 ?_
  refine v_aload_n C dL_law_752 rfl ?_
  refine v_iload_n C dL_law_753 rfl ?_
  refine v_iconstN 2 C dL_law_754 ?_
  first | refine v_iaddN C dL_law_755 ?_ | refine v_iadd C dL_law_755 ?_
  refine v_sld C hs (by omega) (by omega) dL_law_756 ?_
  refine v_callV2_1 C (m_X5_mark T B) lk_L_79 ⟨wt_690, wt_691⟩ 5 rfl dL_law_757 ⟨Nat.le_of_ble_eq_true rfl, Nat.le_of_ble_eq_true rfl⟩ (Nat.le_of_ble_eq_true rfl) ⟨by show 40 + (j + 5) + 0 ≤ 600000; omega, by show 100000 + 321 * (j + 5) + 0 ≤ 7302250; omega⟩ (by assumption) (cTo_5 (by assumption)) ?_
  refine c_X5_mark (st := st) hM1 hm1 hO (fun I2 J2 r2 f2 g2 => ?_)
  have hJ2 := Jn_next r1 hM1 r2 f2 (ok_mark hO _ _)
  refine v_widen (k := 40 + (j + 5)) (n := 100000 + 321 * (j + 5)) (by show 40 + (j + 5) + 0 ≤ 40 + (j + 5); omega) (by show 100000 + 321 * (j + 5) + 0 ≤ 100000 + 321 * (j + 5); omega) ?_
  refine v_icmp_eq C 1176 dL_law_760 (by decide) (fun h760 => ?_) (fun h760 => ?_)
  · exact nx _ _ _ _ _ _ hJ2
  · exact absurd rfl h760
set_option maxRecDepth 100000 in
set_option maxHeartbeats 1000000 in
/-- count -/
theorem law_15 {X : CX} {T : TC} {B : Nat} (C : Cx X "EvenScatterLaw" code room_1 T B 4) {b L x j : Nat} {xs : Nat → Int32} (hs : Scr X b L xs) (hL : L ≤ 2560) (hj : j + 5 ≤ L) {st : St} {z : Nat} {S : MS} {I : MI} {J : MJ} {R : MR} (hJ : Jn x st z S I R) (nx : Nx X b x j) : V X (40 + j) (100000 + 321 * j) z S I J R 765 [some (.ref b), some (.ref x), some (.ref (x + 15)), some (.int (nI j))] [] := by
  obtain ⟨hR, hM, hm, hO⟩ := hJ
  have hxx : S x = (5, 0) := by obtain ⟨sa, hX, -⟩ := hR; exact hX.1
  refine v_aload_n C dL_law_765 rfl ?_
  refine v_aload_n C dL_law_766 rfl ?_
  refine v_iload_n C dL_law_767 rfl ?_
  refine v_iconstN 1 C dL_law_768 ?_
  first | refine v_iaddN C dL_law_769 ?_ | refine v_iadd C dL_law_769 ?_
  refine v_sld C hs (by omega) (by omega) dL_law_770 ?_
  refine v_callV1_1 C (m_X4_count T B) lk_L_80 ⟨wt_320, wt_321⟩ 4 rfl dL_law_771 ⟨Nat.le_of_ble_eq_true rfl, Nat.le_of_ble_eq_true rfl⟩ (Nat.le_of_ble_eq_true rfl) ⟨by show 40 + j + 0 ≤ 600000; omega, by show 100000 + 321 * j + 0 ≤ 7302250; omega⟩ (by assumption) (cTo_4 (by assumption)) ?_
  refine c_X4_count (st := st) hR hO (fun z1 S1 I1 J1 R1 r1 k1 => ?_)
  have hM1 := MoS_kp k1 hM
  have hm1 := Rm_kp k1 hm
  have hxM1 := hM1.1
  refine v_widen (k := 40 + (j + 5)) (n := 100000 + 321 * (j + 5)) (by show 40 + j + 0 ≤ 40 + (j + 5); omega) (by show 100000 + 321 * j + 0 ≤ 100000 + 321 * (j + 5); omega) ?_
  refine v_aload_n C dL_law_774 rfl ?_
  refine v_aload_n C dL_law_775 rfl ?_
  refine v_iload_n C dL_law_776 rfl ?_
  refine v_iconstN 1 C dL_law_777 ?_
  first | refine v_iaddN C dL_law_778 ?_ | refine v_iadd C dL_law_778 ?_
  refine v_sld C hs (by omega) (by omega) dL_law_779 ?_
  refine v_callV1_1 C (m_X5_count T B) lk_L_83 ⟨wt_694, wt_695⟩ 5 rfl dL_law_780 ⟨Nat.le_of_ble_eq_true rfl, Nat.le_of_ble_eq_true rfl⟩ (Nat.le_of_ble_eq_true rfl) ⟨by show 40 + (j + 5) + 0 ≤ 600000; omega, by show 100000 + 321 * (j + 5) + 0 ≤ 7302250; omega⟩ (by assumption) (cTo_5 (by assumption)) ?_
  refine c_X5_count (st := st) hM1 hm1 hO (fun I2 J2 r2 f2 g2 => ?_)
  have hJ2 := Jn_next r1 hM1 r2 f2 (ok_count hO _)
  refine v_widen (k := 40 + (j + 5)) (n := 100000 + 321 * (j + 5)) (by show 40 + (j + 5) + 0 ≤ 40 + (j + 5); omega) (by show 100000 + 321 * (j + 5) + 0 ≤ 100000 + 321 * (j + 5); omega) ?_
  refine v_icmp_eq C 1176 dL_law_783 (by decide) (fun h783 => ?_) (fun h783 => ?_)
  · exact nx _ _ _ _ _ _ hJ2
  · exact absurd rfl h783
set_option maxRecDepth 100000 in
set_option maxHeartbeats 1000000 in
/-- back -/
theorem law_16 {X : CX} {T : TC} {B : Nat} (C : Cx X "EvenScatterLaw" code room_1 T B 4) {b L x j : Nat} {xs : Nat → Int32} (hs : Scr X b L xs) (hL : L ≤ 2560) (hj : j + 5 ≤ L) {st : St} {z : Nat} {S : MS} {I : MI} {J : MJ} {R : MR} (hJ : Jn x st z S I R) (nx : Nx X b x j) : V X (40 + j) (100000 + 321 * j) z S I J R 788 [some (.ref b), some (.ref x), some (.ref (x + 15)), some (.int (nI j))] [] := by
  obtain ⟨hR, hM, hm, hO⟩ := hJ
  have hxx : S x = (5, 0) := by obtain ⟨sa, hX, -⟩ := hR; exact hX.1
  refine v_aload_n C dL_law_788 rfl ?_
  refine v_aload_n C dL_law_789 rfl ?_
  refine v_iload_n C dL_law_790 rfl ?_
  refine v_iconstN 1 C dL_law_791 ?_
  first | refine v_iaddN C dL_law_792 ?_ | refine v_iadd C dL_law_792 ?_
  refine v_sld C hs (by omega) (by omega) dL_law_793 ?_
  refine v_callV1_1 C (m_X4_back T B) lk_L_84 ⟨wt_329, wt_330⟩ 4 rfl dL_law_794 ⟨Nat.le_of_ble_eq_true rfl, Nat.le_of_ble_eq_true rfl⟩ (Nat.le_of_ble_eq_true rfl) ⟨by show 40 + j + 0 ≤ 600000; omega, by show 100000 + 321 * j + 0 ≤ 7302250; omega⟩ (by assumption) (cTo_4 (by assumption)) ?_
  refine c_X4_back (st := st) hR hO (fun z1 S1 I1 J1 R1 r1 k1 => ?_)
  have hM1 := MoS_kp k1 hM
  have hm1 := Rm_kp k1 hm
  have hxM1 := hM1.1
  refine v_widen (k := 40 + (j + 5)) (n := 100000 + 321 * (j + 5)) (by show 40 + j + 0 ≤ 40 + (j + 5); omega) (by show 100000 + 321 * j + 0 ≤ 100000 + 321 * (j + 5); omega) ?_
  refine v_aload_n C dL_law_797 rfl ?_
  refine v_aload_n C dL_law_798 rfl ?_
  refine v_iload_n C dL_law_799 rfl ?_
  refine v_iconstN 1 C dL_law_800 ?_
  first | refine v_iaddN C dL_law_801 ?_ | refine v_iadd C dL_law_801 ?_
  refine v_sld C hs (by omega) (by omega) dL_law_802 ?_
  refine v_callV1_1 C (m_X5_back T B) lk_L_87 ⟨wt_698, wt_699⟩ 5 rfl dL_law_803 ⟨Nat.le_of_ble_eq_true rfl, Nat.le_of_ble_eq_true rfl⟩ (Nat.le_of_ble_eq_true rfl) ⟨by show 40 + (j + 5) + 0 ≤ 600000; omega, by show 100000 + 321 * (j + 5) + 0 ≤ 7302250; omega⟩ (by assumption) (cTo_5 (by assumption)) ?_
  refine c_X5_back (st := st) hM1 hm1 hO (fun I2 J2 r2 f2 g2 => ?_)
  have hJ2 := Jn_next r1 hM1 r2 f2 (ok_back hO _)
  refine v_widen (k := 40 + (j + 5)) (n := 100000 + 321 * (j + 5)) (by show 40 + (j + 5) + 0 ≤ 40 + (j + 5); omega) (by show 100000 + 321 * (j + 5) + 0 ≤ 100000 + 321 * (j + 5); omega) ?_
  refine v_icmp_eq C 1176 dL_law_806 (by decide) (fun h806 => ?_) (fun h806 => ?_)
  · exact nx _ _ _ _ _ _ hJ2
  · exact absurd rfl h806
set_option maxRecDepth 100000 in
set_option maxHeartbeats 1000000 in
/-- even -/
theorem law_17 {X : CX} {T : TC} {B : Nat} (C : Cx X "EvenScatterLaw" code room_1 T B 4) {b L x j : Nat} {xs : Nat → Int32} (hs : Scr X b L xs) (hL : L ≤ 2560) (hj : j + 5 ≤ L) {st : St} {z : Nat} {S : MS} {I : MI} {J : MJ} {R : MR} (hJ : Jn x st z S I R) (nx : Nx X b x j) : V X (40 + j) (100000 + 321 * j) z S I J R 811 [some (.ref b), some (.ref x), some (.ref (x + 15)), some (.int (nI j))] [] := by
  obtain ⟨hR, hM, hm, hO⟩ := hJ
  have hxx : S x = (5, 0) := by obtain ⟨sa, hX, -⟩ := hR; exact hX.1
  refine v_aload_n C dL_law_811 rfl ?_
  refine v_aload_n C dL_law_812 rfl ?_
  refine v_iload_n C dL_law_813 rfl ?_
  refine v_iconstN 1 C dL_law_814 ?_
  first | refine v_iaddN C dL_law_815 ?_ | refine v_iadd C dL_law_815 ?_
  refine v_sld C hs (by omega) (by omega) dL_law_816 ?_
  refine v_callV1_1 C (m_X4_even T B) lk_L_88 ⟨wt_337, wt_338⟩ 4 rfl dL_law_817 ⟨Nat.le_of_ble_eq_true rfl, Nat.le_of_ble_eq_true rfl⟩ (Nat.le_of_ble_eq_true rfl) ⟨by show 40 + j + 0 ≤ 600000; omega, by show 100000 + 321 * j + 0 ≤ 7302250; omega⟩ (by assumption) (cTo_4 (by assumption)) ?_
  refine c_X4_even (st := st) hR hO (fun z1 S1 I1 J1 R1 r1 k1 => ?_)
  have hM1 := MoS_kp k1 hM
  have hm1 := Rm_kp k1 hm
  have hxM1 := hM1.1
  refine v_widen (k := 40 + (j + 5)) (n := 100000 + 321 * (j + 5)) (by show 40 + j + 0 ≤ 40 + (j + 5); omega) (by show 100000 + 321 * j + 0 ≤ 100000 + 321 * (j + 5); omega) ?_
  refine v_aload_n C dL_law_820 rfl ?_
  refine v_aload_n C dL_law_821 rfl ?_
  refine v_iload_n C dL_law_822 rfl ?_
  refine v_iconstN 1 C dL_law_823 ?_
  first | refine v_iaddN C dL_law_824 ?_ | refine v_iadd C dL_law_824 ?_
  refine v_sld C hs (by omega) (by omega) dL_law_825 ?_
  refine v_callV1_1 C (m_X5_even T B) lk_L_91 ⟨wt_702, wt_703⟩ 5 rfl dL_law_826 ⟨Nat.le_of_ble_eq_true rfl, Nat.le_of_ble_eq_true rfl⟩ (Nat.le_of_ble_eq_true rfl) ⟨by show 40 + (j + 5) + 0 ≤ 600000; omega, by show 100000 + 321 * (j + 5) + 0 ≤ 7302250; omega⟩ (by assumption) (cTo_5 (by assumption)) ?_
  refine c_X5_even (st := st) hM1 hm1 hO (fun I2 J2 r2 f2 g2 => ?_)
  have hJ2 := Jn_next r1 hM1 r2 f2 (ok_even hO _)
  refine v_widen (k := 40 + (j + 5)) (n := 100000 + 321 * (j + 5)) (by show 40 + (j + 5) + 0 ≤ 40 + (j + 5); omega) (by show 100000 + 321 * (j + 5) + 0 ≤ 100000 + 321 * (j + 5); omega) ?_
  refine v_icmp_eq C 1176 dL_law_829 (by decide) (fun h829 => ?_) (fun h829 => ?_)
  · exact nx _ _ _ _ _ _ hJ2
  · exact absurd rfl h829
set_option maxRecDepth 100000 in
set_option maxHeartbeats 1000000 in
/-- why -/
theorem law_18 {X : CX} {T : TC} {B : Nat} (C : Cx X "EvenScatterLaw" code room_1 T B 4) {b L x j : Nat} {xs : Nat → Int32} (hs : Scr X b L xs) (hL : L ≤ 2560) (hj : j + 5 ≤ L) {st : St} {z : Nat} {S : MS} {I : MI} {J : MJ} {R : MR} (hJ : Jn x st z S I R) (nx : Nx X b x j) : V X (40 + j) (100000 + 321 * j) z S I J R 834 [some (.ref b), some (.ref x), some (.ref (x + 15)), some (.int (nI j))] [] := by
  obtain ⟨hR, hM, hm, hO⟩ := hJ
  have hxx : S x = (5, 0) := by obtain ⟨sa, hX, -⟩ := hR; exact hX.1
  refine v_aload_n C dL_law_834 rfl ?_
  refine v_aload_n C dL_law_835 rfl ?_
  refine v_iload_n C dL_law_836 rfl ?_
  refine v_iconstN 1 C dL_law_837 ?_
  first | refine v_iaddN C dL_law_838 ?_ | refine v_iadd C dL_law_838 ?_
  refine v_sld C hs (by omega) (by omega) dL_law_839 ?_
  refine v_callV1_1 C (m_X4_why T B) lk_L_92 ⟨wt_367, wt_368⟩ 4 rfl dL_law_840 ⟨Nat.le_of_ble_eq_true rfl, Nat.le_of_ble_eq_true rfl⟩ (Nat.le_of_ble_eq_true rfl) ⟨by show 40 + j + 0 ≤ 600000; omega, by show 100000 + 321 * j + 0 ≤ 7302250; omega⟩ (by assumption) (cTo_4 (by assumption)) ?_
  refine c_X4_why (st := st) hR hO (fun z1 S1 I1 J1 R1 r1 k1 => ?_)
  have hM1 := MoS_kp k1 hM
  have hm1 := Rm_kp k1 hm
  have hxM1 := hM1.1
  refine v_widen (k := 40 + (j + 5)) (n := 100000 + 321 * (j + 5)) (by show 40 + j + 0 ≤ 40 + (j + 5); omega) (by show 100000 + 321 * j + 0 ≤ 100000 + 321 * (j + 5); omega) ?_
  refine v_aload_n C dL_law_843 rfl ?_
  refine v_aload_n C dL_law_844 rfl ?_
  refine v_iload_n C dL_law_845 rfl ?_
  refine v_iconstN 1 C dL_law_846 ?_
  first | refine v_iaddN C dL_law_847 ?_ | refine v_iadd C dL_law_847 ?_
  refine v_sld C hs (by omega) (by omega) dL_law_848 ?_
  refine v_callV1_1 C (m_X5_why T B) lk_L_95 ⟨wt_714, wt_715⟩ 5 rfl dL_law_849 ⟨Nat.le_of_ble_eq_true rfl, Nat.le_of_ble_eq_true rfl⟩ (Nat.le_of_ble_eq_true rfl) ⟨by show 40 + (j + 5) + 0 ≤ 600000; omega, by show 100000 + 321 * (j + 5) + 0 ≤ 7302250; omega⟩ (by assumption) (cTo_5 (by assumption)) ?_
  refine c_X5_why (st := st) hM1 hm1 hO (fun I2 J2 r2 f2 g2 => ?_)
  have hJ2 := Jn_next r1 hM1 r2 f2 (ok_why hO _)
  refine v_widen (k := 40 + (j + 5)) (n := 100000 + 321 * (j + 5)) (by show 40 + (j + 5) + 0 ≤ 40 + (j + 5); omega) (by show 100000 + 321 * (j + 5) + 0 ≤ 100000 + 321 * (j + 5); omega) ?_
  refine v_icmp_eq C 1176 dL_law_852 (by decide) (fun h852 => ?_) (fun h852 => ?_)
  · exact nx _ _ _ _ _ _ hJ2
  · exact absurd rfl h852
set_option maxRecDepth 100000 in
set_option maxHeartbeats 1000000 in
/-- grade -/
theorem law_19 {X : CX} {T : TC} {B : Nat} (C : Cx X "EvenScatterLaw" code room_1 T B 4) {b L x j : Nat} {xs : Nat → Int32} (hs : Scr X b L xs) (hL : L ≤ 2560) (hj : j + 5 ≤ L) {st : St} {z : Nat} {S : MS} {I : MI} {J : MJ} {R : MR} (hJ : Jn x st z S I R) (nx : Nx X b x j) : V X (40 + j) (100000 + 321 * j) z S I J R 857 [some (.ref b), some (.ref x), some (.ref (x + 15)), some (.int (nI j))] [] := by
  obtain ⟨hR, hM, hm, hO⟩ := hJ
  have hxx : S x = (5, 0) := by obtain ⟨sa, hX, -⟩ := hR; exact hX.1
  refine v_aload_n C dL_law_857 rfl ?_
  refine v_aload_n C dL_law_858 rfl ?_
  refine v_iload_n C dL_law_859 rfl ?_
  refine v_iconstN 1 C dL_law_860 ?_
  first | refine v_iaddN C dL_law_861 ?_ | refine v_iadd C dL_law_861 ?_
  refine v_sld C hs (by omega) (by omega) dL_law_862 ?_
  refine v_callV1_1 C (m_X4_grade T B) lk_L_96 ⟨wt_371, wt_372⟩ 4 rfl dL_law_863 ⟨Nat.le_of_ble_eq_true rfl, Nat.le_of_ble_eq_true rfl⟩ (Nat.le_of_ble_eq_true rfl) ⟨by show 40 + j + 0 ≤ 600000; omega, by show 100000 + 321 * j + 0 ≤ 7302250; omega⟩ (by assumption) (cTo_4 (by assumption)) ?_
  refine c_X4_grade (st := st) hR hO (fun z1 S1 I1 J1 R1 r1 k1 => ?_)
  have hM1 := MoS_kp k1 hM
  have hm1 := Rm_kp k1 hm
  have hxM1 := hM1.1
  refine v_widen (k := 40 + (j + 5)) (n := 100000 + 321 * (j + 5)) (by show 40 + j + 0 ≤ 40 + (j + 5); omega) (by show 100000 + 321 * j + 0 ≤ 100000 + 321 * (j + 5); omega) ?_
  refine v_aload_n C dL_law_866 rfl ?_
  refine v_aload_n C dL_law_867 rfl ?_
  refine v_iload_n C dL_law_868 rfl ?_
  refine v_iconstN 1 C dL_law_869 ?_
  first | refine v_iaddN C dL_law_870 ?_ | refine v_iadd C dL_law_870 ?_
  refine v_sld C hs (by omega) (by omega) dL_law_871 ?_
  refine v_callV1_1 C (m_X5_grade T B) lk_L_99 ⟨wt_718, wt_719⟩ 5 rfl dL_law_872 ⟨Nat.le_of_ble_eq_true rfl, Nat.le_of_ble_eq_true rfl⟩ (Nat.le_of_ble_eq_true rfl) ⟨by show 40 + (j + 5) + 0 ≤ 600000; omega, by show 100000 + 321 * (j + 5) + 0 ≤ 7302250; omega⟩ (by assumption) (cTo_5 (by assumption)) ?_
  refine c_X5_grade (st := st) hM1 hm1 hO (fun I2 J2 r2 f2 g2 => ?_)
  have hJ2 := Jn_next r1 hM1 r2 f2 (ok_grade hO _)
  refine v_widen (k := 40 + (j + 5)) (n := 100000 + 321 * (j + 5)) (by show 40 + (j + 5) + 0 ≤ 40 + (j + 5); omega) (by show 100000 + 321 * (j + 5) + 0 ≤ 100000 + 321 * (j + 5); omega) ?_
  refine v_icmp_eq C 1176 dL_law_875 (by decide) (fun h875 => ?_) (fun h875 => ?_)
  · exact nx _ _ _ _ _ _ hJ2
  · exact absurd rfl h875
set_option maxRecDepth 100000 in
set_option maxHeartbeats 1000000 in
/-- pair -/
theorem law_20 {X : CX} {T : TC} {B : Nat} (C : Cx X "EvenScatterLaw" code room_1 T B 4) {b L x j : Nat} {xs : Nat → Int32} (hs : Scr X b L xs) (hL : L ≤ 2560) (hj : j + 5 ≤ L) {st : St} {z : Nat} {S : MS} {I : MI} {J : MJ} {R : MR} (hJ : Jn x st z S I R) (nx : Nx X b x j) : V X (40 + j) (100000 + 321 * j) z S I J R 880 [some (.ref b), some (.ref x), some (.ref (x + 15)), some (.int (nI j))] [] := by
  obtain ⟨hR, hM, hm, hO⟩ := hJ
  have hxx : S x = (5, 0) := by obtain ⟨sa, hX, -⟩ := hR; exact hX.1
  refine v_aload_n C dL_law_880 rfl ?_
  refine v_aload_n C dL_law_881 rfl ?_
  refine v_iload_n C dL_law_882 rfl ?_
  refine v_iconstN 1 C dL_law_883 ?_
  first | refine v_iaddN C dL_law_884 ?_ | refine v_iadd C dL_law_884 ?_
  refine v_sld C hs (by omega) (by omega) dL_law_885 ?_
  refine v_aload_n C dL_law_886 rfl ?_
  refine v_iload_n C dL_law_887 rfl ?_
  refine v_iconstN 2 C dL_law_888 ?_
  first | refine v_iaddN C dL_law_889 ?_ | refine v_iadd C dL_law_889 ?_
  refine v_sld C hs (by omega) (by omega) dL_law_890 ?_
  refine v_aload_n C dL_law_891 rfl ?_
  refine v_iload_n C dL_law_892 rfl ?_
  refine v_iconstN 3 C dL_law_893 ?_
  first | refine v_iaddN C dL_law_894 ?_ | refine v_iadd C dL_law_894 ?_
  refine v_sld C hs (by omega) (by omega) dL_law_895 ?_
  refine v_callV3_1 C (m_X4_pair T B) lk_L_100 ⟨wt_393, wt_394⟩ 4 rfl dL_law_896 ⟨Nat.le_of_ble_eq_true rfl, Nat.le_of_ble_eq_true rfl⟩ (Nat.le_of_ble_eq_true rfl) ⟨by show 40 + j + 0 ≤ 600000; omega, by show 100000 + 321 * j + 0 ≤ 7302250; omega⟩ (by assumption) (cTo_4 (by assumption)) ?_
  refine c_X4_pair (st := st) hR hO (fun z1 S1 I1 J1 R1 r1 k1 => ?_)
  have hM1 := MoS_kp k1 hM
  have hm1 := Rm_kp k1 hm
  have hxM1 := hM1.1
  refine v_widen (k := 40 + (j + 5)) (n := 100000 + 321 * (j + 5)) (by show 40 + j + 0 ≤ 40 + (j + 5); omega) (by show 100000 + 321 * j + 0 ≤ 100000 + 321 * (j + 5); omega) ?_
  refine v_aload_n C dL_law_899 rfl ?_
  refine v_aload_n C dL_law_900 rfl ?_
  refine v_iload_n C dL_law_901 rfl ?_
  refine v_iconstN 1 C dL_law_902 ?_
  first | refine v_iaddN C dL_law_903 ?_ | refine v_iadd C dL_law_903 ?_
  refine v_sld C hs (by omega) (by omega) dL_law_904 ?_
  refine v_aload_n C dL_law_905 rfl ?_
  refine v_iload_n C dL_law_906 rfl ?_
  refine v_iconstN 2 C dL_law_907 ?_
  first | refine v_iaddN C dL_law_908 ?_ | refine v_iadd C dL_law_908 ?_
  refine v_sld C hs (by omega) (by omega) dL_law_909 ?_
  refine v_aload_n C dL_law_910 rfl ?_
  refine v_iload_n C dL_law_911 rfl ?_
  refine v_iconstN 3 C dL_law_912 ?_
  first | refine v_iaddN C dL_law_913 ?_ | refine v_iadd C dL_law_913 ?_
  refine v_sld C hs (by omega) (by omega) dL_law_914 ?_
  refine v_callV3_1 C (m_X5_pair T B) lk_L_103 ⟨wt_730, wt_731⟩ 5 rfl dL_law_915 ⟨Nat.le_of_ble_eq_true rfl, Nat.le_of_ble_eq_true rfl⟩ (Nat.le_of_ble_eq_true rfl) ⟨by show 40 + (j + 5) + 0 ≤ 600000; omega, by show 100000 + 321 * (j + 5) + 0 ≤ 7302250; omega⟩ (by assumption) (cTo_5 (by assumption)) ?_
  refine c_X5_pair (st := st) hM1 hm1 hO (fun I2 J2 r2 f2 g2 => ?_)
  have hJ2 := Jn_next r1 hM1 r2 f2 (ok_pair hO _ _ _)
  refine v_widen (k := 40 + (j + 5)) (n := 100000 + 321 * (j + 5)) (by show 40 + (j + 5) + 0 ≤ 40 + (j + 5); omega) (by show 100000 + 321 * (j + 5) + 0 ≤ 100000 + 321 * (j + 5); omega) ?_
  refine v_icmp_eq C 1176 dL_law_918 (by decide) (fun h918 => ?_) (fun h918 => ?_)
  · exact nx _ _ _ _ _ _ hJ2
  · exact absurd rfl h918
set_option maxRecDepth 100000 in
set_option maxHeartbeats 1000000 in
/-- gap -/
theorem law_21 {X : CX} {T : TC} {B : Nat} (C : Cx X "EvenScatterLaw" code room_1 T B 4) {b L x j : Nat} {xs : Nat → Int32} (hs : Scr X b L xs) (hL : L ≤ 2560) (hj : j + 5 ≤ L) {st : St} {z : Nat} {S : MS} {I : MI} {J : MJ} {R : MR} (hJ : Jn x st z S I R) (nx : Nx X b x j) : V X (40 + j) (100000 + 321 * j) z S I J R 923 [some (.ref b), some (.ref x), some (.ref (x + 15)), some (.int (nI j))] [] := by
  obtain ⟨hR, hM, hm, hO⟩ := hJ
  have hxx : S x = (5, 0) := by obtain ⟨sa, hX, -⟩ := hR; exact hX.1
  by_cases h0 : xs (j + 2) = 0
  · refine v_aload_n C dL_law_923 rfl ?_
    refine v_aload_n C dL_law_924 rfl ?_
    refine v_iload_n C dL_law_925 rfl ?_
    refine v_iconstN 1 C dL_law_926 ?_
    first | refine v_iaddN C dL_law_927 ?_ | refine v_iadd C dL_law_927 ?_
    refine v_sld C hs (by omega) (by omega) dL_law_928 ?_
    refine v_aload_n C dL_law_929 rfl ?_
    refine v_iload_n C dL_law_930 rfl ?_
    refine v_iconstN 2 C dL_law_931 ?_
    first | refine v_iaddN C dL_law_932 ?_ | refine v_iadd C dL_law_932 ?_
    refine v_sld C hs (by omega) (by omega) dL_law_933 ?_
    refine v_if_eq C 941 dL_law_934 (by decide) (fun h934 => ?_) (fun h934 => ?_)
    · refine v_iconstN 0 C dL_law_941 ?_
      refine v_aload_n C dL_law_942 rfl ?_
      refine v_iload_n C dL_law_943 rfl ?_
      refine v_iconstN 3 C dL_law_944 ?_
      first | refine v_iaddN C dL_law_945 ?_ | refine v_iadd C dL_law_945 ?_
      refine v_sld C hs (by omega) (by omega) dL_law_946 ?_
      refine v_callV3_2 C (m_X4_gap T B) lk_L_104 ⟨wt_401, wt_402⟩ 4 rfl dL_law_947 ⟨Nat.le_of_ble_eq_true rfl, Nat.le_of_ble_eq_true rfl⟩ (Nat.le_of_ble_eq_true rfl) ⟨by show 40 + j + 0 ≤ 600000; omega, by show 100000 + 321 * j + 0 ≤ 7302250; omega⟩ (by assumption) (cTo_4 (by assumption)) ?_
      refine c_X4_gap (st := st) (cl := false) hR hO (fun z1 S1 I1 J1 R1 r1 k1 => ?_)
      have hM1 := MoS_kp k1 hM
      have hm1 := Rm_kp k1 hm
      have hxM1 := hM1.1
      refine v_widen (k := 40 + (j + 5)) (n := 100000 + 321 * (j + 5)) (by show 40 + j + 0 ≤ 40 + (j + 5); omega) (by show 100000 + 321 * j + 0 ≤ 100000 + 321 * (j + 5); omega) ?_
      refine v_aload_n C dL_law_950 rfl ?_
      refine v_aload_n C dL_law_951 rfl ?_
      refine v_iload_n C dL_law_952 rfl ?_
      refine v_iconstN 1 C dL_law_953 ?_
      first | refine v_iaddN C dL_law_954 ?_ | refine v_iadd C dL_law_954 ?_
      refine v_sld C hs (by omega) (by omega) dL_law_955 ?_
      refine v_aload_n C dL_law_956 rfl ?_
      refine v_iload_n C dL_law_957 rfl ?_
      refine v_iconstN 2 C dL_law_958 ?_
      first | refine v_iaddN C dL_law_959 ?_ | refine v_iadd C dL_law_959 ?_
      refine v_sld C hs (by omega) (by omega) dL_law_960 ?_
      refine v_if_eq C 968 dL_law_961 (by decide) (fun h961 => ?_) (fun h961 => ?_)
      · refine v_iconstN 0 C dL_law_968 ?_
        refine v_aload_n C dL_law_969 rfl ?_
        refine v_iload_n C dL_law_970 rfl ?_
        refine v_iconstN 3 C dL_law_971 ?_
        first | refine v_iaddN C dL_law_972 ?_ | refine v_iadd C dL_law_972 ?_
        refine v_sld C hs (by omega) (by omega) dL_law_973 ?_
        refine v_callV3_2 C (m_X5_gap T B) lk_L_108 ⟨wt_734, wt_735⟩ 5 rfl dL_law_974 ⟨Nat.le_of_ble_eq_true rfl, Nat.le_of_ble_eq_true rfl⟩ (Nat.le_of_ble_eq_true rfl) ⟨by show 40 + (j + 5) + 0 ≤ 600000; omega, by show 100000 + 321 * (j + 5) + 0 ≤ 7302250; omega⟩ (by assumption) (cTo_5 (by assumption)) ?_
        refine c_X5_gap (st := st) (cl := false) hM1 hm1 hO (fun I2 J2 r2 f2 g2 => ?_)
        have hJ2 := Jn_next r1 hM1 r2 f2 (ok_gap hO _ _ _)
        refine v_widen (k := 40 + (j + 5)) (n := 100000 + 321 * (j + 5)) (by show 40 + (j + 5) + 0 ≤ 40 + (j + 5); omega) (by show 100000 + 321 * (j + 5) + 0 ≤ 100000 + 321 * (j + 5); omega) ?_
        refine v_lcmp C dL_law_977 ?_
        refine v_lcif_eq C 1176 dL_law_978 (by decide) (fun h978 => ?_) (fun h978 => ?_)
        · exact nx _ _ _ _ _ _ hJ2
        · exact absurd rfl h978
      · exact absurd h0 h961
    · exact absurd h0 h934
  · refine v_aload_n C dL_law_923 rfl ?_
    refine v_aload_n C dL_law_924 rfl ?_
    refine v_iload_n C dL_law_925 rfl ?_
    refine v_iconstN 1 C dL_law_926 ?_
    first | refine v_iaddN C dL_law_927 ?_ | refine v_iadd C dL_law_927 ?_
    refine v_sld C hs (by omega) (by omega) dL_law_928 ?_
    refine v_aload_n C dL_law_929 rfl ?_
    refine v_iload_n C dL_law_930 rfl ?_
    refine v_iconstN 2 C dL_law_931 ?_
    first | refine v_iaddN C dL_law_932 ?_ | refine v_iadd C dL_law_932 ?_
    refine v_sld C hs (by omega) (by omega) dL_law_933 ?_
    refine v_if_eq C 941 dL_law_934 (by decide) (fun h934 => ?_) (fun h934 => ?_)
    · exact absurd h934 h0
    · refine v_iconstN 1 C dL_law_937 ?_
      refine v_goto C 942 dL_law_938 (by decide) ?_
      refine v_aload_n C dL_law_942 rfl ?_
      refine v_iload_n C dL_law_943 rfl ?_
      refine v_iconstN 3 C dL_law_944 ?_
      first | refine v_iaddN C dL_law_945 ?_ | refine v_iadd C dL_law_945 ?_
      refine v_sld C hs (by omega) (by omega) dL_law_946 ?_
      refine v_callV3_2 C (m_X4_gap T B) lk_L_104 ⟨wt_401, wt_402⟩ 4 rfl dL_law_947 ⟨Nat.le_of_ble_eq_true rfl, Nat.le_of_ble_eq_true rfl⟩ (Nat.le_of_ble_eq_true rfl) ⟨by show 40 + j + 0 ≤ 600000; omega, by show 100000 + 321 * j + 0 ≤ 7302250; omega⟩ (by assumption) (cTo_4 (by assumption)) ?_
      refine c_X4_gap (st := st) (cl := true) hR hO (fun z1 S1 I1 J1 R1 r1 k1 => ?_)
      have hM1 := MoS_kp k1 hM
      have hm1 := Rm_kp k1 hm
      have hxM1 := hM1.1
      refine v_widen (k := 40 + (j + 5)) (n := 100000 + 321 * (j + 5)) (by show 40 + j + 0 ≤ 40 + (j + 5); omega) (by show 100000 + 321 * j + 0 ≤ 100000 + 321 * (j + 5); omega) ?_
      refine v_aload_n C dL_law_950 rfl ?_
      refine v_aload_n C dL_law_951 rfl ?_
      refine v_iload_n C dL_law_952 rfl ?_
      refine v_iconstN 1 C dL_law_953 ?_
      first | refine v_iaddN C dL_law_954 ?_ | refine v_iadd C dL_law_954 ?_
      refine v_sld C hs (by omega) (by omega) dL_law_955 ?_
      refine v_aload_n C dL_law_956 rfl ?_
      refine v_iload_n C dL_law_957 rfl ?_
      refine v_iconstN 2 C dL_law_958 ?_
      first | refine v_iaddN C dL_law_959 ?_ | refine v_iadd C dL_law_959 ?_
      refine v_sld C hs (by omega) (by omega) dL_law_960 ?_
      refine v_if_eq C 968 dL_law_961 (by decide) (fun h961 => ?_) (fun h961 => ?_)
      · exact absurd h961 h0
      · refine v_iconstN 1 C dL_law_964 ?_
        refine v_goto C 969 dL_law_965 (by decide) ?_
        refine v_aload_n C dL_law_969 rfl ?_
        refine v_iload_n C dL_law_970 rfl ?_
        refine v_iconstN 3 C dL_law_971 ?_
        first | refine v_iaddN C dL_law_972 ?_ | refine v_iadd C dL_law_972 ?_
        refine v_sld C hs (by omega) (by omega) dL_law_973 ?_
        refine v_callV3_2 C (m_X5_gap T B) lk_L_108 ⟨wt_734, wt_735⟩ 5 rfl dL_law_974 ⟨Nat.le_of_ble_eq_true rfl, Nat.le_of_ble_eq_true rfl⟩ (Nat.le_of_ble_eq_true rfl) ⟨by show 40 + (j + 5) + 0 ≤ 600000; omega, by show 100000 + 321 * (j + 5) + 0 ≤ 7302250; omega⟩ (by assumption) (cTo_5 (by assumption)) ?_
        refine c_X5_gap (st := st) (cl := true) hM1 hm1 hO (fun I2 J2 r2 f2 g2 => ?_)
        have hJ2 := Jn_next r1 hM1 r2 f2 (ok_gap hO _ _ _)
        refine v_widen (k := 40 + (j + 5)) (n := 100000 + 321 * (j + 5)) (by show 40 + (j + 5) + 0 ≤ 40 + (j + 5); omega) (by show 100000 + 321 * (j + 5) + 0 ≤ 100000 + 321 * (j + 5); omega) ?_
        refine v_lcmp C dL_law_977 ?_
        refine v_lcif_eq C 1176 dL_law_978 (by decide) (fun h978 => ?_) (fun h978 => ?_)
        · exact nx _ _ _ _ _ _ hJ2
        · exact absurd rfl h978
set_option maxRecDepth 100000 in
set_option maxHeartbeats 1000000 in
/-- worst -/
theorem law_22 {X : CX} {T : TC} {B : Nat} (C : Cx X "EvenScatterLaw" code room_1 T B 4) {b L x j : Nat} {xs : Nat → Int32} (hs : Scr X b L xs) (hL : L ≤ 2560) (hj : j + 5 ≤ L) {st : St} {z : Nat} {S : MS} {I : MI} {J : MJ} {R : MR} (hJ : Jn x st z S I R) (nx : Nx X b x j) : V X (40 + j) (100000 + 321 * j) z S I J R 983 [some (.ref b), some (.ref x), some (.ref (x + 15)), some (.int (nI j))] [] := by
  obtain ⟨hR, hM, hm, hO⟩ := hJ
  have hxx : S x = (5, 0) := by obtain ⟨sa, hX, -⟩ := hR; exact hX.1
  refine v_aload_n C dL_law_983 rfl ?_
  refine v_aload_n C dL_law_984 rfl ?_
  refine v_iload_n C dL_law_985 rfl ?_
  refine v_iconstN 1 C dL_law_986 ?_
  first | refine v_iaddN C dL_law_987 ?_ | refine v_iadd C dL_law_987 ?_
  refine v_sld C hs (by omega) (by omega) dL_law_988 ?_
  refine v_aload_n C dL_law_989 rfl ?_
  refine v_iload_n C dL_law_990 rfl ?_
  refine v_iconstN 2 C dL_law_991 ?_
  first | refine v_iaddN C dL_law_992 ?_ | refine v_iadd C dL_law_992 ?_
  refine v_sld C hs (by omega) (by omega) dL_law_993 ?_
  refine v_callV2_2 C (m_X4_worst T B) lk_L_109 ⟨wt_430, wt_431⟩ 4 rfl dL_law_994 ⟨Nat.le_of_ble_eq_true rfl, Nat.le_of_ble_eq_true rfl⟩ (Nat.le_of_ble_eq_true rfl) ⟨by show 40 + j + 0 ≤ 600000; omega, by show 100000 + 321 * j + 0 ≤ 7302250; omega⟩ (by assumption) (cTo_4 (by assumption)) ?_
  refine c_X4_worst (st := st) hR hO (fun z1 S1 I1 J1 R1 r1 k1 => ?_)
  have hM1 := MoS_kp k1 hM
  have hm1 := Rm_kp k1 hm
  have hxM1 := hM1.1
  refine v_widen (k := 40 + (j + 5)) (n := 100000 + 321 * (j + 5)) (by show 40 + j + 0 ≤ 40 + (j + 5); omega) (by show 100000 + 321 * j + 0 ≤ 100000 + 321 * (j + 5); omega) ?_
  refine v_aload_n C dL_law_997 rfl ?_
  refine v_aload_n C dL_law_998 rfl ?_
  refine v_iload_n C dL_law_999 rfl ?_
  refine v_iconstN 1 C dL_law_1000 ?_
  first | refine v_iaddN C dL_law_1001 ?_ | refine v_iadd C dL_law_1001 ?_
  refine v_sld C hs (by omega) (by omega) dL_law_1002 ?_
  refine v_aload_n C dL_law_1003 rfl ?_
  refine v_iload_n C dL_law_1004 rfl ?_
  refine v_iconstN 2 C dL_law_1005 ?_
  first | refine v_iaddN C dL_law_1006 ?_ | refine v_iadd C dL_law_1006 ?_
  refine v_sld C hs (by omega) (by omega) dL_law_1007 ?_
  refine v_callV2_2 C (m_X5_worst T B) lk_L_113 ⟨wt_760, wt_761⟩ 5 rfl dL_law_1008 ⟨Nat.le_of_ble_eq_true rfl, Nat.le_of_ble_eq_true rfl⟩ (Nat.le_of_ble_eq_true rfl) ⟨by show 40 + (j + 5) + 0 ≤ 600000; omega, by show 100000 + 321 * (j + 5) + 0 ≤ 7302250; omega⟩ (by assumption) (cTo_5 (by assumption)) ?_
  refine c_X5_worst (st := st) hM1 hm1 hO (fun I2 J2 r2 f2 g2 => ?_)
  have hJ2 := Jn_next r1 hM1 r2 f2 (ok_worst hO _ _)
  refine v_widen (k := 40 + (j + 5)) (n := 100000 + 321 * (j + 5)) (by show 40 + (j + 5) + 0 ≤ 40 + (j + 5); omega) (by show 100000 + 321 * (j + 5) + 0 ≤ 100000 + 321 * (j + 5); omega) ?_
  refine v_lcmp C dL_law_1011 ?_
  refine v_lcif_eq C 1176 dL_law_1012 (by decide) (fun h1012 => ?_) (fun h1012 => ?_)
  · exact nx _ _ _ _ _ _ hJ2
  · exact absurd rfl h1012
set_option maxRecDepth 100000 in
set_option maxHeartbeats 1000000 in
/-- square -/
theorem law_23 {X : CX} {T : TC} {B : Nat} (C : Cx X "EvenScatterLaw" code room_1 T B 4) {b L x j : Nat} {xs : Nat → Int32} (hs : Scr X b L xs) (hL : L ≤ 2560) (hj : j + 5 ≤ L) {st : St} {z : Nat} {S : MS} {I : MI} {J : MJ} {R : MR} (hJ : Jn x st z S I R) (nx : Nx X b x j) : V X (40 + j) (100000 + 321 * j) z S I J R 1017 [some (.ref b), some (.ref x), some (.ref (x + 15)), some (.int (nI j))] [] := by
  obtain ⟨hR, hM, hm, hO⟩ := hJ
  have hxx : S x = (5, 0) := by obtain ⟨sa, hX, -⟩ := hR; exact hX.1
  refine v_aload_n C dL_law_1017 rfl ?_
  refine v_aload_n C dL_law_1018 rfl ?_
  refine v_iload_n C dL_law_1019 rfl ?_
  refine v_iconstN 1 C dL_law_1020 ?_
  first | refine v_iaddN C dL_law_1021 ?_ | refine v_iadd C dL_law_1021 ?_
  refine v_sld C hs (by omega) (by omega) dL_law_1022 ?_
  refine v_aload_n C dL_law_1023 rfl ?_
  refine v_iload_n C dL_law_1024 rfl ?_
  refine v_iconstN 2 C dL_law_1025 ?_
  first | refine v_iaddN C dL_law_1026 ?_ | refine v_iadd C dL_law_1026 ?_
  refine v_sld C hs (by omega) (by omega) dL_law_1027 ?_
  refine v_callV2_2 C (m_X4_square T B) lk_L_114 ⟨wt_477, wt_478⟩ 4 rfl dL_law_1028 ⟨Nat.le_of_ble_eq_true rfl, Nat.le_of_ble_eq_true rfl⟩ (Nat.le_of_ble_eq_true rfl) ⟨by show 40 + j + 0 ≤ 600000; omega, by show 100000 + 321 * j + 0 ≤ 7302250; omega⟩ (by assumption) (cTo_4 (by assumption)) ?_
  refine c_X4_square (st := st) hR hO (fun z1 S1 I1 J1 R1 r1 k1 => ?_)
  have hM1 := MoS_kp k1 hM
  have hm1 := Rm_kp k1 hm
  have hxM1 := hM1.1
  refine v_widen (k := 40 + (j + 5)) (n := 100000 + 321 * (j + 5)) (by show 40 + j + 0 ≤ 40 + (j + 5); omega) (by show 100000 + 321 * j + 0 ≤ 100000 + 321 * (j + 5); omega) ?_
  refine v_aload_n C dL_law_1031 rfl ?_
  refine v_aload_n C dL_law_1032 rfl ?_
  refine v_iload_n C dL_law_1033 rfl ?_
  refine v_iconstN 1 C dL_law_1034 ?_
  first | refine v_iaddN C dL_law_1035 ?_ | refine v_iadd C dL_law_1035 ?_
  refine v_sld C hs (by omega) (by omega) dL_law_1036 ?_
  refine v_aload_n C dL_law_1037 rfl ?_
  refine v_iload_n C dL_law_1038 rfl ?_
  refine v_iconstN 2 C dL_law_1039 ?_
  first | refine v_iaddN C dL_law_1040 ?_ | refine v_iadd C dL_law_1040 ?_
  refine v_sld C hs (by omega) (by omega) dL_law_1041 ?_
  refine v_callV2_2 C (m_X5_square T B) lk_L_117 ⟨wt_764, wt_765⟩ 5 rfl dL_law_1042 ⟨Nat.le_of_ble_eq_true rfl, Nat.le_of_ble_eq_true rfl⟩ (Nat.le_of_ble_eq_true rfl) ⟨by show 40 + (j + 5) + 0 ≤ 600000; omega, by show 100000 + 321 * (j + 5) + 0 ≤ 7302250; omega⟩ (by assumption) (cTo_5 (by assumption)) ?_
  refine c_X5_square (st := st) hM1 hm1 hO (fun I2 J2 r2 f2 g2 => ?_)
  have hJ2 := Jn_next r1 hM1 r2 f2 (ok_square hO _ _)
  refine v_widen (k := 40 + (j + 5)) (n := 100000 + 321 * (j + 5)) (by show 40 + (j + 5) + 0 ≤ 40 + (j + 5); omega) (by show 100000 + 321 * (j + 5) + 0 ≤ 100000 + 321 * (j + 5); omega) ?_
  refine v_lcmp C dL_law_1045 ?_
  refine v_lcif_eq C 1176 dL_law_1046 (by decide) (fun h1046 => ?_) (fun h1046 => ?_)
  · exact nx _ _ _ _ _ _ hJ2
  · exact absurd rfl h1046
set_option maxRecDepth 100000 in
set_option maxHeartbeats 1000000 in
/-- wave -/
theorem law_24 {X : CX} {T : TC} {B : Nat} (C : Cx X "EvenScatterLaw" code room_1 T B 4) {b L x j : Nat} {xs : Nat → Int32} (hs : Scr X b L xs) (hL : L ≤ 2560) (hj : j + 5 ≤ L) {st : St} {z : Nat} {S : MS} {I : MI} {J : MJ} {R : MR} (hJ : Jn x st z S I R) (nx : Nx X b x j) : V X (40 + j) (100000 + 321 * j) z S I J R 1051 [some (.ref b), some (.ref x), some (.ref (x + 15)), some (.int (nI j))] [] := by
  obtain ⟨hR, hM, hm, hO⟩ := hJ
  have hxx : S x = (5, 0) := by obtain ⟨sa, hX, -⟩ := hR; exact hX.1
  refine v_aload_n C dL_law_1051 rfl ?_
  refine v_aload_n C dL_law_1052 rfl ?_
  refine v_iload_n C dL_law_1053 rfl ?_
  refine v_iconstN 1 C dL_law_1054 ?_
  first | refine v_iaddN C dL_law_1055 ?_ | refine v_iadd C dL_law_1055 ?_
  refine v_sld C hs (by omega) (by omega) dL_law_1056 ?_
  refine v_callV1_2 C (m_X4_wave T B) lk_L_118 ⟨wt_490, wt_491⟩ 4 rfl dL_law_1057 ⟨Nat.le_of_ble_eq_true rfl, Nat.le_of_ble_eq_true rfl⟩ (Nat.le_of_ble_eq_true rfl) ⟨by show 40 + j + 0 ≤ 600000; omega, by show 100000 + 321 * j + 0 ≤ 7302250; omega⟩ (by assumption) (cTo_4 (by assumption)) ?_
  refine c_X4_wave (st := st) hR hO (fun z1 S1 I1 J1 R1 r1 k1 => ?_)
  have hM1 := MoS_kp k1 hM
  have hm1 := Rm_kp k1 hm
  have hxM1 := hM1.1
  refine v_widen (k := 40 + (j + 5)) (n := 100000 + 321 * (j + 5)) (by show 40 + j + 0 ≤ 40 + (j + 5); omega) (by show 100000 + 321 * j + 0 ≤ 100000 + 321 * (j + 5); omega) ?_
  refine v_aload_n C dL_law_1060 rfl ?_
  refine v_aload_n C dL_law_1061 rfl ?_
  refine v_iload_n C dL_law_1062 rfl ?_
  refine v_iconstN 1 C dL_law_1063 ?_
  first | refine v_iaddN C dL_law_1064 ?_ | refine v_iadd C dL_law_1064 ?_
  refine v_sld C hs (by omega) (by omega) dL_law_1065 ?_
  refine v_callV1_2 C (m_X5_wave T B) lk_L_122 ⟨wt_770, wt_771⟩ 5 rfl dL_law_1066 ⟨Nat.le_of_ble_eq_true rfl, Nat.le_of_ble_eq_true rfl⟩ (Nat.le_of_ble_eq_true rfl) ⟨by show 40 + (j + 5) + 0 ≤ 600000; omega, by show 100000 + 321 * (j + 5) + 0 ≤ 7302250; omega⟩ (by assumption) (cTo_5 (by assumption)) ?_
  refine c_X5_wave (st := st) hM1 hm1 hO (fun I2 J2 r2 f2 g2 => ?_)
  have hJ2 := Jn_next r1 hM1 r2 f2 (ok_wave hO _)
  refine v_widen (k := 40 + (j + 5)) (n := 100000 + 321 * (j + 5)) (by show 40 + (j + 5) + 0 ≤ 40 + (j + 5); omega) (by show 100000 + 321 * (j + 5) + 0 ≤ 100000 + 321 * (j + 5); omega) ?_
  refine v_lcmp C dL_law_1069 ?_
  refine v_lcif_eq C 1176 dL_law_1070 (by decide) (fun h1070 => ?_) (fun h1070 => ?_)
  · exact nx _ _ _ _ _ _ hJ2
  · exact absurd rfl h1070
set_option maxRecDepth 100000 in
set_option maxHeartbeats 1000000 in
/-- waves -/
theorem law_25 {X : CX} {T : TC} {B : Nat} (C : Cx X "EvenScatterLaw" code room_1 T B 4) {b L x j : Nat} {xs : Nat → Int32} (hs : Scr X b L xs) (hL : L ≤ 2560) (hj : j + 5 ≤ L) {st : St} {z : Nat} {S : MS} {I : MI} {J : MJ} {R : MR} (hJ : Jn x st z S I R) (nx : Nx X b x j) : V X (40 + j) (100000 + 321 * j) z S I J R 1075 [some (.ref b), some (.ref x), some (.ref (x + 15)), some (.int (nI j))] [] := by
  obtain ⟨hR, hM, hm, hO⟩ := hJ
  have hxx : S x = (5, 0) := by obtain ⟨sa, hX, -⟩ := hR; exact hX.1
  refine v_aload_n C dL_law_1075 rfl ?_
  refine v_aload_n C dL_law_1076 rfl ?_
  refine v_iload_n C dL_law_1077 rfl ?_
  refine v_iconstN 1 C dL_law_1078 ?_
  first | refine v_iaddN C dL_law_1079 ?_ | refine v_iadd C dL_law_1079 ?_
  refine v_sld C hs (by omega) (by omega) dL_law_1080 ?_
  refine v_aload_n C dL_law_1081 rfl ?_
  refine v_iload_n C dL_law_1082 rfl ?_
  refine v_iconstN 2 C dL_law_1083 ?_
  first | refine v_iaddN C dL_law_1084 ?_ | refine v_iadd C dL_law_1084 ?_
  refine v_sld C hs (by omega) (by omega) dL_law_1085 ?_
  refine v_aload_n C dL_law_1086 rfl ?_
  refine v_iload_n C dL_law_1087 rfl ?_
  refine v_iconstN 3 C dL_law_1088 ?_
  first | refine v_iaddN C dL_law_1089 ?_ | refine v_iadd C dL_law_1089 ?_
  refine v_sld C hs (by omega) (by omega) dL_law_1090 ?_
  refine v_callV3_2 C (m_X4_waves T B) lk_L_123 ⟨wt_504, wt_505⟩ 4 rfl dL_law_1091 ⟨Nat.le_of_ble_eq_true rfl, Nat.le_of_ble_eq_true rfl⟩ (Nat.le_of_ble_eq_true rfl) ⟨by show 40 + j + 0 ≤ 600000; omega, by show 100000 + 321 * j + 0 ≤ 7302250; omega⟩ (by assumption) (cTo_4 (by assumption)) ?_
  refine c_X4_waves (st := st) hR hO (fun z1 S1 I1 J1 R1 r1 k1 => ?_)
  have hM1 := MoS_kp k1 hM
  have hm1 := Rm_kp k1 hm
  have hxM1 := hM1.1
  refine v_widen (k := 40 + (j + 5)) (n := 100000 + 321 * (j + 5)) (by show 40 + j + 0 ≤ 40 + (j + 5); omega) (by show 100000 + 321 * j + 0 ≤ 100000 + 321 * (j + 5); omega) ?_
  refine v_aload_n C dL_law_1094 rfl ?_
  refine v_aload_n C dL_law_1095 rfl ?_
  refine v_iload_n C dL_law_1096 rfl ?_
  refine v_iconstN 1 C dL_law_1097 ?_
  first | refine v_iaddN C dL_law_1098 ?_ | refine v_iadd C dL_law_1098 ?_
  refine v_sld C hs (by omega) (by omega) dL_law_1099 ?_
  refine v_aload_n C dL_law_1100 rfl ?_
  refine v_iload_n C dL_law_1101 rfl ?_
  refine v_iconstN 2 C dL_law_1102 ?_
  first | refine v_iaddN C dL_law_1103 ?_ | refine v_iadd C dL_law_1103 ?_
  refine v_sld C hs (by omega) (by omega) dL_law_1104 ?_
  refine v_aload_n C dL_law_1105 rfl ?_
  refine v_iload_n C dL_law_1106 rfl ?_
  refine v_iconstN 3 C dL_law_1107 ?_
  first | refine v_iaddN C dL_law_1108 ?_ | refine v_iadd C dL_law_1108 ?_
  refine v_sld C hs (by omega) (by omega) dL_law_1109 ?_
  refine v_callV3_2 C (m_X5_waves T B) lk_L_127 ⟨wt_779, wt_780⟩ 5 rfl dL_law_1110 ⟨Nat.le_of_ble_eq_true rfl, Nat.le_of_ble_eq_true rfl⟩ (Nat.le_of_ble_eq_true rfl) ⟨by show 40 + (j + 5) + 0 ≤ 600000; omega, by show 100000 + 321 * (j + 5) + 0 ≤ 7302250; omega⟩ (by assumption) (cTo_5 (by assumption)) ?_
  refine c_X5_waves (st := st) hM1 hm1 hO (fun I2 J2 r2 f2 g2 => ?_)
  have hJ2 := Jn_next r1 hM1 r2 f2 (ok_waves hO _ _ _)
  refine v_widen (k := 40 + (j + 5)) (n := 100000 + 321 * (j + 5)) (by show 40 + (j + 5) + 0 ≤ 40 + (j + 5); omega) (by show 100000 + 321 * (j + 5) + 0 ≤ 100000 + 321 * (j + 5); omega) ?_
  refine v_lcmp C dL_law_1113 ?_
  refine v_lcif_eq C 1176 dL_law_1114 (by decide) (fun h1114 => ?_) (fun h1114 => ?_)
  · exact nx _ _ _ _ _ _ hJ2
  · exact absurd rfl h1114
set_option maxRecDepth 100000 in
set_option maxHeartbeats 1000000 in
/-- sum -/
theorem law_26 {X : CX} {T : TC} {B : Nat} (C : Cx X "EvenScatterLaw" code room_1 T B 4) {b L x j : Nat} {xs : Nat → Int32} (hs : Scr X b L xs) (hL : L ≤ 2560) (hj : j + 5 ≤ L) {st : St} {z : Nat} {S : MS} {I : MI} {J : MJ} {R : MR} (hJ : Jn x st z S I R) (nx : Nx X b x j) : V X (40 + j) (100000 + 321 * j) z S I J R 1119 [some (.ref b), some (.ref x), some (.ref (x + 15)), some (.int (nI j))] [] := by
  obtain ⟨hR, hM, hm, hO⟩ := hJ
  have hxx : S x = (5, 0) := by obtain ⟨sa, hX, -⟩ := hR; exact hX.1
  refine v_aload_n C dL_law_1119 rfl ?_
  refine v_aload_n C dL_law_1120 rfl ?_
  refine v_iload_n C dL_law_1121 rfl ?_
  refine v_iconstN 1 C dL_law_1122 ?_
  first | refine v_iaddN C dL_law_1123 ?_ | refine v_iadd C dL_law_1123 ?_
  refine v_sld C hs (by omega) (by omega) dL_law_1124 ?_
  refine v_aload_n C dL_law_1125 rfl ?_
  refine v_iload_n C dL_law_1126 rfl ?_
  refine v_iconstN 2 C dL_law_1127 ?_
  first | refine v_iaddN C dL_law_1128 ?_ | refine v_iadd C dL_law_1128 ?_
  refine v_sld C hs (by omega) (by omega) dL_law_1129 ?_
  refine v_callV2_2 C (m_X4_sum T B) lk_L_128 ⟨wt_514, wt_515⟩ 4 rfl dL_law_1130 ⟨Nat.le_of_ble_eq_true rfl, Nat.le_of_ble_eq_true rfl⟩ (Nat.le_of_ble_eq_true rfl) ⟨by show 40 + j + 0 ≤ 600000; omega, by show 100000 + 321 * j + 0 ≤ 7302250; omega⟩ (by assumption) (cTo_4 (by assumption)) ?_
  refine c_X4_sum (st := st) hR hO (fun z1 S1 I1 J1 R1 r1 k1 => ?_)
  have hM1 := MoS_kp k1 hM
  have hm1 := Rm_kp k1 hm
  have hxM1 := hM1.1
  refine v_widen (k := 40 + (j + 5)) (n := 100000 + 321 * (j + 5)) (by show 40 + j + 0 ≤ 40 + (j + 5); omega) (by show 100000 + 321 * j + 0 ≤ 100000 + 321 * (j + 5); omega) ?_
  refine v_aload_n C dL_law_1133 rfl ?_
  refine v_aload_n C dL_law_1134 rfl ?_
  refine v_iload_n C dL_law_1135 rfl ?_
  refine v_iconstN 1 C dL_law_1136 ?_
  first | refine v_iaddN C dL_law_1137 ?_ | refine v_iadd C dL_law_1137 ?_
  refine v_sld C hs (by omega) (by omega) dL_law_1138 ?_
  refine v_aload_n C dL_law_1139 rfl ?_
  refine v_iload_n C dL_law_1140 rfl ?_
  refine v_iconstN 2 C dL_law_1141 ?_
  first | refine v_iaddN C dL_law_1142 ?_ | refine v_iadd C dL_law_1142 ?_
  refine v_sld C hs (by omega) (by omega) dL_law_1143 ?_
  refine v_callV2_2 C (m_X5_sum T B) lk_L_131 ⟨wt_787, wt_788⟩ 5 rfl dL_law_1144 ⟨Nat.le_of_ble_eq_true rfl, Nat.le_of_ble_eq_true rfl⟩ (Nat.le_of_ble_eq_true rfl) ⟨by show 40 + (j + 5) + 0 ≤ 600000; omega, by show 100000 + 321 * (j + 5) + 0 ≤ 7302250; omega⟩ (by assumption) (cTo_5 (by assumption)) ?_
  refine c_X5_sum (st := st) hM1 hm1 hO (fun I2 J2 r2 f2 g2 => ?_)
  have hJ2 := Jn_next r1 hM1 r2 f2 (ok_sum hO _ _)
  refine v_widen (k := 40 + (j + 5)) (n := 100000 + 321 * (j + 5)) (by show 40 + (j + 5) + 0 ≤ 40 + (j + 5); omega) (by show 100000 + 321 * (j + 5) + 0 ≤ 100000 + 321 * (j + 5); omega) ?_
  refine v_lcmp C dL_law_1147 ?_
  refine v_lcif_eq C 1176 dL_law_1148 (by decide) (fun h1148 => ?_) (fun h1148 => ?_)
  · exact nx _ _ _ _ _ _ hJ2
  · exact absurd rfl h1148
set_option maxRecDepth 100000 in
set_option maxHeartbeats 1000000 in
/-- status -/
theorem law_27 {X : CX} {T : TC} {B : Nat} (C : Cx X "EvenScatterLaw" code room_1 T B 4) {b L x j : Nat} {xs : Nat → Int32} (hs : Scr X b L xs) (hL : L ≤ 2560) (hj : j + 5 ≤ L) {st : St} {z : Nat} {S : MS} {I : MI} {J : MJ} {R : MR} (hJ : Jn x st z S I R) (nx : Nx X b x j) : V X (40 + j) (100000 + 321 * j) z S I J R 1153 [some (.ref b), some (.ref x), some (.ref (x + 15)), some (.int (nI j))] [] := by
  obtain ⟨hR, hM, hm, hO⟩ := hJ
  have hxx : S x = (5, 0) := by obtain ⟨sa, hX, -⟩ := hR; exact hX.1
  refine v_aload_n C dL_law_1153 rfl ?_
  refine v_aload_n C dL_law_1154 rfl ?_
  refine v_iload_n C dL_law_1155 rfl ?_
  refine v_iconstN 1 C dL_law_1156 ?_
  first | refine v_iaddN C dL_law_1157 ?_ | refine v_iadd C dL_law_1157 ?_
  refine v_sld C hs (by omega) (by omega) dL_law_1158 ?_
  refine v_callV1_1 C (m_X4_status T B) lk_L_132 ⟨wt_523, wt_524⟩ 4 rfl dL_law_1159 ⟨Nat.le_of_ble_eq_true rfl, Nat.le_of_ble_eq_true rfl⟩ (Nat.le_of_ble_eq_true rfl) ⟨by show 40 + j + 0 ≤ 600000; omega, by show 100000 + 321 * j + 0 ≤ 7302250; omega⟩ (by assumption) (cTo_4 (by assumption)) ?_
  refine c_X4_status (st := st) hR hO (fun z1 S1 I1 J1 R1 r1 k1 => ?_)
  have hM1 := MoS_kp k1 hM
  have hm1 := Rm_kp k1 hm
  have hxM1 := hM1.1
  refine v_widen (k := 40 + (j + 5)) (n := 100000 + 321 * (j + 5)) (by show 40 + j + 0 ≤ 40 + (j + 5); omega) (by show 100000 + 321 * j + 0 ≤ 100000 + 321 * (j + 5); omega) ?_
  refine v_aload_n C dL_law_1162 rfl ?_
  refine v_aload_n C dL_law_1163 rfl ?_
  refine v_iload_n C dL_law_1164 rfl ?_
  refine v_iconstN 1 C dL_law_1165 ?_
  first | refine v_iaddN C dL_law_1166 ?_ | refine v_iadd C dL_law_1166 ?_
  refine v_sld C hs (by omega) (by omega) dL_law_1167 ?_
  refine v_callV1_1 C (m_X5_status T B) lk_L_135 ⟨wt_791, wt_792⟩ 5 rfl dL_law_1168 ⟨Nat.le_of_ble_eq_true rfl, Nat.le_of_ble_eq_true rfl⟩ (Nat.le_of_ble_eq_true rfl) ⟨by show 40 + (j + 5) + 0 ≤ 600000; omega, by show 100000 + 321 * (j + 5) + 0 ≤ 7302250; omega⟩ (by assumption) (cTo_5 (by assumption)) ?_
  refine c_X5_status (st := st) hM1 hm1 hO (fun I2 J2 r2 f2 g2 => ?_)
  have hJ2 := Jn_next r1 hM1 r2 f2 (ok_status hO _)
  refine v_widen (k := 40 + (j + 5)) (n := 100000 + 321 * (j + 5)) (by show 40 + (j + 5) + 0 ≤ 40 + (j + 5); omega) (by show 100000 + 321 * (j + 5) + 0 ≤ 100000 + 321 * (j + 5); omega) ?_
  refine v_icmp_eq C 1176 dL_law_1171 (by decide) (fun h1171 => ?_) (fun h1171 => ?_)
  · exact nx _ _ _ _ _ _ hJ2
  · exact absurd rfl h1171
