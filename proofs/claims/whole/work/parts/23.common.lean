/-! the class: a Common, its small methods -/
theorem bct_f : ∀ w : Fin 64, (andI (((andI (((andI ((w.val : Int) - (andI (ushrI (w.val : Int) 1) 1431655765)) 858993459) + (andI (ushrI ((w.val : Int) - (andI (ushrI (w.val : Int) 1) 1431655765)) 2) 858993459)) + (ushrI ((andI ((w.val : Int) - (andI (ushrI (w.val : Int) 1) 1431655765)) 858993459) + (andI (ushrI ((w.val : Int) - (andI (ushrI (w.val : Int) 1) 1431655765)) 2) 858993459)) 4)) 252645135) + (ushrI (andI (((andI ((w.val : Int) - (andI (ushrI (w.val : Int) 1) 1431655765)) 858993459) + (andI (ushrI ((w.val : Int) - (andI (ushrI (w.val : Int) 1) 1431655765)) 2) 858993459)) + (ushrI ((andI ((w.val : Int) - (andI (ushrI (w.val : Int) 1) 1431655765)) 858993459) + (andI (ushrI ((w.val : Int) - (andI (ushrI (w.val : Int) 1) 1431655765)) 2) 858993459)) 4)) 252645135) 8)) + (ushrI ((andI (((andI ((w.val : Int) - (andI (ushrI (w.val : Int) 1) 1431655765)) 858993459) + (andI (ushrI ((w.val : Int) - (andI (ushrI (w.val : Int) 1) 1431655765)) 2) 858993459)) + (ushrI ((andI ((w.val : Int) - (andI (ushrI (w.val : Int) 1) 1431655765)) 858993459) + (andI (ushrI ((w.val : Int) - (andI (ushrI (w.val : Int) 1) 1431655765)) 2) 858993459)) 4)) 252645135) + (ushrI (andI (((andI ((w.val : Int) - (andI (ushrI (w.val : Int) 1) 1431655765)) 858993459) + (andI (ushrI ((w.val : Int) - (andI (ushrI (w.val : Int) 1) 1431655765)) 2) 858993459)) + (ushrI ((andI ((w.val : Int) - (andI (ushrI (w.val : Int) 1) 1431655765)) 858993459) + (andI (ushrI ((w.val : Int) - (andI (ushrI (w.val : Int) 1) 1431655765)) 2) 858993459)) 4)) 252645135) 8)) 16)) 63) = popc (w.val : Int) := by decide +kernel
theorem bct_v {v : Int} (hv : 0 ≤ v ∧ v < 64) : (andI (((andI (((andI (v - (andI (ushrI v 1) 1431655765)) 858993459) + (andI (ushrI (v - (andI (ushrI v 1) 1431655765)) 2) 858993459)) + (ushrI ((andI (v - (andI (ushrI v 1) 1431655765)) 858993459) + (andI (ushrI (v - (andI (ushrI v 1) 1431655765)) 2) 858993459)) 4)) 252645135) + (ushrI (andI (((andI (v - (andI (ushrI v 1) 1431655765)) 858993459) + (andI (ushrI (v - (andI (ushrI v 1) 1431655765)) 2) 858993459)) + (ushrI ((andI (v - (andI (ushrI v 1) 1431655765)) 858993459) + (andI (ushrI (v - (andI (ushrI v 1) 1431655765)) 2) 858993459)) 4)) 252645135) 8)) + (ushrI ((andI (((andI (v - (andI (ushrI v 1) 1431655765)) 858993459) + (andI (ushrI (v - (andI (ushrI v 1) 1431655765)) 2) 858993459)) + (ushrI ((andI (v - (andI (ushrI v 1) 1431655765)) 858993459) + (andI (ushrI (v - (andI (ushrI v 1) 1431655765)) 2) 858993459)) 4)) 252645135) + (ushrI (andI (((andI (v - (andI (ushrI v 1) 1431655765)) 858993459) + (andI (ushrI (v - (andI (ushrI v 1) 1431655765)) 2) 858993459)) + (ushrI ((andI (v - (andI (ushrI v 1) 1431655765)) 858993459) + (andI (ushrI (v - (andI (ushrI v 1) 1431655765)) 2) 858993459)) 4)) 252645135) 8)) 16)) 63) = popc v := by
  have := bct_f ⟨v.toNat, by omega⟩
  simpa [Int.toNat_of_nonneg hv.1] using this
set_option maxHeartbeats 4000000 in
set_option maxRecDepth 20000 in
theorem kJ6_bitCount_0f7a4 (g : Gt) {v : Int} {h : AH} (hv : 0 ≤ v ∧ v < 64) : CnI g mJ6_bitCount_0f7a4 1 [.int (iI v)] h (popc v) := by
  refine Cn.mk (by decide +kernel) (Nat.le_of_ble_eq_true rfl) ?_
  intro x sz hx hr
  show Zj g x (sz, 0, 0) h 0 [(0, .int (iI v))] []
  refine z_iload_n hx dJ6_bitCount_0f7a4_0 rfl 0 rfl ?_
  refine z_iload_n hx dJ6_bitCount_0f7a4_1 rfl 0 rfl ?_
  refine z_iconst hx dJ6_bitCount_0f7a4_2 ?_
  refine z_iushr hx dJ6_bitCount_0f7a4_3 ?_
  refine z_ldcw (a := 1431655765) hx dJ6_bitCount_0f7a4_4 wq_J6_265 (by decide) ?_
  refine z_iand hx dJ6_bitCount_0f7a4_7 ?_
  refine z_isub hx dJ6_bitCount_0f7a4_8 ?_
  refine z_istore_n hx dJ6_bitCount_0f7a4_9 rfl (by decide) [0] (lv' := [(0, .int (iI (v - (andI (ushrI v 1) 1431655765))))]) rfl ?_
  refine z_iload_n hx dJ6_bitCount_0f7a4_10 rfl 0 rfl ?_
  refine z_ldcw (a := 858993459) hx dJ6_bitCount_0f7a4_11 wq_J6_266 (by decide) ?_
  refine z_iand hx dJ6_bitCount_0f7a4_14 ?_
  refine z_iload_n hx dJ6_bitCount_0f7a4_15 rfl 0 rfl ?_
  refine z_iconst hx dJ6_bitCount_0f7a4_16 ?_
  refine z_iushr hx dJ6_bitCount_0f7a4_17 ?_
  refine z_ldcw (a := 858993459) hx dJ6_bitCount_0f7a4_18 wq_J6_266 (by decide) ?_
  refine z_iand hx dJ6_bitCount_0f7a4_21 ?_
  refine z_iadd hx dJ6_bitCount_0f7a4_22 ?_
  refine z_istore_n hx dJ6_bitCount_0f7a4_23 rfl (by decide) [0] (lv' := [(0, .int (iI ((andI (v - (andI (ushrI v 1) 1431655765)) 858993459) + (andI (ushrI (v - (andI (ushrI v 1) 1431655765)) 2) 858993459))))]) rfl ?_
  refine z_iload_n hx dJ6_bitCount_0f7a4_24 rfl 0 rfl ?_
  refine z_iload_n hx dJ6_bitCount_0f7a4_25 rfl 0 rfl ?_
  refine z_iconst hx dJ6_bitCount_0f7a4_26 ?_
  refine z_iushr hx dJ6_bitCount_0f7a4_27 ?_
  refine z_iadd hx dJ6_bitCount_0f7a4_28 ?_
  refine z_ldcw (a := 252645135) hx dJ6_bitCount_0f7a4_29 wq_J6_267 (by decide) ?_
  refine z_iand hx dJ6_bitCount_0f7a4_32 ?_
  refine z_istore_n hx dJ6_bitCount_0f7a4_33 rfl (by decide) [0] (lv' := [(0, .int (iI (andI (((andI (v - (andI (ushrI v 1) 1431655765)) 858993459) + (andI (ushrI (v - (andI (ushrI v 1) 1431655765)) 2) 858993459)) + (ushrI ((andI (v - (andI (ushrI v 1) 1431655765)) 858993459) + (andI (ushrI (v - (andI (ushrI v 1) 1431655765)) 2) 858993459)) 4)) 252645135)))]) rfl ?_
  refine z_iload_n hx dJ6_bitCount_0f7a4_34 rfl 0 rfl ?_
  refine z_iload_n hx dJ6_bitCount_0f7a4_35 rfl 0 rfl ?_
  refine z_bipush hx dJ6_bitCount_0f7a4_36 (by decide) ?_
  refine z_iushr hx dJ6_bitCount_0f7a4_38 ?_
  refine z_iadd hx dJ6_bitCount_0f7a4_39 ?_
  refine z_istore_n hx dJ6_bitCount_0f7a4_40 rfl (by decide) [0] (lv' := [(0, .int (iI ((andI (((andI (v - (andI (ushrI v 1) 1431655765)) 858993459) + (andI (ushrI (v - (andI (ushrI v 1) 1431655765)) 2) 858993459)) + (ushrI ((andI (v - (andI (ushrI v 1) 1431655765)) 858993459) + (andI (ushrI (v - (andI (ushrI v 1) 1431655765)) 2) 858993459)) 4)) 252645135) + (ushrI (andI (((andI (v - (andI (ushrI v 1) 1431655765)) 858993459) + (andI (ushrI (v - (andI (ushrI v 1) 1431655765)) 2) 858993459)) + (ushrI ((andI (v - (andI (ushrI v 1) 1431655765)) 858993459) + (andI (ushrI (v - (andI (ushrI v 1) 1431655765)) 2) 858993459)) 4)) 252645135) 8))))]) rfl ?_
  refine z_iload_n hx dJ6_bitCount_0f7a4_41 rfl 0 rfl ?_
  refine z_iload_n hx dJ6_bitCount_0f7a4_42 rfl 0 rfl ?_
  refine z_bipush hx dJ6_bitCount_0f7a4_43 (by decide) ?_
  refine z_iushr hx dJ6_bitCount_0f7a4_45 ?_
  refine z_iadd hx dJ6_bitCount_0f7a4_46 ?_
  refine z_istore_n hx dJ6_bitCount_0f7a4_47 rfl (by decide) [0] (lv' := [(0, .int (iI (((andI (((andI (v - (andI (ushrI v 1) 1431655765)) 858993459) + (andI (ushrI (v - (andI (ushrI v 1) 1431655765)) 2) 858993459)) + (ushrI ((andI (v - (andI (ushrI v 1) 1431655765)) 858993459) + (andI (ushrI (v - (andI (ushrI v 1) 1431655765)) 2) 858993459)) 4)) 252645135) + (ushrI (andI (((andI (v - (andI (ushrI v 1) 1431655765)) 858993459) + (andI (ushrI (v - (andI (ushrI v 1) 1431655765)) 2) 858993459)) + (ushrI ((andI (v - (andI (ushrI v 1) 1431655765)) 858993459) + (andI (ushrI (v - (andI (ushrI v 1) 1431655765)) 2) 858993459)) 4)) 252645135) 8)) + (ushrI ((andI (((andI (v - (andI (ushrI v 1) 1431655765)) 858993459) + (andI (ushrI (v - (andI (ushrI v 1) 1431655765)) 2) 858993459)) + (ushrI ((andI (v - (andI (ushrI v 1) 1431655765)) 858993459) + (andI (ushrI (v - (andI (ushrI v 1) 1431655765)) 2) 858993459)) 4)) 252645135) + (ushrI (andI (((andI (v - (andI (ushrI v 1) 1431655765)) 858993459) + (andI (ushrI (v - (andI (ushrI v 1) 1431655765)) 2) 858993459)) + (ushrI ((andI (v - (andI (ushrI v 1) 1431655765)) 858993459) + (andI (ushrI (v - (andI (ushrI v 1) 1431655765)) 2) 858993459)) 4)) 252645135) 8)) 16))))]) rfl ?_
  refine z_iload_n hx dJ6_bitCount_0f7a4_48 rfl 0 rfl ?_
  refine z_bipush hx dJ6_bitCount_0f7a4_49 (by decide) ?_
  refine z_iand hx dJ6_bitCount_0f7a4_51 ?_
  refine z_iret hx hr dJ6_bitCount_0f7a4_52 rfl rfl (q_i (by exact bct_v hv))

set_option maxHeartbeats 4000000 in
set_option maxRecDepth 20000 in
theorem kX1_setFree (g : Gt) {h : AH} {c : Nat} {F : Nat → Int → Int} {p : Int} {cell : Int} (hM : CM h c F) (hp : 0 ≤ p ∧ p < 6) (hce : rgI cell) : CnV g mX1_setFree 1 [.ref c, .int (iI p), .int (iI cell)] h (QC h c (sst (sst F 5 (fup (F 5) p cell)) 6 (fup (F 6) p (-1)))) := by
  refine Cn.mk (by decide +kernel) (Nat.le_of_ble_eq_true rfl) ?_
  intro x sz hx hr
  show Zj g x (sz, 0, 0) h 0 [(0, .ref c), (1, .int (iI p)), (2, .int (iI cell))] []
  obtain ⟨m0, m1, m2, m3, m4, m5, m6, m7, m8, m9⟩ := hM
  refine z_aload_n hx dX1_setFree_0 rfl 0 rfl ?_
  refine z_get hx dX1_setFree_1 fl_X1_24 m0 rfl ?_
  refine z_iload_n hx dX1_setFree_4 rfl 1 rfl ?_
  refine z_iload_n hx dX1_setFree_5 rfl 2 rfl ?_
  refine z_iastQ hx dX1_setFree_6 m5 (by omega) (by decide) (fun h_1 hs_2 hf_3 => ?_)
  have h_4 := hf_3.at (by omega) m0
  have h_5 := hf_3.at (by omega) m1
  have h_6 := hf_3.at (by omega) m2
  have h_7 := hf_3.at (by omega) m3
  have h_8 := hf_3.at (by omega) m4
  have h_9 := hf_3.at (by omega) m6
  have h_10 := hf_3.at (by omega) m7
  have h_11 := hf_3.at (by omega) m8
  have h_12 := hf_3.at (by omega) m9
  have fr_13 : Fr h h_1 c 10 := hf_3.wd (by omega) (by omega)
  refine z_aload_n hx dX1_setFree_7 rfl 0 rfl ?_
  refine z_get hx dX1_setFree_8 fl_X1_27 h_4 rfl ?_
  refine z_iload_n hx dX1_setFree_11 rfl 1 rfl ?_
  refine z_iconst hx dX1_setFree_12 ?_
  refine z_iastQ hx dX1_setFree_13 h_9 (by omega) (by decide) (fun h_14 hs_15 hf_16 => ?_)
  have h_17 := hf_16.at (by omega) h_4
  have h_18 := hf_16.at (by omega) h_5
  have h_19 := hf_16.at (by omega) h_6
  have h_20 := hf_16.at (by omega) h_7
  have h_21 := hf_16.at (by omega) h_8
  have h_22 := hf_16.at (by omega) hs_2
  have h_23 := hf_16.at (by omega) h_10
  have h_24 := hf_16.at (by omega) h_11
  have h_25 := hf_16.at (by omega) h_12
  have fr_26 := fr_13.tr (hf_16.wd (by omega) (by omega))
  refine z_vret hx hr dX1_setFree_14 rfl (q_v ⟨⟨h_17, h_18, h_19, h_20, h_21, h_22, hs_15, h_23, h_24, h_25⟩, fr_26⟩)

set_option maxHeartbeats 4000000 in
set_option maxRecDepth 20000 in
theorem kX1_setWear (g : Gt) {h : AH} {c : Nat} {F : Nat → Int → Int} {k : Int} {w : Int} (hM : CM h c F) (hk : 0 ≤ k ∧ k < F 0 0 ∧ F 0 0 ≤ 5) : CnV g mX1_setWear 2 [.ref c, .int (iI k), .int (iI w)] h (QC h c (sst F 4 (fup (F 4) k w))) := by
  refine Cn.mk (by decide +kernel) (Nat.le_of_ble_eq_true rfl) ?_
  intro x sz hx hr
  show Zj g x (sz, 0, 0) h 0 [(0, .ref c), (1, .int (iI k)), (2, .int (iI w))] []
  obtain ⟨m0, m1, m2, m3, m4, m5, m6, m7, m8, m9⟩ := hM
  refine z_iload_n hx dX1_setWear_0 rfl 1 rfl ?_
  refine z_iconst hx dX1_setWear_1 ?_
  refine z_aload_n hx dX1_setWear_2 rfl 0 rfl ?_
  refine z_get hx dX1_setWear_3 fl_X1_39 m0 rfl ?_
  refine z_iconst hx dX1_setWear_6 ?_
  refine z_isub hx dX1_setWear_7 ?_
  refine z_cSI (as := [.int (iI k), .int (iI 0), .int (iI ((F 0 0) - 1))]) (rest := []) hx dX1_setWear_8 lk_X1_62 wt_X8_isIn mo_X8_isIn (kX8_isIn g (a := k) (b := 0) (c := ((F 0 0) - 1)) (by omega) (by omega) (by omega)) (by decide) rfl rfl (Nat.le_of_ble_eq_true rfl) ?_
  refine z_ifeq_b (tgt := 21) hx dX1_setWear_11 (by decide)  (fun c_1 => by exfalso; omega) (fun c_1 => ?_)
  refine z_aload_n hx dX1_setWear_14 rfl 0 rfl ?_
  refine z_get hx dX1_setWear_15 fl_X1_21 m0 rfl ?_
  refine z_iload_n hx dX1_setWear_18 rfl 1 rfl ?_
  refine z_iload_n hx dX1_setWear_19 rfl 2 rfl ?_
  refine z_iastQ hx dX1_setWear_20 m4 (by omega) (by decide) (fun h_2 hs_3 hf_4 => ?_)
  have h_5 := hf_4.at (by omega) m0
  have h_6 := hf_4.at (by omega) m1
  have h_7 := hf_4.at (by omega) m2
  have h_8 := hf_4.at (by omega) m3
  have h_9 := hf_4.at (by omega) m5
  have h_10 := hf_4.at (by omega) m6
  have h_11 := hf_4.at (by omega) m7
  have h_12 := hf_4.at (by omega) m8
  have h_13 := hf_4.at (by omega) m9
  have fr_14 : Fr h h_2 c 10 := hf_4.wd (by omega) (by omega)
  refine z_vret hx hr dX1_setWear_21 rfl (q_v ⟨⟨h_5, h_6, h_7, h_8, hs_3, h_9, h_10, h_11, h_12, h_13⟩, fr_14⟩)

set_option maxHeartbeats 4000000 in
set_option maxRecDepth 20000 in
theorem kX1_empty (g : Gt) {h : AH} {c : Nat} {F : Nat → Int → Int}  (hM : CM h c F)  : CnV g mX1_empty 1 [.ref c] h (QC h c (sst F 0 (fup (fup (fup (fup (F 0) 0 0) 1 0) 2 0) 3 0))) := by
  refine Cn.mk (by decide +kernel) (Nat.le_of_ble_eq_true rfl) ?_
  intro x sz hx hr
  show Zj g x (sz, 0, 0) h 0 [(0, .ref c)] []
  obtain ⟨m0, m1, m2, m3, m4, m5, m6, m7, m8, m9⟩ := hM
  refine z_aload_n hx dX1_empty_0 rfl 0 rfl ?_
  refine z_iconst hx dX1_empty_1 ?_
  refine z_putQ hx dX1_empty_2 fl_X1_39 m0 ⟨rfl, rfl⟩ (Nat.le_of_ble_eq_true rfl) (fun h_1 hs_2 hf_3 => ?_)
  have h_4 := hf_3.at (by omega) m1
  have h_5 := hf_3.at (by omega) m2
  have h_6 := hf_3.at (by omega) m3
  have h_7 := hf_3.at (by omega) m4
  have h_8 := hf_3.at (by omega) m5
  have h_9 := hf_3.at (by omega) m6
  have h_10 := hf_3.at (by omega) m7
  have h_11 := hf_3.at (by omega) m8
  have h_12 := hf_3.at (by omega) m9
  have fr_13 : Fr h h_1 c 10 := hf_3.wd (by omega) (by omega)
  refine z_aload_n hx dX1_empty_5 rfl 0 rfl ?_
  refine z_iconst hx dX1_empty_6 ?_
  refine z_putQ hx dX1_empty_7 fl_X1_43 hs_2 ⟨rfl, rfl⟩ (Nat.le_of_ble_eq_true rfl) (fun h_14 hs_15 hf_16 => ?_)
  have h_17 := hf_16.at (by omega) h_4
  have h_18 := hf_16.at (by omega) h_5
  have h_19 := hf_16.at (by omega) h_6
  have h_20 := hf_16.at (by omega) h_7
  have h_21 := hf_16.at (by omega) h_8
  have h_22 := hf_16.at (by omega) h_9
  have h_23 := hf_16.at (by omega) h_10
  have h_24 := hf_16.at (by omega) h_11
  have h_25 := hf_16.at (by omega) h_12
  have fr_26 := fr_13.tr (hf_16.wd (by omega) (by omega))
  refine z_aload_n hx dX1_empty_10 rfl 0 rfl ?_
  refine z_iconst hx dX1_empty_11 ?_
  refine z_putQ hx dX1_empty_12 fl_X1_46 hs_15 ⟨rfl, rfl⟩ (Nat.le_of_ble_eq_true rfl) (fun h_27 hs_28 hf_29 => ?_)
  have h_30 := hf_29.at (by omega) h_17
  have h_31 := hf_29.at (by omega) h_18
  have h_32 := hf_29.at (by omega) h_19
  have h_33 := hf_29.at (by omega) h_20
  have h_34 := hf_29.at (by omega) h_21
  have h_35 := hf_29.at (by omega) h_22
  have h_36 := hf_29.at (by omega) h_23
  have h_37 := hf_29.at (by omega) h_24
  have h_38 := hf_29.at (by omega) h_25
  have fr_39 := fr_26.tr (hf_29.wd (by omega) (by omega))
  refine z_aload_n hx dX1_empty_15 rfl 0 rfl ?_
  refine z_iconst hx dX1_empty_16 ?_
  refine z_putQ hx dX1_empty_17 fl_X1_49 hs_28 ⟨rfl, rfl⟩ (Nat.le_of_ble_eq_true rfl) (fun h_40 hs_41 hf_42 => ?_)
  have h_43 := hf_42.at (by omega) h_30
  have h_44 := hf_42.at (by omega) h_31
  have h_45 := hf_42.at (by omega) h_32
  have h_46 := hf_42.at (by omega) h_33
  have h_47 := hf_42.at (by omega) h_34
  have h_48 := hf_42.at (by omega) h_35
  have h_49 := hf_42.at (by omega) h_36
  have h_50 := hf_42.at (by omega) h_37
  have h_51 := hf_42.at (by omega) h_38
  have fr_52 := fr_39.tr (hf_42.wd (by omega) (by omega))
  refine z_vret hx hr dX1_empty_20 rfl (q_v ⟨⟨hs_41, h_43, h_44, h_45, h_46, h_47, h_48, h_49, h_50, h_51⟩, fr_52⟩)

set_option maxHeartbeats 4000000 in
set_option maxRecDepth 20000 in
theorem kX1_fill (g : Gt) {h : AH} {c : Nat} {F : Nat → Int → Int} {k : Int} (hM : CM h c F) (hk : 0 ≤ k ∧ k < 5) : CnV g mX1_fill 1 [.ref c, .int (iI k)] h (QC h c (sst (sst F 8 (fup (F 8) k (F 8 k - 1))) 9 (fup (F 9) k (F 9 k + 1)))) := by
  refine Cn.mk (by decide +kernel) (Nat.le_of_ble_eq_true rfl) ?_
  intro x sz hx hr
  show Zj g x (sz, 0, 0) h 0 [(0, .ref c), (1, .int (iI k))] []
  obtain ⟨m0, m1, m2, m3, m4, m5, m6, m7, m8, m9⟩ := hM
  refine z_aload_n hx dX1_fill_0 rfl 0 rfl ?_
  refine z_get hx dX1_fill_1 fl_X1_33 m0 rfl ?_
  refine z_iload_n hx dX1_fill_4 rfl 1 rfl ?_
  refine z_dup2 hx dX1_fill_5 rfl rfl ?_
  refine z_iald hx dX1_fill_6 m8 (by omega) (by decide) ?_
  refine z_iconst hx dX1_fill_7 ?_
  refine z_isub hx dX1_fill_8 ?_
  refine z_iastQ hx dX1_fill_9 m8 (by omega) (by decide) (fun h_1 hs_2 hf_3 => ?_)
  have h_4 := hf_3.at (by omega) m0
  have h_5 := hf_3.at (by omega) m1
  have h_6 := hf_3.at (by omega) m2
  have h_7 := hf_3.at (by omega) m3
  have h_8 := hf_3.at (by omega) m4
  have h_9 := hf_3.at (by omega) m5
  have h_10 := hf_3.at (by omega) m6
  have h_11 := hf_3.at (by omega) m7
  have h_12 := hf_3.at (by omega) m9
  have fr_13 : Fr h h_1 c 10 := hf_3.wd (by omega) (by omega)
  refine z_aload_n hx dX1_fill_10 rfl 0 rfl ?_
  refine z_get hx dX1_fill_11 fl_X1_36 h_4 rfl ?_
  refine z_iload_n hx dX1_fill_14 rfl 1 rfl ?_
  refine z_dup2 hx dX1_fill_15 rfl rfl ?_
  refine z_iald hx dX1_fill_16 h_12 (by omega) (by decide) ?_
  refine z_iconst hx dX1_fill_17 ?_
  refine z_iadd hx dX1_fill_18 ?_
  refine z_iastQ hx dX1_fill_19 h_12 (by omega) (by decide) (fun h_14 hs_15 hf_16 => ?_)
  have h_17 := hf_16.at (by omega) h_4
  have h_18 := hf_16.at (by omega) h_5
  have h_19 := hf_16.at (by omega) h_6
  have h_20 := hf_16.at (by omega) h_7
  have h_21 := hf_16.at (by omega) h_8
  have h_22 := hf_16.at (by omega) h_9
  have h_23 := hf_16.at (by omega) h_10
  have h_24 := hf_16.at (by omega) h_11
  have h_25 := hf_16.at (by omega) hs_2
  have fr_26 := fr_13.tr (hf_16.wd (by omega) (by omega))
  refine z_vret hx hr dX1_fill_20 rfl (q_v ⟨⟨h_17, h_18, h_19, h_20, h_21, h_22, h_23, h_24, h_25, hs_15⟩, fr_26⟩)

set_option maxHeartbeats 4000000 in
set_option maxRecDepth 20000 in
theorem kX1_holds (g : Gt) {h : AH} {c : Nat} {F : Nat → Int → Int} {f : Int → Int} {k : Int} (hM : CM h c F) (hR : RLC F f) (hI : inv f) (hk : 0 ≤ k ∧ k < f 26) : CnI g mX1_holds 3 [.ref c, .int (iI k)] h (hlf f k) := by
  refine Cn.mk (by decide +kernel) (Nat.le_of_ble_eq_true rfl) ?_
  intro x sz hx hr
  show Zj g x (sz, 0, 0) h 0 [(0, .ref c), (1, .int (iI k))] []
  obtain ⟨m0, m1, m2, m3, m4, m5, m6, m7, m8, m9⟩ := hM
  have hn := hI.n
  have rn := hR.n
  refine z_aload_n hx dX1_holds_0 rfl 0 rfl ?_
  refine z_get hx dX1_holds_1 fl_X1_9 m0 rfl ?_
  refine z_iload_n hx dX1_holds_4 rfl 1 rfl ?_
  refine z_iald hx dX1_holds_5 m1 (by omega) (by decide) ?_
  have rk_1 := hR.k k (by first | omega | decide)
  have ik_2 := hI.k k (by first | omega | decide)
  refine z_aload_n hx dX1_holds_6 rfl 0 rfl ?_
  refine z_get hx dX1_holds_7 fl_X1_18 m0 rfl ?_
  refine z_iload_n hx dX1_holds_10 rfl 1 rfl ?_
  refine z_iald hx dX1_holds_11 m3 (by omega) (by decide) ?_
  have rk_3 := hR.k k (by first | omega | decide)
  have ik_4 := hI.k k (by first | omega | decide)
  refine z_aload_n hx dX1_holds_12 rfl 0 rfl ?_
  refine z_get hx dX1_holds_13 fl_X1_21 m0 rfl ?_
  refine z_iload_n hx dX1_holds_16 rfl 1 rfl ?_
  refine z_iald hx dX1_holds_17 m4 (by omega) (by decide) ?_
  have rk_5 := hR.k k (by first | omega | decide)
  have ik_6 := hI.k k (by first | omega | decide)
  refine z_cSI (as := [.int (iI (F 1 k)), .int (iI (F 3 k)), .int (iI (F 4 k))]) (rest := []) hx dX1_holds_18 lk_X1_66 wt_X4_holds mo_X4_holds (kX4_holds g (k := (F 1 k)) (s := (F 3 k)) (w := (F 4 k)) (by omega) (by omega) (by omega)) (by decide) rfl rfl (Nat.le_of_ble_eq_true rfl) ?_
  refine z_iret hx hr dX1_holds_21 rfl rfl (q_i (by unfold hlf; congr 1 <;> omega))

set_option maxHeartbeats 4000000 in
set_option maxRecDepth 20000 in
theorem kX1_whoIs (g : Gt) {h : AH} {c : Nat} {F : Nat → Int → Int} {f : Int → Int} {v : Int} (hM : CM h c F) (hR : RLC F f) (hI : inv f) (hv : rgI v) : CnI g mX1_whoIs 1 [.ref c, .int (iI v)] h (who f v) := by
  refine Cn.mk (by decide +kernel) (Nat.le_of_ble_eq_true rfl) ?_
  intro x sz hx hr
  show Zj g x (sz, 0, 0) h 0 [(0, .ref c), (1, .int (iI v))] []
  obtain ⟨m0, m1, m2, m3, m4, m5, m6, m7, m8, m9⟩ := hM
  have hn := hI.n
  have rn := hR.n
  refine z_iconst hx dX1_whoIs_0 ?_
  refine z_istore_n hx dX1_whoIs_1 rfl (by decide) [1, 2, 0] (lv' := [(0, .ref c), (1, .int (iI v)), (2, .int (iI 0))]) rfl ?_
  refine z_iconst hx dX1_whoIs_2 ?_
  refine z_istore_n hx dX1_whoIs_3 rfl (by decide) [1, 2, 3, 0] (lv' := [(0, .ref c), (1, .int (iI v)), (2, .int (iI 0)), (3, .int (iI 0))]) rfl ?_
  have hL_1 : ∀ (mm : Nat) (va : Int) (vp : Int), (0 ≤ vp ∧ vp ≤ f 37) → (va = msk (fun p => cv (f (17 + p)) = v) vp) → f 37 - vp < (mm : Int) → Zj g x (sz, 0, 0) h 4 [(0, .ref c), (1, .int (iI v)), (2, .int (iI va)), (3, .int (iI vp))] [] := by
    intro mm
    induction mm with
    | zero => intro va vp kv ea hm; exfalso; omega
    | succ mm ih =>
      intro va vp kv ea hm
      have ih_2 := ih; clear ih
      have hm := msk_rg (fun p => cv (f (17 + p)) = v) (n := vp) (by omega)
      have hm2 := msk_64 (fun p => cv (f (17 + p)) = v) (n := vp) (by omega)
      rw [← ea] at hm hm2
      refine z_iload_n hx dX1_whoIs_4 rfl 3 rfl ?_
      refine z_aload_n hx dX1_whoIs_5 rfl 0 rfl ?_
      refine z_get hx dX1_whoIs_6 fl_X1_43 m0 rfl ?_
      refine z_icmp_ge (tgt := 34) hx dX1_whoIs_9 (by decide) (by omega) (by omega) (fun c_3 => ?_) (fun c_3 => ?_)
      ·
        refine z_iload_n hx dX1_whoIs_34 rfl 2 rfl ?_
        refine z_iret hx hr dX1_whoIs_35 rfl rfl (q_i (by unfold who; rw [ea, show vp = f 37 by omega]))
      ·
        refine z_aload_n hx dX1_whoIs_12 rfl 0 rfl ?_
        refine z_get hx dX1_whoIs_13 fl_X1_27 m0 rfl ?_
        refine z_iload_n hx dX1_whoIs_16 rfl 3 rfl ?_
        refine z_iald hx dX1_whoIs_17 m6 (by omega) (by decide) ?_
        have rp_4 := hR.p vp (by first | omega | decide)
        have ip_5 := hI.p vp (by first | omega | decide)
        have cc_6 := cv_c (f (17 + vp))
        refine z_iload_n hx dX1_whoIs_18 rfl 1 rfl ?_
        refine z_icmp_ne (tgt := 28) hx dX1_whoIs_19 (by decide) (by omega) (by omega) (fun c_7 => ?_) (fun c_7 => ?_)
        ·
          refine z_iinc hx dX1_whoIs_28 (by decide) 3 rfl [1, 2, 3, 0] (lv' := [(0, .ref c), (1, .int (iI v)), (2, .int (iI va)), (3, .int (iI (vp + 1)))]) rfl ?_
          refine z_goto (tgt := 4) hx dX1_whoIs_31 (by decide) ?_
          exact ih_2 _ _ (by omega) (by rw [msk_s _ (by omega), ← ea]; first | (rw [if_pos (by omega)]) | (rw [if_neg (by omega)]; done) | (rw [if_neg (by omega)]; omega))  (by omega)
        ·
          refine z_iload_n hx dX1_whoIs_22 rfl 2 rfl ?_
          refine z_iconst hx dX1_whoIs_23 ?_
          have hpw := pw_rg (p := vp) (by omega)
          refine z_iload_n hx dX1_whoIs_24 rfl 3 rfl ?_
          refine z_ishl hx dX1_whoIs_25 ?_
          rw [show shlI 1 vp = (pw vp) from by exact shlI_' (by omega)]
          refine z_ior hx dX1_whoIs_26 ?_
          rw [show orI va (pw vp) = (va + (pw vp)) from by exact orI_pw (by omega) (by omega)]
          refine z_istore_n hx dX1_whoIs_27 rfl (by decide) [1, 2, 0, 3] (lv' := [(0, .ref c), (1, .int (iI v)), (2, .int (iI (va + (pw vp)))), (3, .int (iI vp))]) rfl ?_
          refine z_iinc hx dX1_whoIs_28 (by decide) 3 rfl [1, 2, 3, 0] (lv' := [(0, .ref c), (1, .int (iI v)), (2, .int (iI (va + (pw vp)))), (3, .int (iI (vp + 1)))]) rfl ?_
          refine z_goto (tgt := 4) hx dX1_whoIs_31 (by decide) ?_
          exact ih_2 _ _ (by omega) (by rw [msk_s _ (by omega), ← ea]; first | (rw [if_pos (by omega)]) | (rw [if_neg (by omega)]; done) | (rw [if_neg (by omega)]; omega))  (by omega)
  exact hL_1 ((f 37 - 0) + 1 : Int).toNat _ _ (by omega) (by rfl)  (by omega)

set_option maxHeartbeats 4000000 in
set_option maxRecDepth 20000 in
theorem kX1_manyUnder (g : Gt) {h : AH} {c : Nat} {F : Nat → Int → Int} {f : Int → Int} {k : Int} (hM : CM h c F) (hR : RLC F f) (hI : inv f) (hk : rgI k) : CnI g mX1_manyUnder 2 [.ref c, .int (iI k)] h (popc (who f k)) := by
  refine Cn.mk (by decide +kernel) (Nat.le_of_ble_eq_true rfl) ?_
  intro x sz hx hr
  show Zj g x (sz, 0, 0) h 0 [(0, .ref c), (1, .int (iI k))] []
  obtain ⟨m0, m1, m2, m3, m4, m5, m6, m7, m8, m9⟩ := hM
  have hn := hI.n
  have rn := hR.n
  refine z_aload_n hx dX1_manyUnder_0 rfl 0 rfl ?_
  refine z_iload_n hx dX1_manyUnder_1 rfl 1 rfl ?_
  refine z_cVI (as := [.int (iI k)]) (rest := []) hx dX1_manyUnder_2 lk_X1_72 wm_X1_whoIs wv_X1_whoIs (rcv_obj hx m0 rfl) mo_X1_whoIs (kX1_whoIs g (F := F) (f := f) (v := k) ⟨m0, m1, m2, m3, m4, m5, m6, m7, m8, m9⟩ hR hI (show rgI k by omega)) (by decide) rfl rfl (Nat.le_of_ble_eq_true rfl) ?_
  have f_1 := who_rg hI k
  refine z_cSI (as := [.int (iI (who f k))]) (rest := []) hx dX1_manyUnder_5 lk_X1_76 wt_J6_bitCount_0f7a4 mo_J6_bitCount_0f7a4 (kJ6_bitCount_0f7a4 g (v := (who f k)) (by omega)) (by decide) rfl rfl (Nat.le_of_ble_eq_true rfl) ?_
  have f_2 := popc_rg (v := (who f k))
  refine z_iret hx hr dX1_manyUnder_8 rfl rfl (q_i (by rfl))

set_option maxHeartbeats 4000000 in
set_option maxRecDepth 20000 in
theorem kX1_manyTaken (g : Gt) {h : AH} {c : Nat} {F : Nat → Int → Int} {f : Int → Int}  (hM : CM h c F) (hR : RLC F f) (hI : inv f)  : CnI g mX1_manyTaken 2 [.ref c] h (popc (tkn f)) := by
  refine Cn.mk (by decide +kernel) (Nat.le_of_ble_eq_true rfl) ?_
  intro x sz hx hr
  show Zj g x (sz, 0, 0) h 0 [(0, .ref c)] []
  obtain ⟨m0, m1, m2, m3, m4, m5, m6, m7, m8, m9⟩ := hM
  have hn := hI.n
  have rn := hR.n
  refine z_aload_n hx dX1_manyTaken_0 rfl 0 rfl ?_
  refine z_bipush hx dX1_manyTaken_1 (by decide) ?_
  refine z_cVI (as := [.int (iI (-2))]) (rest := []) hx dX1_manyTaken_3 lk_X1_72 wm_X1_whoIs wv_X1_whoIs (rcv_obj hx m0 rfl) mo_X1_whoIs (kX1_whoIs g (F := F) (f := f) (v := (-2)) ⟨m0, m1, m2, m3, m4, m5, m6, m7, m8, m9⟩ hR hI (show rgI (-2) by omega)) (by decide) rfl rfl (Nat.le_of_ble_eq_true rfl) ?_
  have f_1 := who_rg hI (-2)
  refine z_cSI (as := [.int (iI (who f (-2)))]) (rest := []) hx dX1_manyTaken_6 lk_X1_76 wt_J6_bitCount_0f7a4 mo_J6_bitCount_0f7a4 (kJ6_bitCount_0f7a4 g (v := (who f (-2))) (by omega)) (by decide) rfl rfl (Nat.le_of_ble_eq_true rfl) ?_
  have f_2 := popc_rg (v := (who f (-2)))
  refine z_iret hx hr dX1_manyTaken_9 rfl rfl (q_i (by rw [who_tkn hI]))

set_option maxHeartbeats 4000000 in
set_option maxRecDepth 20000 in
theorem kX1_manyUnder_ (g : Gt) {h : AH} {c : Nat} {F : Nat → Int → Int} {f : Int → Int}  (hM : CM h c F) (hR : RLC F f) (hI : inv f)  : CnI g mX1_manyUnder_ 3 [.ref c] h (una f) := by
  refine Cn.mk (by decide +kernel) (Nat.le_of_ble_eq_true rfl) ?_
  intro x sz hx hr
  show Zj g x (sz, 0, 0) h 0 [(0, .ref c)] []
  obtain ⟨m0, m1, m2, m3, m4, m5, m6, m7, m8, m9⟩ := hM
  have hn := hI.n
  have rn := hR.n
  refine z_aload_n hx dX1_manyUnder__0 rfl 0 rfl ?_
  refine z_get hx dX1_manyUnder__1 fl_X1_43 m0 rfl ?_
  refine z_aload_n hx dX1_manyUnder__4 rfl 0 rfl ?_
  refine z_cVI (as := []) (rest := [.int (iI (F 0 1))]) hx dX1_manyUnder__5 lk_X1_81 wm_X1_manyTaken wv_X1_manyTaken (rcv_obj hx m0 rfl) mo_X1_manyTaken (kX1_manyTaken g (F := F) (f := f)  ⟨m0, m1, m2, m3, m4, m5, m6, m7, m8, m9⟩ hR hI ) (by decide) rfl rfl (Nat.le_of_ble_eq_true rfl) ?_
  have f_1 := popc_rg (v := tkn f)
  have f_2 := tkn_rg hI
  refine z_isub hx dX1_manyUnder__8 ?_
  refine z_aload_n hx dX1_manyUnder__9 rfl 0 rfl ?_
  refine z_iconst hx dX1_manyUnder__10 ?_
  refine z_cVI (as := [.int (iI (-1))]) (rest := [.int (iI ((F 0 1) - (popc (tkn f))))]) hx dX1_manyUnder__11 lk_X1_72 wm_X1_whoIs wv_X1_whoIs (rcv_obj hx m0 rfl) mo_X1_whoIs (kX1_whoIs g (F := F) (f := f) (v := (-1)) ⟨m0, m1, m2, m3, m4, m5, m6, m7, m8, m9⟩ hR hI (show rgI (-1) by omega)) (by decide) rfl rfl (Nat.le_of_ble_eq_true rfl) ?_
  have f_3 := who_rg hI (-1)
  refine z_cSI (as := [.int (iI (who f (-1)))]) (rest := [.int (iI ((F 0 1) - (popc (tkn f))))]) hx dX1_manyUnder__14 lk_X1_76 wt_J6_bitCount_0f7a4 mo_J6_bitCount_0f7a4 (kJ6_bitCount_0f7a4 g (v := (who f (-1))) (by omega)) (by decide) rfl rfl (Nat.le_of_ble_eq_true rfl) ?_
  have f_4 := popc_rg (v := (who f (-1)))
  refine z_isub hx dX1_manyUnder__17 ?_
  refine z_iret hx hr dX1_manyUnder__18 rfl rfl (q_i (by rw [una_eq hI, who_tkn hI]; omega))

set_option maxHeartbeats 4000000 in
set_option maxRecDepth 20000 in
theorem kX1_whoIsNear (g : Gt) {h : AH} {c : Nat} {F : Nat → Int → Int} {f : Int → Int} {cell : Int} {x9 : Int} (hM : CM h c F) (hR : RLC F f) (hI : inv f) (hce : 0 ≤ cell ∧ cell < 24) (hx9 : rgI x9) : CnI g mX1_whoIsNear 3 [.ref c, .int (iI cell), .int (iI x9)] h (msk (fun p => f (17 + p) ≠ 6 ∧ far (f (11 + p)) cell ≤ x9) (f 37)) := by
  refine Cn.mk (by decide +kernel) (Nat.le_of_ble_eq_true rfl) ?_
  intro x sz hx hr
  show Zj g x (sz, 0, 0) h 0 [(0, .ref c), (1, .int (iI cell)), (2, .int (iI x9))] []
  obtain ⟨m0, m1, m2, m3, m4, m5, m6, m7, m8, m9⟩ := hM
  have hn := hI.n
  have rn := hR.n
  refine z_iconst hx dX1_whoIsNear_0 ?_
  refine z_istore_n hx dX1_whoIsNear_1 rfl (by decide) [1, 2, 3, 0] (lv' := [(0, .ref c), (1, .int (iI cell)), (2, .int (iI x9)), (3, .int (iI 0))]) rfl ?_
  refine z_iconst hx dX1_whoIsNear_2 ?_
  refine z_istore hx dX1_whoIsNear_3 (by decide) [1, 2, 3, 4, 0] (lv' := [(0, .ref c), (1, .int (iI cell)), (2, .int (iI x9)), (3, .int (iI 0)), (4, .int (iI 0))]) rfl ?_
  have hL_1 : ∀ (mm : Nat) (va : Int) (vp : Int), (0 ≤ vp ∧ vp ≤ f 37) → (va = msk (fun p => f (17 + p) ≠ 6 ∧ far (f (11 + p)) cell ≤ x9) vp) → f 37 - vp < (mm : Int) → Zj g x (sz, 0, 0) h 5 [(0, .ref c), (1, .int (iI cell)), (2, .int (iI x9)), (3, .int (iI va)), (4, .int (iI vp))] [] := by
    intro mm
    induction mm with
    | zero => intro va vp kv ea hm; exfalso; omega
    | succ mm ih =>
      intro va vp kv ea hm
      have ih_2 := ih; clear ih
      have hm := msk_rg (fun p => f (17 + p) ≠ 6 ∧ far (f (11 + p)) cell ≤ x9) (n := vp) (by omega)
      have hm2 := msk_64 (fun p => f (17 + p) ≠ 6 ∧ far (f (11 + p)) cell ≤ x9) (n := vp) (by omega)
      rw [← ea] at hm hm2
      refine z_iload hx dX1_whoIsNear_5 4 rfl ?_
      refine z_aload_n hx dX1_whoIsNear_7 rfl 0 rfl ?_
      refine z_get hx dX1_whoIsNear_8 fl_X1_43 m0 rfl ?_
      refine z_icmp_ge (tgt := 54) hx dX1_whoIsNear_11 (by decide) (by omega) (by omega) (fun c_3 => ?_) (fun c_3 => ?_)
      ·
        refine z_iload_n hx dX1_whoIsNear_54 rfl 3 rfl ?_
        refine z_iret hx hr dX1_whoIsNear_55 rfl rfl (q_i (by rw [ea, show vp = f 37 by omega]))
      ·
        refine z_aload_n hx dX1_whoIsNear_14 rfl 0 rfl ?_
        refine z_get hx dX1_whoIsNear_15 fl_X1_27 m0 rfl ?_
        refine z_iload hx dX1_whoIsNear_18 4 rfl ?_
        refine z_iald hx dX1_whoIsNear_20 m6 (by omega) (by decide) ?_
        have rp_4 := hR.p vp (by first | omega | decide)
        have ip_5 := hI.p vp (by first | omega | decide)
        have cc_6 := cv_c (f (17 + vp))
        refine z_bipush hx dX1_whoIsNear_21 (by decide) ?_
        refine z_icmp_eq (tgt := 48) hx dX1_whoIsNear_23 (by decide) (by omega) (by decide) (fun c_7 => ?_) (fun c_7 => ?_)
        ·
          refine z_iinc hx dX1_whoIsNear_48 (by decide) 4 rfl [1, 2, 3, 4, 0] (lv' := [(0, .ref c), (1, .int (iI cell)), (2, .int (iI x9)), (3, .int (iI va)), (4, .int (iI (vp + 1)))]) rfl ?_
          refine z_goto (tgt := 5) hx dX1_whoIsNear_51 (by decide) ?_
          exact ih_2 _ _ (by omega) (by rw [msk_s _ (by omega), ← ea]; first | (rw [if_pos (by omega)]) | (rw [if_neg (by omega)]; done) | (rw [if_neg (by omega)]; omega))  (by omega)
        ·
          refine z_aload_n hx dX1_whoIsNear_26 rfl 0 rfl ?_
          refine z_get hx dX1_whoIsNear_27 fl_X1_24 m0 rfl ?_
          refine z_iload hx dX1_whoIsNear_30 4 rfl ?_
          refine z_iald hx dX1_whoIsNear_32 m5 (by omega) (by decide) ?_
          have rp_8 := hR.p vp (by first | omega | decide)
          have ip_9 := hI.p vp (by first | omega | decide)
          have cc_10 := cv_c (f (17 + vp))
          refine z_iload_n hx dX1_whoIsNear_33 rfl 1 rfl ?_
          refine z_cSI (as := [.int (iI (F 5 vp)), .int (iI cell)]) (rest := []) hx dX1_whoIsNear_34 lk_X1_85 wt_X0_far mo_X0_far (kX0_far g (a := (F 5 vp)) (b := cell) (by omega) (by omega)) (by decide) rfl rfl (Nat.le_of_ble_eq_true rfl) ?_
          have ff := far_rg (a := F 5 vp) (b := cell) (by omega) (by omega)
          have ef : far (F 5 vp) cell = far (f (11 + vp)) cell := by rw [show F 5 vp = f (11 + vp) by omega]
          refine z_iload_n hx dX1_whoIsNear_37 rfl 2 rfl ?_
          refine z_icmp_gt (tgt := 48) hx dX1_whoIsNear_38 (by decide) (by omega) (by omega) (fun c_11 => ?_) (fun c_11 => ?_)
          ·
            refine z_iinc hx dX1_whoIsNear_48 (by decide) 4 rfl [1, 2, 3, 4, 0] (lv' := [(0, .ref c), (1, .int (iI cell)), (2, .int (iI x9)), (3, .int (iI va)), (4, .int (iI (vp + 1)))]) rfl ?_
            refine z_goto (tgt := 5) hx dX1_whoIsNear_51 (by decide) ?_
            exact ih_2 _ _ (by omega) (by rw [msk_s _ (by omega), ← ea]; first | (rw [if_pos (by omega)]) | (rw [if_neg (by omega)]; done) | (rw [if_neg (by omega)]; omega))  (by omega)
          ·
            refine z_iload_n hx dX1_whoIsNear_41 rfl 3 rfl ?_
            refine z_iconst hx dX1_whoIsNear_42 ?_
            refine z_iload hx dX1_whoIsNear_43 4 rfl ?_
            refine z_ishl hx dX1_whoIsNear_45 ?_
            rw [show shlI 1 vp = (pw vp) from by exact shlI_' (by omega)]
            refine z_ior hx dX1_whoIsNear_46 ?_
            rw [show orI va (pw vp) = (va + (pw vp)) from by exact orI_pw (by omega) (by omega)]
            refine z_istore_n hx dX1_whoIsNear_47 rfl (by decide) [1, 2, 3, 0, 4] (lv' := [(0, .ref c), (1, .int (iI cell)), (2, .int (iI x9)), (3, .int (iI (va + (pw vp)))), (4, .int (iI vp))]) rfl ?_
            refine z_iinc hx dX1_whoIsNear_48 (by decide) 4 rfl [1, 2, 3, 4, 0] (lv' := [(0, .ref c), (1, .int (iI cell)), (2, .int (iI x9)), (3, .int (iI (va + (pw vp)))), (4, .int (iI (vp + 1)))]) rfl ?_
            refine z_goto (tgt := 5) hx dX1_whoIsNear_51 (by decide) ?_
            exact ih_2 _ _ (by omega) (by rw [msk_s _ (by omega), ← ea]; first | (rw [if_pos (by omega)]) | (rw [if_neg (by omega)]; done) | (rw [if_neg (by omega)]; omega))  (by omega)
  exact hL_1 ((f 37 - 0) + 1 : Int).toNat _ _ (by omega) (by rfl)  (by omega)

set_option maxHeartbeats 4000000 in
set_option maxRecDepth 20000 in
theorem kX1_tellOf (g : Gt) {h : AH} {c : Nat} {F : Nat → Int → Int} {f : Int → Int} {p : Int} {w : Int} (hM : CM h c F) (hR : RLC F f) (hI : inv f) (hp : 0 ≤ p ∧ p < f 37) (hw : 0 ≤ w ∧ w ≤ 2) : CnI g mX1_tellOf 1 [.ref c, .int (iI p), .int (iI w)] h (tel f p w) := by
  refine Cn.mk (by decide +kernel) (Nat.le_of_ble_eq_true rfl) ?_
  intro x sz hx hr
  show Zj g x (sz, 0, 0) h 0 [(0, .ref c), (1, .int (iI p)), (2, .int (iI w))] []
  obtain ⟨m0, m1, m2, m3, m4, m5, m6, m7, m8, m9⟩ := hM
  have hn := hI.n
  have rn := hR.n
  refine z_iload_n hx dX1_tellOf_0 rfl 2 rfl ?_
  by_cases c_1 : w = 0
  ·
    refine z_lookup (off := 27) (tgt := 28) hx dX1_tellOf_1 (by omega) (by decide) (by rw [c_1]; decide) (by decide) ?_
    refine z_aload_n hx dX1_tellOf_28 rfl 0 rfl ?_
    refine z_get hx dX1_tellOf_29 fl_X1_24 m0 rfl ?_
    refine z_iload_n hx dX1_tellOf_32 rfl 1 rfl ?_
    refine z_iald hx dX1_tellOf_33 m5 (by omega) (by decide) ?_
    have rp_2 := hR.p p (by first | omega | decide)
    have ip_3 := hI.p p (by first | omega | decide)
    have cc_4 := cv_c (f (17 + p))
    refine z_iret hx hr dX1_tellOf_34 rfl rfl (q_i (by unfold tel; (repeat' split) <;> omega))
  by_cases c_5 : w = 1
  ·
    refine z_lookup (off := 34) (tgt := 35) hx dX1_tellOf_1 (by omega) (by decide) (by rw [c_5]; decide) (by decide) ?_
    refine z_aload_n hx dX1_tellOf_35 rfl 0 rfl ?_
    refine z_get hx dX1_tellOf_36 fl_X1_27 m0 rfl ?_
    refine z_iload_n hx dX1_tellOf_39 rfl 1 rfl ?_
    refine z_iald hx dX1_tellOf_40 m6 (by omega) (by decide) ?_
    have rp_6 := hR.p p (by first | omega | decide)
    have ip_7 := hI.p p (by first | omega | decide)
    have cc_8 := cv_c (f (17 + p))
    refine z_if_lt (tgt := 53) hx dX1_tellOf_41 (by decide) (by omega) (fun c_9 => ?_) (fun c_9 => ?_)
    ·
      refine z_iconst hx dX1_tellOf_53 ?_
      refine z_iret hx hr dX1_tellOf_54 rfl rfl (q_i (by unfold tel; (repeat' split) <;> omega))
    ·
      refine z_aload_n hx dX1_tellOf_44 rfl 0 rfl ?_
      refine z_get hx dX1_tellOf_45 fl_X1_27 m0 rfl ?_
      refine z_iload_n hx dX1_tellOf_48 rfl 1 rfl ?_
      refine z_iald hx dX1_tellOf_49 m6 (by omega) (by decide) ?_
      have rp_10 := hR.p p (by first | omega | decide)
      have ip_11 := hI.p p (by first | omega | decide)
      have cc_12 := cv_c (f (17 + p))
      refine z_goto (tgt := 54) hx dX1_tellOf_50 (by decide) ?_
      refine z_iret hx hr dX1_tellOf_54 rfl rfl (q_i (by unfold tel; (repeat' split) <;> omega))
  refine z_lookup (off := 54) (tgt := 55) hx dX1_tellOf_1 (by omega) (by decide) (by simp [Op.lookupswitch.offset, c_1, Ne.symm c_1, c_5, Ne.symm c_5]) (by decide) ?_
  refine z_aload_n hx dX1_tellOf_55 rfl 0 rfl ?_
  refine z_get hx dX1_tellOf_56 fl_X1_27 m0 rfl ?_
  refine z_iload_n hx dX1_tellOf_59 rfl 1 rfl ?_
  refine z_iald hx dX1_tellOf_60 m6 (by omega) (by decide) ?_
  have rp_13 := hR.p p (by first | omega | decide)
  have ip_14 := hI.p p (by first | omega | decide)
  have cc_15 := cv_c (f (17 + p))
  refine z_bipush hx dX1_tellOf_61 (by decide) ?_
  refine z_icmp_ne (tgt := 70) hx dX1_tellOf_63 (by decide) (by omega) (by decide) (fun c_16 => ?_) (fun c_16 => ?_)
  ·
    refine z_iconst hx dX1_tellOf_70 ?_
    refine z_iret hx hr dX1_tellOf_71 rfl rfl (q_i (by unfold tel; (repeat' split) <;> omega))
  ·
    refine z_iconst hx dX1_tellOf_66 ?_
    refine z_goto (tgt := 71) hx dX1_tellOf_67 (by decide) ?_
    refine z_iret hx hr dX1_tellOf_71 rfl rfl (q_i (by unfold tel; (repeat' split) <;> omega))

theorem RLC_brt {F : Nat → Int → Int} {f g1 : Int → Int} (h : RLC F f) (hI : inv f) {k cell : Int} (hk : 0 ≤ k ∧ k < f 26) (h1 : ∀ q, 0 ≤ q → q < f 37 → g1 q = if f (17 + q) = 1 + k then cell else f (11 + q)) : RLC (sst (sst F 2 (fup (F 2) k cell)) 5 g1) (brt f k cell) := by
  have hn := hI.n
  have e : ∀ j, brt f k cell j = if j = 1 + k then cell else if (11 ≤ j ∧ j < 11 + f 37) ∧ f (j + 6) = 1 + k then cell else f j := fun j => brt_at (by omega) hn.2.1 j
  have eo : ∀ j, j ≠ 1 + k → ¬ (11 ≤ j ∧ j < 17) → brt f k cell j = f j := fun j a b => by rw [e j, if_neg a, if_neg (by omega)]
  have h2 := RLC_pl h hn (k := k) (v := cell) hk
  obtain ⟨a0, a1, a2, a3⟩ := h2
  refine ⟨?_, fun j a b => ?_, fun q a b => ?_, fun t a b => ?_⟩
  · rw [eo 26 (by omega) (by omega), eo 37 (by omega) (by omega), eo 38 (by omega) (by omega), eo 0 (by omega) (by omega)]; exact h.1
  · rw [eo 26 (by omega) (by omega)] at b
    rw [eo (27 + j) (by omega) (by omega), eo (32 + j) (by omega) (by omega), eo (6 + j) (by omega) (by omega)]
    have := a1 j a (by rw [fup_n (by omega)]; exact b)
    rw [fup_n (q := 27 + j) (by omega), fup_n (q := 32 + j) (by omega), fup_n (q := 6 + j) (by omega)] at this
    refine ⟨this.1, this.2.1.trans ?_, this.2.2⟩
    rw [e (1 + j)]
    by_cases c : j = k
    · subst c; rw [fup_s, if_pos rfl]
    · rw [fup_n (by omega), if_neg (by omega), if_neg (by omega)]
  · rw [eo 37 (by omega) (by omega)] at b
    rw [eo (17 + q) (by omega) (by omega)]
    refine ⟨?_, (h.p q ⟨a, b⟩).2⟩
    show g1 q = _
    rw [h1 q a b, e (11 + q), show 11 + q + 6 = 17 + q by omega]
    by_cases c : f (17 + q) = 1 + k
    · rw [if_pos c, if_neg (show ¬ (11 + q = 1 + k) by omega), if_pos ⟨by omega, c⟩]
    · rw [if_neg c, if_neg (show ¬ (11 + q = 1 + k) by omega), if_neg (fun w => c w.2)]
  · rw [eo 38 (by omega) (by omega)] at b
    rw [eo (23 + t) (by omega) (by omega)]; exact h.s t ⟨a, b⟩

set_option maxHeartbeats 4000000 in
set_option maxRecDepth 20000 in
theorem kX1_addCosy (g : Gt) {h : AH} {c : Nat} {F : Nat → Int → Int} {f : Int → Int} {kd9 : Int} {ce9 : Int} {sz9 : Int} (hM : CM h c F) (hR : RLC F f) (hI : inv f) (hf : f 26 < 5) : CnJ g mX1_addCosy 1 [.ref c, .int (iI kd9), .int (iI ce9), .int (iI sz9)] h (f 26) (QR h c (acs f kd9 ce9 sz9)) := by
  refine Cn.mk (by decide +kernel) (Nat.le_of_ble_eq_true rfl) ?_
  intro x sz hx hr
  show Zj g x (sz, 0, 0) h 0 [(0, .ref c), (1, .int (iI kd9)), (2, .int (iI ce9)), (3, .int (iI sz9))] []
  obtain ⟨m0, m1, m2, m3, m4, m5, m6, m7, m8, m9⟩ := hM
  have hn := hI.n
  have rn := hR.n
  refine z_aload_n hx dX1_addCosy_0 rfl 0 rfl ?_
  refine z_get hx dX1_addCosy_1 fl_X1_39 m0 rfl ?_
  refine z_iconst hx dX1_addCosy_4 ?_
  refine z_icmp_lt (tgt := 11) hx dX1_addCosy_5 (by decide) (by omega) (by decide) (fun c_1 => ?_) (fun c_1 => by exfalso; omega)
  refine z_aload_n hx dX1_addCosy_11 rfl 0 rfl ?_
  refine z_get hx dX1_addCosy_12 fl_X1_9 m0 rfl ?_
  refine z_aload_n hx dX1_addCosy_15 rfl 0 rfl ?_
  refine z_get hx dX1_addCosy_16 fl_X1_39 m0 rfl ?_
  refine z_iload_n hx dX1_addCosy_19 rfl 1 rfl ?_
  refine z_iastQ hx dX1_addCosy_20 m1 (by omega) (by decide) (fun h_2 hs_3 hf_4 => ?_)
  have h_5 := hf_4.at (by omega) m0
  have h_6 := hf_4.at (by omega) m2
  have h_7 := hf_4.at (by omega) m3
  have h_8 := hf_4.at (by omega) m4
  have h_9 := hf_4.at (by omega) m5
  have h_10 := hf_4.at (by omega) m6
  have h_11 := hf_4.at (by omega) m7
  have h_12 := hf_4.at (by omega) m8
  have h_13 := hf_4.at (by omega) m9
  have fr_14 : Fr h h_2 c 10 := hf_4.wd (by omega) (by omega)
  refine z_aload_n hx dX1_addCosy_21 rfl 0 rfl ?_
  refine z_get hx dX1_addCosy_22 fl_X1_15 h_5 rfl ?_
  refine z_aload_n hx dX1_addCosy_25 rfl 0 rfl ?_
  refine z_get hx dX1_addCosy_26 fl_X1_39 h_5 rfl ?_
  refine z_iload_n hx dX1_addCosy_29 rfl 2 rfl ?_
  refine z_iastQ hx dX1_addCosy_30 h_6 (by omega) (by decide) (fun h_15 hs_16 hf_17 => ?_)
  have h_18 := hf_17.at (by omega) h_5
  have h_19 := hf_17.at (by omega) hs_3
  have h_20 := hf_17.at (by omega) h_7
  have h_21 := hf_17.at (by omega) h_8
  have h_22 := hf_17.at (by omega) h_9
  have h_23 := hf_17.at (by omega) h_10
  have h_24 := hf_17.at (by omega) h_11
  have h_25 := hf_17.at (by omega) h_12
  have h_26 := hf_17.at (by omega) h_13
  have fr_27 := fr_14.tr (hf_17.wd (by omega) (by omega))
  refine z_aload_n hx dX1_addCosy_31 rfl 0 rfl ?_
  refine z_get hx dX1_addCosy_32 fl_X1_18 h_18 rfl ?_
  refine z_aload_n hx dX1_addCosy_35 rfl 0 rfl ?_
  refine z_get hx dX1_addCosy_36 fl_X1_39 h_18 rfl ?_
  refine z_iload_n hx dX1_addCosy_39 rfl 3 rfl ?_
  refine z_iastQ hx dX1_addCosy_40 h_20 (by omega) (by decide) (fun h_28 hs_29 hf_30 => ?_)
  have h_31 := hf_30.at (by omega) h_18
  have h_32 := hf_30.at (by omega) h_19
  have h_33 := hf_30.at (by omega) hs_16
  have h_34 := hf_30.at (by omega) h_21
  have h_35 := hf_30.at (by omega) h_22
  have h_36 := hf_30.at (by omega) h_23
  have h_37 := hf_30.at (by omega) h_24
  have h_38 := hf_30.at (by omega) h_25
  have h_39 := hf_30.at (by omega) h_26
  have fr_40 := fr_27.tr (hf_30.wd (by omega) (by omega))
  refine z_aload_n hx dX1_addCosy_41 rfl 0 rfl ?_
  refine z_get hx dX1_addCosy_42 fl_X1_21 h_31 rfl ?_
  refine z_aload_n hx dX1_addCosy_45 rfl 0 rfl ?_
  refine z_get hx dX1_addCosy_46 fl_X1_39 h_31 rfl ?_
  refine z_iconst hx dX1_addCosy_49 ?_
  refine z_iastQ hx dX1_addCosy_50 h_34 (by omega) (by decide) (fun h_41 hs_42 hf_43 => ?_)
  have h_44 := hf_43.at (by omega) h_31
  have h_45 := hf_43.at (by omega) h_32
  have h_46 := hf_43.at (by omega) h_33
  have h_47 := hf_43.at (by omega) hs_29
  have h_48 := hf_43.at (by omega) h_35
  have h_49 := hf_43.at (by omega) h_36
  have h_50 := hf_43.at (by omega) h_37
  have h_51 := hf_43.at (by omega) h_38
  have h_52 := hf_43.at (by omega) h_39
  have fr_53 := fr_40.tr (hf_43.wd (by omega) (by omega))
  refine z_aload_n hx dX1_addCosy_51 rfl 0 rfl ?_
  refine z_dup hx dX1_addCosy_52 rfl ?_
  refine z_get hx dX1_addCosy_53 fl_X1_39 h_44 rfl ?_
  refine z_iconst hx dX1_addCosy_56 ?_
  refine z_iadd hx dX1_addCosy_57 ?_
  refine z_putQ hx dX1_addCosy_58 fl_X1_39 h_44 ⟨rfl, rfl⟩ (Nat.le_of_ble_eq_true rfl) (fun h_54 hs_55 hf_56 => ?_)
  have h_57 := hf_56.at (by omega) h_45
  have h_58 := hf_56.at (by omega) h_46
  have h_59 := hf_56.at (by omega) h_47
  have h_60 := hf_56.at (by omega) hs_42
  have h_61 := hf_56.at (by omega) h_48
  have h_62 := hf_56.at (by omega) h_49
  have h_63 := hf_56.at (by omega) h_50
  have h_64 := hf_56.at (by omega) h_51
  have h_65 := hf_56.at (by omega) h_52
  have fr_66 := fr_53.tr (hf_56.wd (by omega) (by omega))
  refine z_aload_n hx dX1_addCosy_61 rfl 0 rfl ?_
  refine z_get hx dX1_addCosy_62 fl_X1_39 hs_55 rfl ?_
  refine z_iconst hx dX1_addCosy_65 ?_
  refine z_isub hx dX1_addCosy_66 ?_
  refine z_iret hx hr dX1_addCosy_67 rfl rfl (q_j (by omega) ⟨(sst (sst (sst (sst (sst F 1 (fup (F 1) (F 0 0) kd9)) 2 (fup (F 2) (F 0 0) ce9)) 3 (fup (F 3) (F 0 0) sz9)) 4 (fup (F 4) (F 0 0) 0)) 0 (fup (F 0) 0 ((F 0 0) + 1))), ⟨hs_55, h_57, h_58, h_59, h_60, h_61, h_62, h_63, h_64, h_65⟩, RLC_acs hR hI hf, fr_66⟩)

set_option maxHeartbeats 4000000 in
set_option maxRecDepth 20000 in
theorem kX1_addHunted (g : Gt) {h : AH} {c : Nat} {F : Nat → Int → Int} {f : Int → Int} {ce9 : Int} (hM : CM h c F) (hR : RLC F f) (hI : inv f) (hf : f 37 < 6) (hce : rgI ce9) : CnJ g mX1_addHunted 2 [.ref c, .int (iI ce9)] h (f 37) (QR h c (ahu f ce9)) := by
  refine Cn.mk (by decide +kernel) (Nat.le_of_ble_eq_true rfl) ?_
  intro x sz hx hr
  show Zj g x (sz, 0, 0) h 0 [(0, .ref c), (1, .int (iI ce9))] []
  obtain ⟨m0, m1, m2, m3, m4, m5, m6, m7, m8, m9⟩ := hM
  have hn := hI.n
  have rn := hR.n
  refine z_aload_n hx dX1_addHunted_0 rfl 0 rfl ?_
  refine z_get hx dX1_addHunted_1 fl_X1_43 m0 rfl ?_
  refine z_bipush hx dX1_addHunted_4 (by decide) ?_
  refine z_icmp_lt (tgt := 12) hx dX1_addHunted_6 (by decide) (by omega) (by decide) (fun c_1 => ?_) (fun c_1 => by exfalso; omega)
  refine z_aload_n hx dX1_addHunted_12 rfl 0 rfl ?_
  refine z_aload_n hx dX1_addHunted_13 rfl 0 rfl ?_
  refine z_get hx dX1_addHunted_14 fl_X1_43 m0 rfl ?_
  refine z_iload_n hx dX1_addHunted_17 rfl 1 rfl ?_
  refine z_cVV (as := [.int (iI (F 0 1)), .int (iI ce9)]) (rest := []) hx dX1_addHunted_18 lk_X1_58 wm_X1_setFree wv_X1_setFree (rcv_obj hx m0 rfl) mo_X1_setFree (kX1_setFree g (F := F) (p := (F 0 1)) (cell := ce9) ⟨m0, m1, m2, m3, m4, m5, m6, m7, m8, m9⟩ (show 0 ≤ (F 0 1) ∧ (F 0 1) < 6 by omega) (show rgI ce9 by omega)) (by decide) rfl rfl (Nat.le_of_ble_eq_true rfl) (fun h_2 q_3 => ?_)
  obtain ⟨hC_4, hf_5⟩ := q_3
  obtain ⟨F_6, eF_6⟩ : ∃ G : Nat → Int → Int, G = sst (sst F 5 (fup (F 5) (F 0 1) ce9)) 6 (fup (F 6) (F 0 1) (-1)) := ⟨_, rfl⟩
  rw [← eF_6] at hC_4
  obtain ⟨m_7, m_8, m_9, m_10, m_11, m_12, m_13, m_14, m_15, m_16⟩ := hC_4
  have fr_17 : Fr h h_2 c 10 := hf_5.wd (by omega) (by omega)
  have q01 : F_6 0 1 = F 0 1 := by rw [eF_6]; rfl
  refine z_aload_n hx dX1_addHunted_21 rfl 0 rfl ?_
  refine z_dup hx dX1_addHunted_22 rfl ?_
  refine z_get hx dX1_addHunted_23 fl_X1_43 m_7 rfl ?_
  refine z_iconst hx dX1_addHunted_26 ?_
  refine z_iadd hx dX1_addHunted_27 ?_
  refine z_putQ hx dX1_addHunted_28 fl_X1_43 m_7 ⟨rfl, rfl⟩ (Nat.le_of_ble_eq_true rfl) (fun h_18 hs_19 hf_20 => ?_)
  have h_21 := hf_20.at (by omega) m_8
  have h_22 := hf_20.at (by omega) m_9
  have h_23 := hf_20.at (by omega) m_10
  have h_24 := hf_20.at (by omega) m_11
  have h_25 := hf_20.at (by omega) m_12
  have h_26 := hf_20.at (by omega) m_13
  have h_27 := hf_20.at (by omega) m_14
  have h_28 := hf_20.at (by omega) m_15
  have h_29 := hf_20.at (by omega) m_16
  have fr_30 := fr_17.tr (hf_20.wd (by omega) (by omega))
  refine z_aload_n hx dX1_addHunted_31 rfl 0 rfl ?_
  refine z_get hx dX1_addHunted_32 fl_X1_43 hs_19 rfl ?_
  refine z_iconst hx dX1_addHunted_35 ?_
  refine z_isub hx dX1_addHunted_36 ?_
  refine z_iret hx hr dX1_addHunted_37 rfl rfl (q_j (by omega) ⟨(sst F_6 0 (fup (F_6 0) 1 ((F_6 0 1) + 1))), ⟨hs_19, h_21, h_22, h_23, h_24, h_25, h_26, h_27, h_28, h_29⟩, (by rw [eF_6]; exact RLC_ahu hR hI hf), fr_30⟩)

set_option maxHeartbeats 4000000 in
set_option maxRecDepth 20000 in
theorem kX1_addSheriff (g : Gt) {h : AH} {c : Nat} {F : Nat → Int → Int} {f : Int → Int} {ce9 : Int} (hM : CM h c F) (hR : RLC F f) (hI : inv f) (hf : f 38 < 3) : CnJ g mX1_addSheriff 1 [.ref c, .int (iI ce9)] h (f 38) (QR h c (ash f ce9)) := by
  refine Cn.mk (by decide +kernel) (Nat.le_of_ble_eq_true rfl) ?_
  intro x sz hx hr
  show Zj g x (sz, 0, 0) h 0 [(0, .ref c), (1, .int (iI ce9))] []
  obtain ⟨m0, m1, m2, m3, m4, m5, m6, m7, m8, m9⟩ := hM
  have hn := hI.n
  have rn := hR.n
  refine z_aload_n hx dX1_addSheriff_0 rfl 0 rfl ?_
  refine z_get hx dX1_addSheriff_1 fl_X1_46 m0 rfl ?_
  refine z_iconst hx dX1_addSheriff_4 ?_
  refine z_icmp_lt (tgt := 11) hx dX1_addSheriff_5 (by decide) (by omega) (by decide) (fun c_1 => ?_) (fun c_1 => by exfalso; omega)
  refine z_aload_n hx dX1_addSheriff_11 rfl 0 rfl ?_
  refine z_get hx dX1_addSheriff_12 fl_X1_30 m0 rfl ?_
  refine z_aload_n hx dX1_addSheriff_15 rfl 0 rfl ?_
  refine z_get hx dX1_addSheriff_16 fl_X1_46 m0 rfl ?_
  refine z_iload_n hx dX1_addSheriff_19 rfl 1 rfl ?_
  refine z_iastQ hx dX1_addSheriff_20 m7 (by omega) (by decide) (fun h_2 hs_3 hf_4 => ?_)
  have h_5 := hf_4.at (by omega) m0
  have h_6 := hf_4.at (by omega) m1
  have h_7 := hf_4.at (by omega) m2
  have h_8 := hf_4.at (by omega) m3
  have h_9 := hf_4.at (by omega) m4
  have h_10 := hf_4.at (by omega) m5
  have h_11 := hf_4.at (by omega) m6
  have h_12 := hf_4.at (by omega) m8
  have h_13 := hf_4.at (by omega) m9
  have fr_14 : Fr h h_2 c 10 := hf_4.wd (by omega) (by omega)
  refine z_aload_n hx dX1_addSheriff_21 rfl 0 rfl ?_
  refine z_dup hx dX1_addSheriff_22 rfl ?_
  refine z_get hx dX1_addSheriff_23 fl_X1_46 h_5 rfl ?_
  refine z_iconst hx dX1_addSheriff_26 ?_
  refine z_iadd hx dX1_addSheriff_27 ?_
  refine z_putQ hx dX1_addSheriff_28 fl_X1_46 h_5 ⟨rfl, rfl⟩ (Nat.le_of_ble_eq_true rfl) (fun h_15 hs_16 hf_17 => ?_)
  have h_18 := hf_17.at (by omega) h_6
  have h_19 := hf_17.at (by omega) h_7
  have h_20 := hf_17.at (by omega) h_8
  have h_21 := hf_17.at (by omega) h_9
  have h_22 := hf_17.at (by omega) h_10
  have h_23 := hf_17.at (by omega) h_11
  have h_24 := hf_17.at (by omega) hs_3
  have h_25 := hf_17.at (by omega) h_12
  have h_26 := hf_17.at (by omega) h_13
  have fr_27 := fr_14.tr (hf_17.wd (by omega) (by omega))
  refine z_aload_n hx dX1_addSheriff_31 rfl 0 rfl ?_
  refine z_get hx dX1_addSheriff_32 fl_X1_46 hs_16 rfl ?_
  refine z_iconst hx dX1_addSheriff_35 ?_
  refine z_isub hx dX1_addSheriff_36 ?_
  refine z_iret hx hr dX1_addSheriff_37 rfl rfl (q_j (by omega) ⟨(sst (sst F 7 (fup (F 7) (F 0 2) ce9)) 0 (fup (F 0) 2 ((F 0 2) + 1))), ⟨hs_16, h_18, h_19, h_20, h_21, h_22, h_23, h_24, h_25, h_26⟩, RLC_ash hR hI hf, fr_27⟩)

theorem mv_y {g1 f : Int → Int} {n v k c : Int} (ep : ∀ q, 0 ≤ q → q < n → g1 q = if q < v ∧ f (17 + q) = 1 + k then c else f (11 + q)) (h : f (17 + v) = 1 + k) : ∀ q, 0 ≤ q → q < n → fup g1 v c q = if q < v + 1 ∧ f (17 + q) = 1 + k then c else f (11 + q) := by
  intro q a b
  have e := ep q a b
  by_cases w : q = v
  · subst w; rw [fup_s, if_pos ⟨by omega, h⟩]
  · rw [fup_n w, e]
    by_cases z : q < v ∧ f (17 + q) = 1 + k
    · rw [if_pos z, if_pos ⟨by omega, z.2⟩]
    · rw [if_neg z, if_neg (fun y => z ⟨by omega, y.2⟩)]
theorem mv_n {g1 f : Int → Int} {n v k c : Int} (ep : ∀ q, 0 ≤ q → q < n → g1 q = if q < v ∧ f (17 + q) = 1 + k then c else f (11 + q)) (h : f (17 + v) ≠ 1 + k) : ∀ q, 0 ≤ q → q < n → g1 q = if q < v + 1 ∧ f (17 + q) = 1 + k then c else f (11 + q) := by
  intro q a b
  rw [ep q a b]
  by_cases z : q < v ∧ f (17 + q) = 1 + k
  · rw [if_pos z, if_pos ⟨by omega, z.2⟩]
  · rw [if_neg z, if_neg (fun y => z ⟨by rcases Int.lt_or_le q v with w | w; exact w; exact absurd y.2 (by rw [show q = v by omega]; exact h), y.2⟩)]

set_option maxHeartbeats 4000000 in
set_option maxRecDepth 20000 in
theorem kX1_moveCosy (g : Gt) {h : AH} {c : Nat} {F : Nat → Int → Int} {f : Int → Int} {k : Int} {ce9 : Int} (hM : CM h c F) (hR : RLC F f) (hI : inv f) (hk : 0 ≤ k ∧ k < f 26) (hce : 0 ≤ ce9 ∧ ce9 < 24) : CnV g mX1_moveCosy 1 [.ref c, .int (iI k), .int (iI ce9)] h (QR h c (brt f k ce9)) := by
  refine Cn.mk (by decide +kernel) (Nat.le_of_ble_eq_true rfl) ?_
  intro x sz hx hr
  show Zj g x (sz, 0, 0) h 0 [(0, .ref c), (1, .int (iI k)), (2, .int (iI ce9))] []
  obtain ⟨m0, m1, m2, m3, m4, m5, m6, m7, m8, m9⟩ := hM
  have hn := hI.n
  have rn := hR.n
  refine z_aload_n hx dX1_moveCosy_0 rfl 0 rfl ?_
  refine z_get hx dX1_moveCosy_1 fl_X1_15 m0 rfl ?_
  refine z_iload_n hx dX1_moveCosy_4 rfl 1 rfl ?_
  refine z_iload_n hx dX1_moveCosy_5 rfl 2 rfl ?_
  refine z_iastQ hx dX1_moveCosy_6 m2 (by omega) (by decide) (fun h_1 hs_2 hf_3 => ?_)
  have h_4 := hf_3.at (by omega) m0
  have h_5 := hf_3.at (by omega) m1
  have h_6 := hf_3.at (by omega) m3
  have h_7 := hf_3.at (by omega) m4
  have h_8 := hf_3.at (by omega) m5
  have h_9 := hf_3.at (by omega) m6
  have h_10 := hf_3.at (by omega) m7
  have h_11 := hf_3.at (by omega) m8
  have h_12 := hf_3.at (by omega) m9
  have fr_13 : Fr h h_1 c 10 := hf_3.wd (by omega) (by omega)
  refine z_iconst hx dX1_moveCosy_7 ?_
  refine z_istore_n hx dX1_moveCosy_8 rfl (by decide) [1, 2, 3, 0] (lv' := [(0, .ref c), (1, .int (iI k)), (2, .int (iI ce9)), (3, .int (iI 0))]) rfl ?_
  have hL_14 : ∀ (mm : Nat) (v3 : Int) (g1 : Int → Int) (h_15 : AH), (0 ≤ v3 ∧ v3 ≤ f 37) → (∀ q, 0 ≤ q → q < f 37 → g1 q = if q < v3 ∧ f (17 + q) = 1 + k then ce9 else f (11 + q)) → (h_15 c = some (.inr (.inr (1, [.ref (c + 1), .ref (c + 2), .ref (c + 3), .ref (c + 4), .ref (c + 5), .ref (c + 6), .ref (c + 7), .ref (c + 8), .ref (c + 9), .int (iI (F 0 0)), .int (iI (F 0 1)), .int (iI (F 0 2)), .int (iI (F 0 3))])))) → (h_15 (c + 1) = some (.inl (0, 5, F 1))) → (h_15 (c + 2) = some (.inl (0, 5, (fup (F 2) k ce9)))) → (h_15 (c + 3) = some (.inl (0, 5, F 3))) → (h_15 (c + 4) = some (.inl (0, 5, F 4))) → (h_15 (c + 5) = some (.inl (0, 6, g1))) → (h_15 (c + 6) = some (.inl (0, 6, F 6))) → (h_15 (c + 7) = some (.inl (0, 3, F 7))) → (h_15 (c + 8) = some (.inl (0, 5, F 8))) → (h_15 (c + 9) = some (.inl (0, 5, F 9))) → (Fr h h_15 c 10) → f 37 - v3 < (mm : Int) → Zj g x (sz, 0, 0) h_15 9 [(0, .ref c), (1, .int (iI k)), (2, .int (iI ce9)), (3, .int (iI v3))] [] := by
    intro mm
    induction mm with
    | zero => intro v3 g1 h_15 kv ep hk_17 hk_18 hk_19 hk_20 hk_21 hg_16 hk_22 hk_23 hk_24 hk_25 fr_26 hm; exfalso; omega
    | succ mm ih =>
      intro v3 g1 h_15 kv ep hk_17 hk_18 hk_19 hk_20 hk_21 hg_16 hk_22 hk_23 hk_24 hk_25 fr_26 hm
      have ih_27 := ih; clear ih
      refine z_iload_n hx dX1_moveCosy_9 rfl 3 rfl ?_
      refine z_aload_n hx dX1_moveCosy_10 rfl 0 rfl ?_
      refine z_get hx dX1_moveCosy_11 fl_X1_43 hk_17 rfl ?_
      refine z_icmp_ge (tgt := 40) hx dX1_moveCosy_14 (by decide) (by omega) (by omega) (fun c_28 => ?_) (fun c_28 => ?_)
      ·
        refine z_vret hx hr dX1_moveCosy_40 rfl (q_v ⟨(sst (sst F 2 (fup (F 2) k ce9)) 5 g1), ⟨hk_17, hk_18, hk_19, hk_20, hk_21, hg_16, hk_22, hk_23, hk_24, hk_25⟩, RLC_brt hR hI hk (fun q a b => by rw [ep q a b]; by_cases w : f (17 + q) = 1 + k; (rw [if_pos w, if_pos ⟨by omega, w⟩]); (rw [if_neg w, if_neg (fun z => w z.2)])), fr_26⟩)
      ·
        refine z_aload_n hx dX1_moveCosy_17 rfl 0 rfl ?_
        refine z_get hx dX1_moveCosy_18 fl_X1_27 hk_17 rfl ?_
        refine z_iload_n hx dX1_moveCosy_21 rfl 3 rfl ?_
        refine z_iald hx dX1_moveCosy_22 hk_22 (by omega) (by decide) ?_
        have rp_29 := hR.p v3 (by first | omega | decide)
        have ip_30 := hI.p v3 (by first | omega | decide)
        have cc_31 := cv_c (f (17 + v3))
        refine z_iload_n hx dX1_moveCosy_23 rfl 1 rfl ?_
        refine z_icmp_ne (tgt := 34) hx dX1_moveCosy_24 (by decide) (by omega) (by omega) (fun c_32 => ?_) (fun c_32 => ?_)
        ·
          refine z_iinc hx dX1_moveCosy_34 (by decide) 3 rfl [1, 2, 3, 0] (lv' := [(0, .ref c), (1, .int (iI k)), (2, .int (iI ce9)), (3, .int (iI (v3 + 1)))]) rfl ?_
          refine z_goto (tgt := 9) hx dX1_moveCosy_37 (by decide) ?_
          exact ih_27 _ g1 _ (by omega) (by first | exact mv_y ep (by omega) | exact mv_n ep (by omega)) hk_17 hk_18 hk_19 hk_20 hk_21 hg_16 hk_22 hk_23 hk_24 hk_25 fr_26 (by omega)
        ·
          refine z_aload_n hx dX1_moveCosy_27 rfl 0 rfl ?_
          refine z_get hx dX1_moveCosy_28 fl_X1_24 hk_17 rfl ?_
          refine z_iload_n hx dX1_moveCosy_31 rfl 3 rfl ?_
          refine z_iload_n hx dX1_moveCosy_32 rfl 2 rfl ?_
          refine z_iastQ hx dX1_moveCosy_33 hg_16 (by omega) (by decide) (fun h_33 hs_34 hf_35 => ?_)
          have h_36 := hf_35.at (by omega) hk_17
          have h_37 := hf_35.at (by omega) hk_18
          have h_38 := hf_35.at (by omega) hk_19
          have h_39 := hf_35.at (by omega) hk_20
          have h_40 := hf_35.at (by omega) hk_21
          have h_41 := hf_35.at (by omega) hk_22
          have h_42 := hf_35.at (by omega) hk_23
          have h_43 := hf_35.at (by omega) hk_24
          have h_44 := hf_35.at (by omega) hk_25
          have fr_45 := fr_26.tr (hf_35.wd (by omega) (by omega))
          refine z_iinc hx dX1_moveCosy_34 (by decide) 3 rfl [1, 2, 3, 0] (lv' := [(0, .ref c), (1, .int (iI k)), (2, .int (iI ce9)), (3, .int (iI (v3 + 1)))]) rfl ?_
          refine z_goto (tgt := 9) hx dX1_moveCosy_37 (by decide) ?_
          exact ih_27 _ (fup g1 v3 ce9) _ (by omega) (by first | exact mv_y ep (by omega) | exact mv_n ep (by omega)) h_36 h_37 h_38 h_39 h_40 hs_34 h_41 h_42 h_43 h_44 fr_45 (by omega)
  exact hL_14 ((f 37 - 0) + 1 : Int).toNat _ (F 5) _ (by omega) (by intro q a b; rw [if_neg (by omega)]; exact (hR.p q ⟨a, b⟩).1) h_4 h_5 hs_2 h_6 h_7 h_8 h_9 h_10 h_11 h_12 fr_13 (by omega)

