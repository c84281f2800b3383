/-! the reference's public methods, on -/
set_option maxHeartbeats 4000000 in
set_option maxRecDepth 20000 in
theorem kX9_keepBack (g : Gt) {h : AH} {b : Nat} {S : Nat → Int → Int}  (hM : RM h b S) (h58 : 0 ≤ S 1 58 ∧ S 1 58 ≤ 8) : CnV g mX9_keepBack 2 [.ref b] h (QM h b (sst S 1 (kpb (S 1)))) := by
  refine Cn.mk (by decide +kernel) (Nat.le_of_ble_eq_true rfl) ?_
  intro x sz hx hr
  show Zj g x (sz, 0, 0) h 0 [(0, .ref b)] []
  obtain ⟨m0, m1, m2, m3, m4, m5, m6, m7, m8⟩ := hM
  refine z_aload_n hx dX9_keepBack_0 rfl 0 rfl ?_
  refine z_get hx dX9_keepBack_1 fl_X9_7 m0 rfl ?_
  refine z_bipush hx dX9_keepBack_4 (by decide) ?_
  refine z_iald hx dX9_keepBack_6 m1 (by decide) (by decide) ?_
  refine z_bipush hx dX9_keepBack_7 (by decide) ?_
  refine z_icmp_ne (tgt := 41) hx dX9_keepBack_9 (by decide) (by omega) (by decide) (fun c_1 => ?_) (fun c_1 => ?_)
  ·
    have e_2 : S 1 = kpb1 (S 1) := by unfold kpb1; first | (rw [if_neg (by omega)]) | (rw [if_pos (by omega)]; subst_vars; rw [fcp_out (by decide), show S 1 58 - 1 = 7 by omega])
    rw [e_2] at m1
    have k58 := kpb1_58 h58
    refine z_aload_n hx dX9_keepBack_41 rfl 0 rfl ?_
    refine z_get hx dX9_keepBack_42 fl_X9_7 m0 rfl ?_
    refine z_iconst hx dX9_keepBack_45 ?_
    refine z_aload_n hx dX9_keepBack_46 rfl 0 rfl ?_
    refine z_get hx dX9_keepBack_47 fl_X9_7 m0 rfl ?_
    refine z_bipush hx dX9_keepBack_50 (by decide) ?_
    refine z_bipush hx dX9_keepBack_52 (by decide) ?_
    refine z_aload_n hx dX9_keepBack_54 rfl 0 rfl ?_
    refine z_get hx dX9_keepBack_55 fl_X9_7 m0 rfl ?_
    refine z_bipush hx dX9_keepBack_58 (by decide) ?_
    refine z_iald hx dX9_keepBack_60 m1 (by decide) (by decide) ?_
    refine z_imul hx dX9_keepBack_61 ?_
    refine z_iadd hx dX9_keepBack_62 ?_
    refine z_bipush hx dX9_keepBack_63 (by decide) ?_
    refine z_cSV (as := [.ref (b + 1), .int (iI 0), .ref (b + 1), .int (iI (59 + (26 * (kpb1 (S 1) 58)))), .int (iI 26)]) (rest := []) hx dX9_keepBack_65 lk_X9_138 wt_X9_bring mo_X9_bring (kX9_bring_eq g m1 (by right; omega) (by decide) (by omega) (by decide) (by decide)) (by decide) rfl rfl (Nat.le_of_ble_eq_true rfl) (fun h_3 q_4 => ?_)
    obtain ⟨hs_5, hf_6⟩ := q_4
    obtain ⟨f_7, ef_7⟩ : ∃ F : Int → Int, F = fcp (kpb1 (S 1)) (kpb1 (S 1)) 0 (59 + (26 * (kpb1 (S 1) 58))) 26 := ⟨_, rfl⟩
    rw [← ef_7] at hs_5
    have h_8 := hf_6.at (by omega) m0
    have h_9 := hf_6.at (by omega) m2
    have h_10 := hf_6.at (by omega) m3
    have h_11 := hf_6.at (by omega) m4
    have h_12 := hf_6.at (by omega) m5
    have h_13 := hf_6.at (by omega) m6
    have h_14 := hf_6.at (by omega) m7
    have h_15 := hf_6.at (by omega) m8
    have fr_16 : Fr h h_3 b 9 := hf_6.wd (by omega) (by omega)
    have e58 : f_7 58 = kpb1 (S 1) 58 := by rw [ef_7]; exact fcp_out (by omega)
    refine z_aload_n hx dX9_keepBack_68 rfl 0 rfl ?_
    refine z_get hx dX9_keepBack_69 fl_X9_7 h_8 rfl ?_
    refine z_bipush hx dX9_keepBack_72 (by decide) ?_
    refine z_dup2 hx dX9_keepBack_74 rfl rfl ?_
    refine z_iald hx dX9_keepBack_75 hs_5 (by decide) (by decide) ?_
    refine z_iconst hx dX9_keepBack_76 ?_
    refine z_iadd hx dX9_keepBack_77 ?_
    refine z_iastQ hx dX9_keepBack_78 hs_5 (by decide) (by decide) (fun h_17 hs_18 hf_19 => ?_)
    have h_20 := hf_19.at (by omega) h_8
    have h_21 := hf_19.at (by omega) h_9
    have h_22 := hf_19.at (by omega) h_10
    have h_23 := hf_19.at (by omega) h_11
    have h_24 := hf_19.at (by omega) h_12
    have h_25 := hf_19.at (by omega) h_13
    have h_26 := hf_19.at (by omega) h_14
    have h_27 := hf_19.at (by omega) h_15
    have fr_28 := fr_16.tr (hf_19.wd (by omega) (by omega))
    have e_29 : (fup f_7 58 ((f_7 58) + 1)) = kpb (S 1) := by rw [e58, ef_7]; rfl
    rw [e_29] at hs_18
    refine z_vret hx hr dX9_keepBack_79 rfl (q_v (by subst_vars; exact ⟨⟨h_20, hs_18, h_21, h_22, h_23, h_24, h_25, h_26, h_27⟩, fr_28⟩))
  ·
    refine z_aload_n hx dX9_keepBack_12 rfl 0 rfl ?_
    refine z_get hx dX9_keepBack_13 fl_X9_7 m0 rfl ?_
    refine z_bipush hx dX9_keepBack_16 (by decide) ?_
    refine z_aload_n hx dX9_keepBack_18 rfl 0 rfl ?_
    refine z_get hx dX9_keepBack_19 fl_X9_7 m0 rfl ?_
    refine z_bipush hx dX9_keepBack_22 (by decide) ?_
    refine z_sipush hx dX9_keepBack_24 (by decide) ?_
    refine z_cSV (as := [.ref (b + 1), .int (iI 85), .ref (b + 1), .int (iI 59), .int (iI 182)]) (rest := []) hx dX9_keepBack_27 lk_X9_138 wt_X9_bring mo_X9_bring (kX9_bring_eq g m1 (by left; decide) (by decide) (by decide) (by decide) (by decide)) (by decide) rfl rfl (Nat.le_of_ble_eq_true rfl) (fun h_30 q_31 => ?_)
    obtain ⟨hs_32, hf_33⟩ := q_31
    obtain ⟨f_34, ef_34⟩ : ∃ F : Int → Int, F = fcp (S 1) (S 1) 85 59 182 := ⟨_, rfl⟩
    rw [← ef_34] at hs_32
    have h_35 := hf_33.at (by omega) m0
    have h_36 := hf_33.at (by omega) m2
    have h_37 := hf_33.at (by omega) m3
    have h_38 := hf_33.at (by omega) m4
    have h_39 := hf_33.at (by omega) m5
    have h_40 := hf_33.at (by omega) m6
    have h_41 := hf_33.at (by omega) m7
    have h_42 := hf_33.at (by omega) m8
    have fr_43 : Fr h h_30 b 9 := hf_33.wd (by omega) (by omega)
    refine z_aload_n hx dX9_keepBack_30 rfl 0 rfl ?_
    refine z_get hx dX9_keepBack_31 fl_X9_7 h_35 rfl ?_
    refine z_bipush hx dX9_keepBack_34 (by decide) ?_
    refine z_dup2 hx dX9_keepBack_36 rfl rfl ?_
    refine z_iald hx dX9_keepBack_37 hs_32 (by decide) (by decide) ?_
    refine z_iconst hx dX9_keepBack_38 ?_
    refine z_isub hx dX9_keepBack_39 ?_
    refine z_iastQ hx dX9_keepBack_40 hs_32 (by decide) (by decide) (fun h_44 hs_45 hf_46 => ?_)
    have h_47 := hf_46.at (by omega) h_35
    have h_48 := hf_46.at (by omega) h_36
    have h_49 := hf_46.at (by omega) h_37
    have h_50 := hf_46.at (by omega) h_38
    have h_51 := hf_46.at (by omega) h_39
    have h_52 := hf_46.at (by omega) h_40
    have h_53 := hf_46.at (by omega) h_41
    have h_54 := hf_46.at (by omega) h_42
    have fr_55 := fr_43.tr (hf_46.wd (by omega) (by omega))
    have e_56 : (fup f_34 58 ((f_34 58) - 1)) = kpb1 (S 1) := by unfold kpb1; first | (rw [if_neg (by omega)]) | (rw [if_pos (by omega)]; subst_vars; rw [fcp_out (by decide), show S 1 58 - 1 = 7 by omega])
    rw [e_56] at hs_45
    have k58 := kpb1_58 h58
    refine z_aload_n hx dX9_keepBack_41 rfl 0 rfl ?_
    refine z_get hx dX9_keepBack_42 fl_X9_7 h_47 rfl ?_
    refine z_iconst hx dX9_keepBack_45 ?_
    refine z_aload_n hx dX9_keepBack_46 rfl 0 rfl ?_
    refine z_get hx dX9_keepBack_47 fl_X9_7 h_47 rfl ?_
    refine z_bipush hx dX9_keepBack_50 (by decide) ?_
    refine z_bipush hx dX9_keepBack_52 (by decide) ?_
    refine z_aload_n hx dX9_keepBack_54 rfl 0 rfl ?_
    refine z_get hx dX9_keepBack_55 fl_X9_7 h_47 rfl ?_
    refine z_bipush hx dX9_keepBack_58 (by decide) ?_
    refine z_iald hx dX9_keepBack_60 hs_45 (by decide) (by decide) ?_
    refine z_imul hx dX9_keepBack_61 ?_
    refine z_iadd hx dX9_keepBack_62 ?_
    refine z_bipush hx dX9_keepBack_63 (by decide) ?_
    refine z_cSV (as := [.ref (b + 1), .int (iI 0), .ref (b + 1), .int (iI (59 + (26 * (kpb1 (S 1) 58)))), .int (iI 26)]) (rest := []) hx dX9_keepBack_65 lk_X9_138 wt_X9_bring mo_X9_bring (kX9_bring_eq g hs_45 (by right; omega) (by decide) (by omega) (by decide) (by decide)) (by decide) rfl rfl (Nat.le_of_ble_eq_true rfl) (fun h_57 q_58 => ?_)
    obtain ⟨hs_59, hf_60⟩ := q_58
    obtain ⟨f_61, ef_61⟩ : ∃ F : Int → Int, F = fcp (kpb1 (S 1)) (kpb1 (S 1)) 0 (59 + (26 * (kpb1 (S 1) 58))) 26 := ⟨_, rfl⟩
    rw [← ef_61] at hs_59
    have h_62 := hf_60.at (by omega) h_47
    have h_63 := hf_60.at (by omega) h_48
    have h_64 := hf_60.at (by omega) h_49
    have h_65 := hf_60.at (by omega) h_50
    have h_66 := hf_60.at (by omega) h_51
    have h_67 := hf_60.at (by omega) h_52
    have h_68 := hf_60.at (by omega) h_53
    have h_69 := hf_60.at (by omega) h_54
    have fr_70 := fr_55.tr (hf_60.wd (by omega) (by omega))
    have e58 : f_61 58 = kpb1 (S 1) 58 := by rw [ef_61]; exact fcp_out (by omega)
    refine z_aload_n hx dX9_keepBack_68 rfl 0 rfl ?_
    refine z_get hx dX9_keepBack_69 fl_X9_7 h_62 rfl ?_
    refine z_bipush hx dX9_keepBack_72 (by decide) ?_
    refine z_dup2 hx dX9_keepBack_74 rfl rfl ?_
    refine z_iald hx dX9_keepBack_75 hs_59 (by decide) (by decide) ?_
    refine z_iconst hx dX9_keepBack_76 ?_
    refine z_iadd hx dX9_keepBack_77 ?_
    refine z_iastQ hx dX9_keepBack_78 hs_59 (by decide) (by decide) (fun h_71 hs_72 hf_73 => ?_)
    have h_74 := hf_73.at (by omega) h_62
    have h_75 := hf_73.at (by omega) h_63
    have h_76 := hf_73.at (by omega) h_64
    have h_77 := hf_73.at (by omega) h_65
    have h_78 := hf_73.at (by omega) h_66
    have h_79 := hf_73.at (by omega) h_67
    have h_80 := hf_73.at (by omega) h_68
    have h_81 := hf_73.at (by omega) h_69
    have fr_82 := fr_70.tr (hf_73.wd (by omega) (by omega))
    have e_83 : (fup f_61 58 ((f_61 58) + 1)) = kpb (S 1) := by rw [e58, ef_61]; rfl
    rw [e_83] at hs_72
    refine z_vret hx hr dX9_keepBack_79 rfl (q_v (by subst_vars; exact ⟨⟨h_74, hs_72, h_75, h_76, h_77, h_78, h_79, h_80, h_81⟩, fr_82⟩))

set_option maxHeartbeats 4000000 in
set_option maxRecDepth 20000 in
theorem kX9_copyNow (g : Gt) {h : AH} {b : Nat} {S : Nat → Int → Int}  (hM : RM h b S)  : CnV g mX9_copyNow 2 [.ref b] h (QM h b (sst S 2 (cpn (S 1) (S 2)))) := by
  refine Cn.mk (by decide +kernel) (Nat.le_of_ble_eq_true rfl) ?_
  intro x sz hx hr
  show Zj g x (sz, 0, 0) h 0 [(0, .ref b)] []
  obtain ⟨m0, m1, m2, m3, m4, m5, m6, m7, m8⟩ := hM
  refine z_aload_n hx dX9_copyNow_0 rfl 0 rfl ?_
  refine z_get hx dX9_copyNow_1 fl_X9_7 m0 rfl ?_
  refine z_iconst hx dX9_copyNow_4 ?_
  refine z_aload_n hx dX9_copyNow_5 rfl 0 rfl ?_
  refine z_get hx dX9_copyNow_6 fl_X9_13 m0 rfl ?_
  refine z_iconst hx dX9_copyNow_9 ?_
  refine z_bipush hx dX9_copyNow_10 (by decide) ?_
  refine z_cSV (as := [.ref (b + 1), .int (iI 0), .ref (b + 2), .int (iI 0), .int (iI 58)]) (rest := []) hx dX9_copyNow_12 lk_X9_138 wt_X9_bring mo_X9_bring (kX9_bring_ne g m1 m2 (by omega) (by decide) (by decide) (by decide) (by decide)) (by decide) rfl rfl (Nat.le_of_ble_eq_true rfl) (fun h_1 q_2 => ?_)
  obtain ⟨hs_3, hf_4⟩ := q_2
  obtain ⟨f_5, ef_5⟩ : ∃ F : Int → Int, F = fcp (S 1) (S 2) 0 0 58 := ⟨_, rfl⟩
  rw [← ef_5] at hs_3
  have h_6 := hf_4.at (by omega) m0
  have h_7 := hf_4.at (by omega) m1
  have h_8 := hf_4.at (by omega) m3
  have h_9 := hf_4.at (by omega) m4
  have h_10 := hf_4.at (by omega) m5
  have h_11 := hf_4.at (by omega) m6
  have h_12 := hf_4.at (by omega) m7
  have h_13 := hf_4.at (by omega) m8
  have fr_14 : Fr h h_1 b 9 := hf_4.wd (by omega) (by omega)
  refine z_vret hx hr dX9_copyNow_15 rfl (q_v (by unfold cpn; subst_vars; exact ⟨⟨h_6, h_7, hs_3, h_8, h_9, h_10, h_11, h_12, h_13⟩, fr_14⟩))

set_option maxHeartbeats 4000000 in
set_option maxRecDepth 20000 in
theorem kX9_goOn (g : Gt) {h : AH} {b : Nat} {S : Nat → Int → Int} {m : Int} (hM : RM h b S) (g_m : rgI m) (hI2 : inv (S 2)) (hm : 0 ≤ m ∧ m ≤ 40) : CnV g mX9_goOn 6 [.ref b, .int (iI m)] h (QM h b (sst S 2 (gon m (S 2)))) := by
  refine Cn.mk (by decide +kernel) (Nat.le_of_ble_eq_true rfl) ?_
  intro x sz hx hr
  show Zj g x (sz, 0, 0) h 0 [(0, .ref b), (1, .int (iI m))] []
  obtain ⟨m0, m1, m2, m3, m4, m5, m6, m7, m8⟩ := hM
  refine z_iconst hx dX9_goOn_0 ?_
  refine z_istore_n hx dX9_goOn_1 rfl (by decide) [1, 2, 0] (lv' := [(0, .ref b), (1, .int (iI m)), (2, .int (iI 0))]) rfl ?_
  have hL_1 : ∀ (mm : Nat) (v2 : Int) (g1 : Int → Int) (h_2 : AH), (0 ≤ v2 ∧ v2 ≤ m) → (g1 = itI v2 (goyG) (S 2)) → (inv g1 ∧ cfx (S 2) g1) → (h_2 b = some (.inr (.inr (7, [.ref (b + 1), .ref (b + 2), .ref (b + 3), .ref (b + 4), .ref (b + 5), .ref (b + 6), .long (lI (S 0 6)), .long (lI (S 0 7)), .int (iI (S 0 8)), .ref (b + 7), .int (iI (S 0 10)), .int (iI (S 0 11)), .int (iI (S 0 12)), .int (iI (S 0 13)), .long (lI (S 0 14)), .int (iI (S 0 15)), .ref (b + 8)])))) → (h_2 (b + 1) = some (.inl (0, 267, S 1))) → (h_2 (b + 2) = some (.inl (0, 267, g1))) → (h_2 (b + 3) = some (.inl (0, 267, S 3))) → (h_2 (b + 4) = some (.inl (0, 534, S 4))) → (h_2 (b + 5) = some (.inl (2, 2, S 5))) → (h_2 (b + 6) = some (.inl (0, 3, S 6))) → (h_2 (b + 7) = some (.inl (0, 150, S 7))) → (h_2 (b + 8) = some (.inl (0, 4, S 8))) → (Fr h h_2 b 9) → m - v2 < (mm : Int) → Zj g x (sz, 0, 0) h_2 2 [(0, .ref b), (1, .int (iI m)), (2, .int (iI v2))] [] := by
    intro mm
    induction mm with
    | zero => intro v2 g1 h_2 kv eg ig hk_4 hk_5 hg_3 hk_6 hk_7 hk_8 hk_9 hk_10 hk_11 fr_12 hm; exfalso; omega
    | succ mm ih =>
      intro v2 g1 h_2 kv eg ig hk_4 hk_5 hg_3 hk_6 hk_7 hk_8 hk_9 hk_10 hk_11 fr_12 hm
      have ih_13 := ih; clear ih
      have c26 := ig.2 26 (by decide)
      have c37 := ig.2 37 (by decide)
      have c38 := ig.2 38 (by decide)
      have hng := ig.1.n
      have hit : v2 < m → inv (goyG v2 g1) ∧ cfx g1 (goyG v2 g1) := fun hlt => inv_goBy ig.1
      refine z_iload_n hx dX9_goOn_2 rfl 2 rfl ?_
      refine z_iload_n hx dX9_goOn_3 rfl 1 rfl ?_
      refine z_icmp_ge (tgt := 20) hx dX9_goOn_4 (by decide) (by omega) (by omega) (fun c_14 => ?_) (fun c_14 => ?_)
      ·
        refine z_vret hx hr dX9_goOn_20 rfl (q_v (by unfold gon; rw [← show v2 = m by omega, ← eg]; exact ⟨⟨hk_4, hk_5, hg_3, hk_6, hk_7, hk_8, hk_9, hk_10, hk_11⟩, fr_12⟩))
      ·
        refine z_aload_n hx dX9_goOn_7 rfl 0 rfl ?_
        refine z_get hx dX9_goOn_8 fl_X9_13 hk_4 rfl ?_
        refine z_cSV (as := [.ref (b + 2)]) (rest := []) hx dX9_goOn_11 lk_X9_187 wt_X9_goBy mo_X9_goBy (kX9_goBy g  hg_3 ig.1 ) (by decide) rfl rfl (Nat.le_of_ble_eq_true rfl) (fun h_15 q_16 => ?_)
        obtain ⟨hs_17, hf_18⟩ := q_16
        obtain ⟨f_19, ef_19⟩ : ∃ F : Int → Int, F = goBy g1 := ⟨_, rfl⟩
        rw [← ef_19] at hs_17
        have iv_20 := inv_goBy ig.1
        rw [← ef_19] at iv_20
        have h_21 := hf_18.at (by omega) hk_4
        have h_22 := hf_18.at (by omega) hk_5
        have h_23 := hf_18.at (by omega) hk_6
        have h_24 := hf_18.at (by omega) hk_7
        have h_25 := hf_18.at (by omega) hk_8
        have h_26 := hf_18.at (by omega) hk_9
        have h_27 := hf_18.at (by omega) hk_10
        have h_28 := hf_18.at (by omega) hk_11
        have fr_29 := fr_12.tr (hf_18.wd (by omega) (by omega))
        refine z_iinc hx dX9_goOn_14 (by decide) 2 rfl [1, 2, 0] (lv' := [(0, .ref b), (1, .int (iI m)), (2, .int (iI (v2 + 1)))]) rfl ?_
        refine z_goto (tgt := 2) hx dX9_goOn_17 (by decide) ?_
        have ec : f_19 = goyG v2 g1 := by unfold goyG; subst_vars; rfl
        exact ih_13 _ f_19 _ (by omega) (by rw [itI_s _ _ (by omega), ← eg]; exact ec) (by rw [ec]; exact ⟨(hit (by omega)).1, ig.2.tr (hit (by omega)).2⟩) h_21 h_22 hs_17 h_23 h_24 h_25 h_26 h_27 h_28 fr_29 (by omega)
  exact hL_1 ((m - 0) + 1).toNat _ (S 2) _ (by omega) (by rw [itI_0 _ _ rfl]) (by exact ⟨hI2, cfx.rf⟩) m0 m1 m2 m3 m4 m5 m6 m7 m8 Fr.rf (by omega)

