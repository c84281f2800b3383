/-! the reference's public methods, on -/
set_option maxHeartbeats 4000000 in
set_option maxRecDepth 20000 in
theorem kX9_keepBack (g : Gt) {h : AH} {b : Nat} {S : Nat → Int → Int}  (hM : RM h b S) (h58 : 0 ≤ S 1 58 ∧ S 1 58 ≤ 8) : CnV g mX9_keepBack 2 [.ref b] h (QM h b (sst S 1 (kpb (S 1)))) := by
  refine Cn.mk (by decide +kernel) (Nat.le_of_ble_eq_true rfl) ?_
  intro x sz hx hr
  show Zj g x (sz, 0, 0) h 0 [(0, .ref b)] []
  obtain ⟨m0, m1, m2, m3, m4, m5, m6, m7, m8⟩ := hM
  refine z_aload_n hx dX9_keepBack_0 rfl 0 rfl ?_
  refine z_get hx dX9_keepBack_1 fl_X9_7 m0 rfl ?_
  refine z_bipush hx dX9_keepBack_4 (by decide) ?_
  refine z_iald hx dX9_keepBack_6 m1 (by decide) (by decide) ?_
  refine z_bipush hx dX9_keepBack_7 (by decide) ?_
  refine z_icmp_ne (tgt := 41) hx dX9_keepBack_9 (by decide) (by omega) (by decide) (fun c_1 => ?_) (fun c_1 => ?_)
  ·
    have e_2 : S 1 = kpb1 (S 1) := by unfold kpb1; first | (rw [if_neg (by omega)]) | (rw [if_pos (by omega)]; subst_vars; rw [fcp_out (by decide), show S 1 58 - 1 = 7 by omega])
    rw [e_2] at m1
    have k58 := kpb1_58 h58
    refine z_aload_n hx dX9_keepBack_41 rfl 0 rfl ?_
    refine z_get hx dX9_keepBack_42 fl_X9_7 m0 rfl ?_
    refine z_iconst hx dX9_keepBack_45 ?_
    refine z_aload_n hx dX9_keepBack_46 rfl 0 rfl ?_
    refine z_get hx dX9_keepBack_47 fl_X9_7 m0 rfl ?_
    refine z_bipush hx dX9_keepBack_50 (by decide) ?_
    refine z_bipush hx dX9_keepBack_52 (by decide) ?_
    refine z_aload_n hx dX9_keepBack_54 rfl 0 rfl ?_
    refine z_get hx dX9_keepBack_55 fl_X9_7 m0 rfl ?_
    refine z_bipush hx dX9_keepBack_58 (by decide) ?_
    refine z_iald hx dX9_keepBack_60 m1 (by decide) (by decide) ?_
    refine z_imul hx dX9_keepBack_61 ?_
    refine z_iadd hx dX9_keepBack_62 ?_
    refine z_bipush hx dX9_keepBack_63 (by decide) ?_
    refine z_cSV (as := [.ref (b + 1), .int (iI 0), .ref (b + 1), .int (iI (59 + (26 * (kpb1 (S 1) 58)))), .int (iI 26)]) (rest := []) hx dX9_keepBack_65 lk_X9_138 wt_X9_bring mo_X9_bring (kX9_bring_eq g m1 (by right; omega) (by decide) (by omega) (by decide) (by decide)) (by decide) rfl rfl (Nat.le_of_ble_eq_true rfl) (fun h_3 q_4 => ?_)
    obtain ⟨hs_5, hf_6⟩ := q_4
    obtain ⟨f_7, ef_7⟩ : ∃ F : Int → Int, F = fcp (kpb1 (S 1)) (kpb1 (S 1)) 0 (59 + (26 * (kpb1 (S 1) 58))) 26 := ⟨_, rfl⟩
    rw [← ef_7] at hs_5
    have h_8 := hf_6.at (by omega) m0
    have h_9 := hf_6.at (by omega) m2
    have h_10 := hf_6.at (by omega) m3
    have h_11 := hf_6.at (by omega) m4
    have h_12 := hf_6.at (by omega) m5
    have h_13 := hf_6.at (by omega) m6
    have h_14 := hf_6.at (by omega) m7
    have h_15 := hf_6.at (by omega) m8
    have fr_16 : Fr h h_3 b 9 := hf_6.wd (by omega) (by omega)
    have e58 : f_7 58 = kpb1 (S 1) 58 := by rw [ef_7]; exact fcp_out (by omega)
    refine z_aload_n hx dX9_keepBack_68 rfl 0 rfl ?_
    refine z_get hx dX9_keepBack_69 fl_X9_7 h_8 rfl ?_
    refine z_bipush hx dX9_keepBack_72 (by decide) ?_
    refine z_dup2 hx dX9_keepBack_74 rfl rfl ?_
    refine z_iald hx dX9_keepBack_75 hs_5 (by decide) (by decide) ?_
    refine z_iconst hx dX9_keepBack_76 ?_
    refine z_iadd hx dX9_keepBack_77 ?_
    refine z_iastQ hx dX9_keepBack_78 hs_5 (by decide) (by decide) (fun h_17 hs_18 hf_19 => ?_)
    have h_20 := hf_19.at (by omega) h_8
    have h_21 := hf_19.at (by omega) h_9
    have h_22 := hf_19.at (by omega) h_10
    have h_23 := hf_19.at (by omega) h_11
    have h_24 := hf_19.at (by omega) h_12
    have h_25 := hf_19.at (by omega) h_13
    have h_26 := hf_19.at (by omega) h_14
    have h_27 := hf_19.at (by omega) h_15
    have fr_28 := fr_16.tr (hf_19.wd (by omega) (by omega))
    have e_29 : (fup f_7 58 ((f_7 58) + 1)) = kpb (S 1) := by rw [e58, ef_7]; rfl
    rw [e_29] at hs_18
    refine z_vret hx hr dX9_keepBack_79 rfl (q_v (by subst_vars; exact ⟨⟨h_20, hs_18, h_21, h_22, h_23, h_24, h_25, h_26, h_27⟩, fr_28⟩))
  ·
    refine z_aload_n hx dX9_keepBack_12 rfl 0 rfl ?_
    refine z_get hx dX9_keepBack_13 fl_X9_7 m0 rfl ?_
    refine z_bipush hx dX9_keepBack_16 (by decide) ?_
    refine z_aload_n hx dX9_keepBack_18 rfl 0 rfl ?_
    refine z_get hx dX9_keepBack_19 fl_X9_7 m0 rfl ?_
    refine z_bipush hx dX9_keepBack_22 (by decide) ?_
    refine z_sipush hx dX9_keepBack_24 (by decide) ?_
    refine z_cSV (as := [.ref (b + 1), .int (iI 85), .ref (b + 1), .int (iI 59), .int (iI 182)]) (rest := []) hx dX9_keepBack_27 lk_X9_138 wt_X9_bring mo_X9_bring (kX9_bring_eq g m1 (by left; decide) (by decide) (by decide) (by decide) (by decide)) (by decide) rfl rfl (Nat.le_of_ble_eq_true rfl) (fun h_30 q_31 => ?_)
    obtain ⟨hs_32, hf_33⟩ := q_31
    obtain ⟨f_34, ef_34⟩ : ∃ F : Int → Int, F = fcp (S 1) (S 1) 85 59 182 := ⟨_, rfl⟩
    rw [← ef_34] at hs_32
    have h_35 := hf_33.at (by omega) m0
    have h_36 := hf_33.at (by omega) m2
    have h_37 := hf_33.at (by omega) m3
    have h_38 := hf_33.at (by omega) m4
    have h_39 := hf_33.at (by omega) m5
    have h_40 := hf_33.at (by omega) m6
    have h_41 := hf_33.at (by omega) m7
    have h_42 := hf_33.at (by omega) m8
    have fr_43 : Fr h h_30 b 9 := hf_33.wd (by omega) (by omega)
    refine z_aload_n hx dX9_keepBack_30 rfl 0 rfl ?_
    refine z_get hx dX9_keepBack_31 fl_X9_7 h_35 rfl ?_
    refine z_bipush hx dX9_keepBack_34 (by decide) ?_
    refine z_dup2 hx dX9_keepBack_36 rfl rfl ?_
    refine z_iald hx dX9_keepBack_37 hs_32 (by decide) (by decide) ?_
    refine z_iconst hx dX9_keepBack_38 ?_
    refine z_isub hx dX9_keepBack_39 ?_
    refine z_iastQ hx dX9_keepBack_40 hs_32 (by decide) (by decide) (fun h_44 hs_45 hf_46 => ?_)
    have h_47 := hf_46.at (by omega) h_35
    have h_48 := hf_46.at (by omega) h_36
    have h_49 := hf_46.at (by omega) h_37
    have h_50 := hf_46.at (by omega) h_38
    have h_51 := hf_46.at (by omega) h_39
    have h_52 := hf_46.at (by omega) h_40
    have h_53 := hf_46.at (by omega) h_41
    have h_54 := hf_46.at (by omega) h_42
    have fr_55 := fr_43.tr (hf_46.wd (by omega) (by omega))
    have e_56 : (fup f_34 58 ((f_34 58) - 1)) = kpb1 (S 1) := by unfold kpb1; first | (rw [if_neg (by omega)]) | (rw [if_pos (by omega)]; subst_vars; rw [fcp_out (by decide), show S 1 58 - 1 = 7 by omega])
    rw [e_56] at hs_45
    have k58 := kpb1_58 h58
    refine z_aload_n hx dX9_keepBack_41 rfl 0 rfl ?_
    refine z_get hx dX9_keepBack_42 fl_X9_7 h_47 rfl ?_
    refine z_iconst hx dX9_keepBack_45 ?_
    refine z_aload_n hx dX9_keepBack_46 rfl 0 rfl ?_
    refine z_get hx dX9_keepBack_47 fl_X9_7 h_47 rfl ?_
    refine z_bipush hx dX9_keepBack_50 (by decide) ?_
    refine z_bipush hx dX9_keepBack_52 (by decide) ?_
    refine z_aload_n hx dX9_keepBack_54 rfl 0 rfl ?_
    refine z_get hx dX9_keepBack_55 fl_X9_7 h_47 rfl ?_
    refine z_bipush hx dX9_keepBack_58 (by decide) ?_
    refine z_iald hx dX9_keepBack_60 hs_45 (by decide) (by decide) ?_
    refine z_imul hx dX9_keepBack_61 ?_
    refine z_iadd hx dX9_keepBack_62 ?_
    refine z_bipush hx dX9_keepBack_63 (by decide) ?_
    refine z_cSV (as := [.ref (b + 1), .int (iI 0), .ref (b + 1), .int (iI (59 + (26 * (kpb1 (S 1) 58)))), .int (iI 26)]) (rest := []) hx dX9_keepBack_65 lk_X9_138 wt_X9_bring mo_X9_bring (kX9_bring_eq g hs_45 (by right; omega) (by decide) (by omega) (by decide) (by decide)) (by decide) rfl rfl (Nat.le_of_ble_eq_true rfl) (fun h_57 q_58 => ?_)
    obtain ⟨hs_59, hf_60⟩ := q_58
    obtain ⟨f_61, ef_61⟩ : ∃ F : Int → Int, F = fcp (kpb1 (S 1)) (kpb1 (S 1)) 0 (59 + (26 * (kpb1 (S 1) 58))) 26 := ⟨_, rfl⟩
    rw [← ef_61] at hs_59
    have h_62 := hf_60.at (by omega) h_47
    have h_63 := hf_60.at (by omega) h_48
    have h_64 := hf_60.at (by omega) h_49
    have h_65 := hf_60.at (by omega) h_50
    have h_66 := hf_60.at (by omega) h_51
    have h_67 := hf_60.at (by omega) h_52
    have h_68 := hf_60.at (by omega) h_53
    have h_69 := hf_60.at (by omega) h_54
    have fr_70 := fr_55.tr (hf_60.wd (by omega) (by omega))
    have e58 : f_61 58 = kpb1 (S 1) 58 := by rw [ef_61]; exact fcp_out (by omega)
    refine z_aload_n hx dX9_keepBack_68 rfl 0 rfl ?_
    refine z_get hx dX9_keepBack_69 fl_X9_7 h_62 rfl ?_
    refine z_bipush hx dX9_keepBack_72 (by decide) ?_
    refine z_dup2 hx dX9_keepBack_74 rfl rfl ?_
    refine z_iald hx dX9_keepBack_75 hs_59 (by decide) (by decide) ?_
    refine z_iconst hx dX9_keepBack_76 ?_
    refine z_iadd hx dX9_keepBack_77 ?_
    refine z_iastQ hx dX9_keepBack_78 hs_59 (by decide) (by decide) (fun h_71 hs_72 hf_73 => ?_)
    have h_74 := hf_73.at (by omega) h_62
    have h_75 := hf_73.at (by omega) h_63
    have h_76 := hf_73.at (by omega) h_64
    have h_77 := hf_73.at (by omega) h_65
    have h_78 := hf_73.at (by omega) h_66
    have h_79 := hf_73.at (by omega) h_67
    have h_80 := hf_73.at (by omega) h_68
    have h_81 := hf_73.at (by omega) h_69
    have fr_82 := fr_70.tr (hf_73.wd (by omega) (by omega))
    have e_83 : (fup f_61 58 ((f_61 58) + 1)) = kpb (S 1) := by rw [e58, ef_61]; rfl
    rw [e_83] at hs_72
    refine z_vret hx hr dX9_keepBack_79 rfl (q_v (by subst_vars; exact ⟨⟨h_74, hs_72, h_75, h_76, h_77, h_78, h_79, h_80, h_81⟩, fr_82⟩))

set_option maxHeartbeats 4000000 in
set_option maxRecDepth 20000 in
theorem kX9_copyNow (g : Gt) {h : AH} {b : Nat} {S : Nat → Int → Int}  (hM : RM h b S)  : CnV g mX9_copyNow 2 [.ref b] h (QM h b (sst S 2 (cpn (S 1) (S 2)))) := by
  refine Cn.mk (by decide +kernel) (Nat.le_of_ble_eq_true rfl) ?_
  intro x sz hx hr
  show Zj g x (sz, 0, 0) h 0 [(0, .ref b)] []
  obtain ⟨m0, m1, m2, m3, m4, m5, m6, m7, m8⟩ := hM
  refine z_aload_n hx dX9_copyNow_0 rfl 0 rfl ?_
  refine z_get hx dX9_copyNow_1 fl_X9_7 m0 rfl ?_
  refine z_iconst hx dX9_copyNow_4 ?_
  refine z_aload_n hx dX9_copyNow_5 rfl 0 rfl ?_
  refine z_get hx dX9_copyNow_6 fl_X9_13 m0 rfl ?_
  refine z_iconst hx dX9_copyNow_9 ?_
  refine z_bipush hx dX9_copyNow_10 (by decide) ?_
  refine z_cSV (as := [.ref (b + 1), .int (iI 0), .ref (b + 2), .int (iI 0), .int (iI 58)]) (rest := []) hx dX9_copyNow_12 lk_X9_138 wt_X9_bring mo_X9_bring (kX9_bring_ne g m1 m2 (by omega) (by decide) (by decide) (by decide) (by decide)) (by decide) rfl rfl (Nat.le_of_ble_eq_true rfl) (fun h_1 q_2 => ?_)
  obtain ⟨hs_3, hf_4⟩ := q_2
  obtain ⟨f_5, ef_5⟩ : ∃ F : Int → Int, F = fcp (S 1) (S 2) 0 0 58 := ⟨_, rfl⟩
  rw [← ef_5] at hs_3
  have h_6 := hf_4.at (by omega) m0
  have h_7 := hf_4.at (by omega) m1
  have h_8 := hf_4.at (by omega) m3
  have h_9 := hf_4.at (by omega) m4
  have h_10 := hf_4.at (by omega) m5
  have h_11 := hf_4.at (by omega) m6
  have h_12 := hf_4.at (by omega) m7
  have h_13 := hf_4.at (by omega) m8
  have fr_14 : Fr h h_1 b 9 := hf_4.wd (by omega) (by omega)
  refine z_vret hx hr dX9_copyNow_15 rfl (q_v (by unfold cpn; subst_vars; exact ⟨⟨h_6, h_7, hs_3, h_8, h_9, h_10, h_11, h_12, h_13⟩, fr_14⟩))

set_option maxHeartbeats 4000000 in
set_option maxRecDepth 20000 in
theorem kX9_goOn (g : Gt) {h : AH} {b : Nat} {S : Nat → Int → Int} {m : Int} (hM : RM h b S) (g_m : rgI m) (hI2 : inv (S 2)) (hm : 0 ≤ m ∧ m ≤ 40) : CnV g mX9_goOn 6 [.ref b, .int (iI m)] h (QM h b (sst S 2 (gon m (S 2)))) := by
  refine Cn.mk (by decide +kernel) (Nat.le_of_ble_eq_true rfl) ?_
  intro x sz hx hr
  show Zj g x (sz, 0, 0) h 0 [(0, .ref b), (1, .int (iI m))] []
  obtain ⟨m0, m1, m2, m3, m4, m5, m6, m7, m8⟩ := hM
  refine z_iconst hx dX9_goOn_0 ?_
  refine z_istore_n hx dX9_goOn_1 rfl (by decide) [1, 2, 0] (lv' := [(0, .ref b), (1, .int (iI m)), (2, .int (iI 0))]) rfl ?_
  have hL_1 : ∀ (mm : Nat) (v2 : Int) (g1 : Int → Int) (h_2 : AH), (0 ≤ v2 ∧ v2 ≤ m) → (g1 = itI v2 (goyG) (S 2)) → (inv g1 ∧ cfx (S 2) g1) → (h_2 b = some (.inr (.inr (7, [.ref (b + 1), .ref (b + 2), .ref (b + 3), .ref (b + 4), .ref (b + 5), .ref (b + 6), .long (lI (S 0 6)), .long (lI (S 0 7)), .int (iI (S 0 8)), .ref (b + 7), .int (iI (S 0 10)), .int (iI (S 0 11)), .int (iI (S 0 12)), .int (iI (S 0 13)), .long (lI (S 0 14)), .int (iI (S 0 15)), .ref (b + 8)])))) → (h_2 (b + 1) = some (.inl (0, 267, S 1))) → (h_2 (b + 2) = some (.inl (0, 267, g1))) → (h_2 (b + 3) = some (.inl (0, 267, S 3))) → (h_2 (b + 4) = some (.inl (0, 534, S 4))) → (h_2 (b + 5) = some (.inl (2, 2, S 5))) → (h_2 (b + 6) = some (.inl (0, 3, S 6))) → (h_2 (b + 7) = some (.inl (0, 150, S 7))) → (h_2 (b + 8) = some (.inl (0, 4, S 8))) → (Fr h h_2 b 9) → m - v2 < (mm : Int) → Zj g x (sz, 0, 0) h_2 2 [(0, .ref b), (1, .int (iI m)), (2, .int (iI v2))] [] := by
    intro mm
    induction mm with
    | zero => intro v2 g1 h_2 kv eg ig hk_4 hk_5 hg_3 hk_6 hk_7 hk_8 hk_9 hk_10 hk_11 fr_12 hm; exfalso; omega
    | succ mm ih =>
      intro v2 g1 h_2 kv eg ig hk_4 hk_5 hg_3 hk_6 hk_7 hk_8 hk_9 hk_10 hk_11 fr_12 hm
      have ih_13 := ih; clear ih
      have c26 := ig.2 26 (by decide)
      have c37 := ig.2 37 (by decide)
      have c38 := ig.2 38 (by decide)
      have hng := ig.1.n
      have hit : v2 < m → inv (goyG v2 g1) ∧ cfx g1 (goyG v2 g1) := fun hlt => inv_goBy ig.1
      refine z_iload_n hx dX9_goOn_2 rfl 2 rfl ?_
      refine z_iload_n hx dX9_goOn_3 rfl 1 rfl ?_
      refine z_icmp_ge (tgt := 20) hx dX9_goOn_4 (by decide) (by omega) (by omega) (fun c_14 => ?_) (fun c_14 => ?_)
      ·
        refine z_vret hx hr dX9_goOn_20 rfl (q_v (by unfold gon; rw [← show v2 = m by omega, ← eg]; exact ⟨⟨hk_4, hk_5, hg_3, hk_6, hk_7, hk_8, hk_9, hk_10, hk_11⟩, fr_12⟩))
      ·
        refine z_aload_n hx dX9_goOn_7 rfl 0 rfl ?_
        refine z_get hx dX9_goOn_8 fl_X9_13 hk_4 rfl ?_
        refine z_cSV (as := [.ref (b + 2)]) (rest := []) hx dX9_goOn_11 lk_X9_187 wt_X9_goBy mo_X9_goBy (kX9_goBy g  hg_3 ig.1 ) (by decide) rfl rfl (Nat.le_of_ble_eq_true rfl) (fun h_15 q_16 => ?_)
        obtain ⟨hs_17, hf_18⟩ := q_16
        obtain ⟨f_19, ef_19⟩ : ∃ F : Int → Int, F = goBy g1 := ⟨_, rfl⟩
        rw [← ef_19] at hs_17
        have iv_20 := inv_goBy ig.1
        rw [← ef_19] at iv_20
        have h_21 := hf_18.at (by omega) hk_4
        have h_22 := hf_18.at (by omega) hk_5
        have h_23 := hf_18.at (by omega) hk_6
        have h_24 := hf_18.at (by omega) hk_7
        have h_25 := hf_18.at (by omega) hk_8
        have h_26 := hf_18.at (by omega) hk_9
        have h_27 := hf_18.at (by omega) hk_10
        have h_28 := hf_18.at (by omega) hk_11
        have fr_29 := fr_12.tr (hf_18.wd (by omega) (by omega))
        refine z_iinc hx dX9_goOn_14 (by decide) 2 rfl [1, 2, 0] (lv' := [(0, .ref b), (1, .int (iI m)), (2, .int (iI (v2 + 1)))]) rfl ?_
        refine z_goto (tgt := 2) hx dX9_goOn_17 (by decide) ?_
        have ec : f_19 = goyG v2 g1 := by unfold goyG; subst_vars; rfl
        exact ih_13 _ f_19 _ (by omega) (by rw [itI_s _ _ (by omega), ← eg]; exact ec) (by rw [ec]; exact ⟨(hit (by omega)).1, ig.2.tr (hit (by omega)).2⟩) h_21 h_22 hs_17 h_23 h_24 h_25 h_26 h_27 h_28 fr_29 (by omega)
  exact hL_1 ((m - 0) + 1).toNat _ (S 2) _ (by omega) (by rw [itI_0 _ _ rfl]) (by exact ⟨hI2, cfx.rf⟩) m0 m1 m2 m3 m4 m5 m6 m7 m8 Fr.rf (by omega)

set_option maxHeartbeats 4000000 in
set_option maxRecDepth 20000 in
theorem kX9_hour (g : Gt) {h : AH} {b : Nat} {S : Nat → Int → Int} {n : Int} (hM : RM h b S) (hV : invM S) (g_n : rgI n) : CnJ g mX9_hour 7 [.ref b, .int (iI n)] h (hourA S n).1 (QM h b (hourA S n).2) := by
  refine Cn.mk (by decide +kernel) (Nat.le_of_ble_eq_true rfl) ?_
  intro x sz hx hr
  show Zj g x (sz, 0, 0) h 0 [(0, .ref b), (1, .int (iI n))] []
  obtain ⟨m0, m1, m2, m3, m4, m5, m6, m7, m8⟩ := hM
  have hN := hV.1
  have hI := hN.1
  have hn := hI.n
  have h58 : 0 ≤ S 1 58 ∧ S 1 58 ≤ 8 := ⟨(hI.rg 58 (by decide)).1, hN.2.2.2.1⟩
  have h39 : 0 ≤ S 1 39 ∧ S 1 39 ≤ 6 := ⟨(hI.rg 39 (by decide)).1, hN.2.2.1⟩
  have h0 : 0 ≤ S 1 0 ∧ S 1 0 ≤ 999 := ⟨hN.2.1.2, hN.2.1.1⟩
  refine z_iload_n hx dX9_hour_0 rfl 1 rfl ?_
  refine z_iconst hx dX9_hour_1 ?_
  refine z_bipush hx dX9_hour_2 (by decide) ?_
  refine z_cSI (as := [.int (iI n), .int (iI 1), .int (iI 30)]) (rest := []) hx dX9_hour_4 lk_X9_43 wt_X9_in mo_X9_in (kX9_in g (a := n) (b := 1) (c := 30) (by omega) (by omega) (by omega)) (by decide) rfl rfl (Nat.le_of_ble_eq_true rfl) ?_
  refine z_ifne_b (tgt := 15) hx dX9_hour_7 (by decide)  (fun c_1 => ?_) (fun c_1 => ?_)
  ·
    refine z_aload_n hx dX9_hour_15 rfl 0 rfl ?_
    refine z_cVV (as := []) (rest := []) hx dX9_hour_16 lk_X9_184 wm_X9_keepBack wv_X9_keepBack (rcv_obj hx m0 rfl) mo_X9_keepBack (kX9_keepBack g (S := S)  ⟨m0, m1, m2, m3, m4, m5, m6, m7, m8⟩ (by omega)) (by decide) rfl rfl (Nat.le_of_ble_eq_true rfl) (fun h_2 q_3 => ?_)
    obtain ⟨⟨p_4, p_5, p_6, p_7, p_8, p_9, p_10, p_11, p_12⟩, hf_13⟩ := q_3
    have m_14 : h_2 b = some (.inr (.inr (7, [.ref (b + 1), .ref (b + 2), .ref (b + 3), .ref (b + 4), .ref (b + 5), .ref (b + 6), .long (lI (S 0 6)), .long (lI (S 0 7)), .int (iI (S 0 8)), .ref (b + 7), .int (iI (S 0 10)), .int (iI (S 0 11)), .int (iI (S 0 12)), .int (iI (S 0 13)), .long (lI (S 0 14)), .int (iI (S 0 15)), .ref (b + 8)]))) := p_4
    have m_15 : h_2 (b + 1) = some (.inl (0, 267, kpb ((S 1)))) := p_5
    have m_16 : h_2 (b + 2) = some (.inl (0, 267, S 2)) := p_6
    have m_17 : h_2 (b + 3) = some (.inl (0, 267, S 3)) := p_7
    have m_18 : h_2 (b + 4) = some (.inl (0, 534, S 4)) := p_8
    have m_19 : h_2 (b + 5) = some (.inl (2, 2, S 5)) := p_9
    have m_20 : h_2 (b + 6) = some (.inl (0, 3, S 6)) := p_10
    have m_21 : h_2 (b + 7) = some (.inl (0, 150, S 7)) := p_11
    have m_22 : h_2 (b + 8) = some (.inl (0, 4, S 8)) := p_12
    obtain ⟨f_23, ef_23⟩ : ∃ F : Int → Int, F = kpb ((S 1)) := ⟨_, rfl⟩
    rw [← ef_23] at m_15
    have iv_24 := And.intro (inv_kpb hI (by omega) (by omega)) True.intro
    rw [← ef_23] at iv_24
    have fr_25 : Fr h h_2 b 9 := hf_13.wd (by omega) (by omega)
    have e0k : f_23 0 = S 1 0 := by rw [ef_23]; exact kpb_lo h58 (by decide)
    have ivk := iv_24.1
    refine z_iconst hx dX9_hour_19 ?_
    refine z_istore_n hx dX9_hour_20 rfl (by decide) [1, 2, 0] (lv' := [(0, .ref b), (1, .int (iI n)), (2, .int (iI 0))]) rfl ?_
    have hL_26 : ∀ (mm : Nat) (v2 : Int) (g1 : Int → Int) (h_27 : AH), (0 ≤ v2 ∧ v2 ≤ n) → (hrN (n - v2).toNat g1 = hrN n.toNat (kpb (S 1))) → (inv g1) → (0 ≤ g1 0 ∧ g1 0 ≤ 999) → (h_27 b = some (.inr (.inr (7, [.ref (b + 1), .ref (b + 2), .ref (b + 3), .ref (b + 4), .ref (b + 5), .ref (b + 6), .long (lI (S 0 6)), .long (lI (S 0 7)), .int (iI (S 0 8)), .ref (b + 7), .int (iI (S 0 10)), .int (iI (S 0 11)), .int (iI (S 0 12)), .int (iI (S 0 13)), .long (lI (S 0 14)), .int (iI (S 0 15)), .ref (b + 8)])))) → (h_27 (b + 1) = some (.inl (0, 267, g1))) → (h_27 (b + 2) = some (.inl (0, 267, S 2))) → (h_27 (b + 3) = some (.inl (0, 267, S 3))) → (h_27 (b + 4) = some (.inl (0, 534, S 4))) → (h_27 (b + 5) = some (.inl (2, 2, S 5))) → (h_27 (b + 6) = some (.inl (0, 3, S 6))) → (h_27 (b + 7) = some (.inl (0, 150, S 7))) → (h_27 (b + 8) = some (.inl (0, 4, S 8))) → (Fr h h_27 b 9) → n - v2 < (mm : Int) → Zj g x (sz, 0, 0) h_27 21 [(0, .ref b), (1, .int (iI n)), (2, .int (iI v2))] [] := by
      intro mm
      induction mm with
      | zero => intro v2 g1 h_27 kv eg ig i0 hk_29 hg_28 hk_30 hk_31 hk_32 hk_33 hk_34 hk_35 hk_36 fr_37 hm; exfalso; omega
      | succ mm ih =>
        intro v2 g1 h_27 kv eg ig i0 hk_29 hg_28 hk_30 hk_31 hk_32 hk_33 hk_34 hk_35 hk_36 fr_37 hm
        have ih_38 := ih; clear ih
        refine z_iload_n hx dX9_hour_21 rfl 2 rfl ?_
        refine z_iload_n hx dX9_hour_22 rfl 1 rfl ?_
        refine z_icmp_ge (tgt := 51) hx dX9_hour_23 (by decide) (by omega) (by omega) (fun c_39 => ?_) (fun c_39 => ?_)
        ·
          have e9 : g1 = hrN n.toNat (kpb (S 1)) := by rw [← eg]; first | (rw [show (n - v2).toNat = 0 by omega]; rfl) | exact (hrN_b _ _ (by omega)).symm
          refine z_aload_n hx dX9_hour_51 rfl 0 rfl ?_
          refine z_get hx dX9_hour_52 fl_X9_7 hk_29 rfl ?_
          refine z_cSI (as := [.ref (b + 1)]) (rest := []) hx dX9_hour_55 lk_X9_190 wt_X9_takenIn mo_X9_takenIn (kX9_takenIn g  hg_28 ig ) (by decide) rfl rfl (Nat.le_of_ble_eq_true rfl) ?_
          have f_40 := tkn_rg ig
          refine z_cSI (as := [.int (iI (tkn g1))]) (rest := []) hx dX9_hour_58 lk_X9_155 wt_X9_bits mo_X9_bits (kX9_bits g (v := (tkn g1)) (by omega)) (by decide) rfl rfl (Nat.le_of_ble_eq_true rfl) ?_
          have f_41 := popc_rg (v := (tkn g1))
          refine z_iret hx hr dX9_hour_61 rfl rfl (q_j (by unfold hourA; (repeat (first | rw [if_pos (by omega)] | rw [if_neg (by omega)])); (try rw [e9]); (try rfl)) (by unfold hourA; (try rw [← e9]); (repeat (first | rw [if_pos (by omega)] | rw [if_neg (by omega)])); exact ⟨⟨hk_29, hg_28, hk_30, hk_31, hk_32, hk_33, hk_34, hk_35, hk_36⟩, fr_37⟩))
        ·
          refine z_aload_n hx dX9_hour_26 rfl 0 rfl ?_
          refine z_get hx dX9_hour_27 fl_X9_7 hk_29 rfl ?_
          refine z_iconst hx dX9_hour_30 ?_
          refine z_iald hx dX9_hour_31 hg_28 (by decide) (by decide) ?_
          refine z_sipush hx dX9_hour_32 (by decide) ?_
          refine z_icmp_ge (tgt := 51) hx dX9_hour_35 (by decide) (by omega) (by decide) (fun c_42 => ?_) (fun c_42 => ?_)
          ·
            have e9 : g1 = hrN n.toNat (kpb (S 1)) := by rw [← eg]; first | (rw [show (n - v2).toNat = 0 by omega]; rfl) | exact (hrN_b _ _ (by omega)).symm
            refine z_aload_n hx dX9_hour_51 rfl 0 rfl ?_
            refine z_get hx dX9_hour_52 fl_X9_7 hk_29 rfl ?_
            refine z_cSI (as := [.ref (b + 1)]) (rest := []) hx dX9_hour_55 lk_X9_190 wt_X9_takenIn mo_X9_takenIn (kX9_takenIn g  hg_28 ig ) (by decide) rfl rfl (Nat.le_of_ble_eq_true rfl) ?_
            have f_43 := tkn_rg ig
            refine z_cSI (as := [.int (iI (tkn g1))]) (rest := []) hx dX9_hour_58 lk_X9_155 wt_X9_bits mo_X9_bits (kX9_bits g (v := (tkn g1)) (by omega)) (by decide) rfl rfl (Nat.le_of_ble_eq_true rfl) ?_
            have f_44 := popc_rg (v := (tkn g1))
            refine z_iret hx hr dX9_hour_61 rfl rfl (q_j (by unfold hourA; (repeat (first | rw [if_pos (by omega)] | rw [if_neg (by omega)])); (try rw [e9]); (try rfl)) (by unfold hourA; (try rw [← e9]); (repeat (first | rw [if_pos (by omega)] | rw [if_neg (by omega)])); exact ⟨⟨hk_29, hg_28, hk_30, hk_31, hk_32, hk_33, hk_34, hk_35, hk_36⟩, fr_37⟩))
          ·
            refine z_aload_n hx dX9_hour_38 rfl 0 rfl ?_
            refine z_get hx dX9_hour_39 fl_X9_7 hk_29 rfl ?_
            refine z_cSV (as := [.ref (b + 1)]) (rest := []) hx dX9_hour_42 lk_X9_187 wt_X9_goBy mo_X9_goBy (kX9_goBy g  hg_28 ig ) (by decide) rfl rfl (Nat.le_of_ble_eq_true rfl) (fun h_45 q_46 => ?_)
            obtain ⟨hs_47, hf_48⟩ := q_46
            obtain ⟨f_49, ef_49⟩ : ∃ F : Int → Int, F = goBy g1 := ⟨_, rfl⟩
            rw [← ef_49] at hs_47
            have iv_50 := inv_goBy ig
            rw [← ef_49] at iv_50
            have h_51 := hf_48.at (by omega) hk_29
            have h_52 := hf_48.at (by omega) hk_30
            have h_53 := hf_48.at (by omega) hk_31
            have h_54 := hf_48.at (by omega) hk_32
            have h_55 := hf_48.at (by omega) hk_33
            have h_56 := hf_48.at (by omega) hk_34
            have h_57 := hf_48.at (by omega) hk_35
            have h_58 := hf_48.at (by omega) hk_36
            have fr_59 := fr_37.tr (hf_48.wd (by omega) (by omega))
            have eG := ef_49
            have igG : inv f_49 := iv_50.1
            have e0G : f_49 0 = g1 0 + 1 := by rw [eG]; exact goBy_0 g1
            refine z_iinc hx dX9_hour_45 (by decide) 2 rfl [1, 2, 0] (lv' := [(0, .ref b), (1, .int (iI n)), (2, .int (iI (v2 + 1)))]) rfl ?_
            refine z_goto (tgt := 21) hx dX9_hour_48 (by decide) ?_
            exact ih_38 _ f_49 _ (by omega) (by rw [← eg, hrN_i (k := v2) (f := g1) (by omega) (by omega), ← eG]) (by exact igG) (by omega) h_51 hs_47 h_52 h_53 h_54 h_55 h_56 h_57 h_58 fr_59 (by omega)
    exact hL_26 ((n - 0) + 1).toNat _ f_23 _ (by omega) (by rw [show n - 0 = n by omega]; subst_vars; rfl) (by exact ivk) (by omega) m_14 m_15 m_16 m_17 m_18 m_19 m_20 m_21 m_22 fr_25 (by omega)
  ·
    refine z_aload_n hx dX9_hour_10 rfl 0 rfl ?_
    refine z_cVJ (as := []) (rest := []) hx dX9_hour_11 lk_X9_55 wm_X9_bad wv_X9_bad (rcv_obj hx m0 rfl) mo_X9_bad (kX9_bad g  ⟨m0, m1, m2, m3, m4, m5, m6, m7, m8⟩) (by decide) rfl rfl (Nat.le_of_ble_eq_true rfl) (fun h_60 q_61 => ?_)
    have fr_62 : Fr h h_60 b 9 := q_61.2.wd (by omega) (by omega)
    refine z_iret hx hr dX9_hour_14 rfl rfl (q_j (by unfold hourA; (repeat (first | rw [if_pos (by omega)] | rw [if_neg (by omega)])); (try rw [e9]); (try rfl)) (by unfold hourA; (try rw [← e9]); (repeat (first | rw [if_pos (by omega)] | rw [if_neg (by omega)])); exact ⟨q_61.1, fr_62⟩))

set_option maxHeartbeats 4000000 in
set_option maxRecDepth 20000 in
theorem kX9_darn (g : Gt) {h : AH} {b : Nat} {S : Nat → Int → Int} {k : Int} {n : Int} (hM : RM h b S) (hV : invM S) (g_k : rgI k) (g_n : rgI n) : CnJ g mX9_darn 4 [.ref b, .int (iI k), .int (iI n)] h (darnA S k n).1 (QM h b (darnA S k n).2) := by
  refine Cn.mk (by decide +kernel) (Nat.le_of_ble_eq_true rfl) ?_
  intro x sz hx hr
  show Zj g x (sz, 0, 0) h 0 [(0, .ref b), (1, .int (iI k)), (2, .int (iI n))] []
  obtain ⟨m0, m1, m2, m3, m4, m5, m6, m7, m8⟩ := hM
  have hN := hV.1
  have hI := hN.1
  have hn := hI.n
  have h58 : 0 ≤ S 1 58 ∧ S 1 58 ≤ 8 := ⟨(hI.rg 58 (by decide)).1, hN.2.2.2.1⟩
  have h39 : 0 ≤ S 1 39 ∧ S 1 39 ≤ 6 := ⟨(hI.rg 39 (by decide)).1, hN.2.2.1⟩
  have h0 : 0 ≤ S 1 0 ∧ S 1 0 ≤ 999 := ⟨hN.2.1.2, hN.2.1.1⟩
  refine z_aload_n hx dX9_darn_0 rfl 0 rfl ?_
  refine z_iload_n hx dX9_darn_1 rfl 1 rfl ?_
  refine z_cVI (as := [.int (iI k)]) (rest := []) hx dX9_darn_2 lk_X9_194 wm_X9_isCosy wv_X9_isCosy (rcv_obj hx m0 rfl) mo_X9_isCosy (kX9_isCosy g (S := S) ⟨m0, m1, m2, m3, m4, m5, m6, m7, m8⟩ hI (by first | exact g_k | omega)) (by decide) rfl rfl (Nat.le_of_ble_eq_true rfl) ?_
  refine z_ifeq_b (tgt := 18) hx dX9_darn_5 (by decide)  (fun c_1 => ?_) (fun c_1 => ?_)
  ·
    refine z_aload_n hx dX9_darn_18 rfl 0 rfl ?_
    refine z_cVJ (as := []) (rest := []) hx dX9_darn_19 lk_X9_55 wm_X9_bad wv_X9_bad (rcv_obj hx m0 rfl) mo_X9_bad (kX9_bad g  ⟨m0, m1, m2, m3, m4, m5, m6, m7, m8⟩) (by decide) rfl rfl (Nat.le_of_ble_eq_true rfl) (fun h_2 q_3 => ?_)
    have fr_4 : Fr h h_2 b 9 := q_3.2.wd (by omega) (by omega)
    refine z_iret hx hr dX9_darn_22 rfl rfl (q_j (by unfold darnA; (repeat (first | rw [if_pos (by omega)] | rw [if_neg (by omega)])); (try exact fup_s _ _ _); (try rfl)) (by unfold darnA; (repeat (first | rw [if_pos (by omega)] | rw [if_neg (by omega)])); exact ⟨q_3.1, fr_4⟩))
  ·
    refine z_iload_n hx dX9_darn_8 rfl 2 rfl ?_
    refine z_iconst hx dX9_darn_9 ?_
    refine z_bipush hx dX9_darn_10 (by decide) ?_
    refine z_cSI (as := [.int (iI n), .int (iI 1), .int (iI 40)]) (rest := []) hx dX9_darn_12 lk_X9_43 wt_X9_in mo_X9_in (kX9_in g (a := n) (b := 1) (c := 40) (by omega) (by omega) (by omega)) (by decide) rfl rfl (Nat.le_of_ble_eq_true rfl) ?_
    refine z_ifne_b (tgt := 23) hx dX9_darn_15 (by decide)  (fun c_5 => ?_) (fun c_5 => ?_)
    ·
      refine z_aload_n hx dX9_darn_23 rfl 0 rfl ?_
      refine z_cVV (as := []) (rest := []) hx dX9_darn_24 lk_X9_184 wm_X9_keepBack wv_X9_keepBack (rcv_obj hx m0 rfl) mo_X9_keepBack (kX9_keepBack g (S := S)  ⟨m0, m1, m2, m3, m4, m5, m6, m7, m8⟩ (by omega)) (by decide) rfl rfl (Nat.le_of_ble_eq_true rfl) (fun h_6 q_7 => ?_)
      obtain ⟨⟨p_8, p_9, p_10, p_11, p_12, p_13, p_14, p_15, p_16⟩, hf_17⟩ := q_7
      have m_18 : h_6 b = some (.inr (.inr (7, [.ref (b + 1), .ref (b + 2), .ref (b + 3), .ref (b + 4), .ref (b + 5), .ref (b + 6), .long (lI (S 0 6)), .long (lI (S 0 7)), .int (iI (S 0 8)), .ref (b + 7), .int (iI (S 0 10)), .int (iI (S 0 11)), .int (iI (S 0 12)), .int (iI (S 0 13)), .long (lI (S 0 14)), .int (iI (S 0 15)), .ref (b + 8)]))) := p_8
      have m_19 : h_6 (b + 1) = some (.inl (0, 267, kpb ((S 1)))) := p_9
      have m_20 : h_6 (b + 2) = some (.inl (0, 267, S 2)) := p_10
      have m_21 : h_6 (b + 3) = some (.inl (0, 267, S 3)) := p_11
      have m_22 : h_6 (b + 4) = some (.inl (0, 534, S 4)) := p_12
      have m_23 : h_6 (b + 5) = some (.inl (2, 2, S 5)) := p_13
      have m_24 : h_6 (b + 6) = some (.inl (0, 3, S 6)) := p_14
      have m_25 : h_6 (b + 7) = some (.inl (0, 150, S 7)) := p_15
      have m_26 : h_6 (b + 8) = some (.inl (0, 4, S 8)) := p_16
      obtain ⟨f_27, ef_27⟩ : ∃ F : Int → Int, F = kpb ((S 1)) := ⟨_, rfl⟩
      rw [← ef_27] at m_19
      have iv_28 := And.intro (inv_kpb hI (by omega) (by omega)) True.intro
      rw [← ef_27] at iv_28
      have fr_29 : Fr h h_6 b 9 := hf_17.wd (by omega) (by omega)
      have ek : f_27 = kpb (S 1) := ef_27
      have e6k : f_27 (6 + k) = S 1 (6 + k) := by rw [ek]; exact kpb_lo h58 (by omega)
      have e1k : f_27 (1 + k) = S 1 (1 + k) := by rw [ek]; exact kpb_lo h58 (by omega)
      have hkk := hI.k k (by omega)
      have e26k : f_27 26 = S 1 26 := by rw [ek]; exact kpb_lo h58 (by omega)
      refine z_aload_n hx dX9_darn_27 rfl 0 rfl ?_
      refine z_get hx dX9_darn_28 fl_X9_7 m_18 rfl ?_
      refine z_bipush hx dX9_darn_31 (by decide) ?_
      refine z_iload_n hx dX9_darn_33 rfl 1 rfl ?_
      refine z_iadd hx dX9_darn_34 ?_
      refine z_aload_n hx dX9_darn_35 rfl 0 rfl ?_
      refine z_get hx dX9_darn_36 fl_X9_7 m_18 rfl ?_
      refine z_bipush hx dX9_darn_39 (by decide) ?_
      refine z_iload_n hx dX9_darn_41 rfl 1 rfl ?_
      refine z_iadd hx dX9_darn_42 ?_
      refine z_iald hx dX9_darn_43 m_19 (by omega) (by decide) ?_
      have rg_30 := iv_28.1.rg ((6 + k)) (by omega)
      refine z_iload_n hx dX9_darn_44 rfl 2 rfl ?_
      refine z_icmp_le (tgt := 62) hx dX9_darn_45 (by decide) (by omega) (by omega) (fun c_31 => ?_) (fun c_31 => ?_)
      ·
        refine z_iconst hx dX9_darn_62 ?_
        refine z_iastQ hx dX9_darn_63 m_19 (by omega) (by decide) (fun h_32 hs_33 hf_34 => ?_)
        have h_35 := hf_34.at (by omega) m_18
        have h_36 := hf_34.at (by omega) m_20
        have h_37 := hf_34.at (by omega) m_21
        have h_38 := hf_34.at (by omega) m_22
        have h_39 := hf_34.at (by omega) m_23
        have h_40 := hf_34.at (by omega) m_24
        have h_41 := hf_34.at (by omega) m_25
        have h_42 := hf_34.at (by omega) m_26
        have fr_43 := fr_29.tr (hf_34.wd (by omega) (by omega))
        have e_44 : (fup f_27 (6 + k) 0) = fup (kpb (S 1)) (6 + k) (drn (S 1) k n) := by rw [← ek]; congr 1; unfold drn; first | (rw [if_pos (by omega)]; omega) | rw [if_neg (by omega)]
        rw [e_44] at hs_33
        refine z_aload_n hx dX9_darn_64 rfl 0 rfl ?_
        refine z_get hx dX9_darn_65 fl_X9_7 h_35 rfl ?_
        refine z_bipush hx dX9_darn_68 (by decide) ?_
        refine z_iload_n hx dX9_darn_70 rfl 1 rfl ?_
        refine z_iadd hx dX9_darn_71 ?_
        refine z_iald hx dX9_darn_72 hs_33 (by omega) (by decide) ?_
        refine z_iret hx hr dX9_darn_73 rfl rfl (q_j (by unfold darnA; (repeat (first | rw [if_pos (by omega)] | rw [if_neg (by omega)])); (try exact fup_s _ _ _); (try rfl)) (by unfold darnA; (repeat (first | rw [if_pos (by omega)] | rw [if_neg (by omega)])); exact ⟨⟨h_35, hs_33, h_36, h_37, h_38, h_39, h_40, h_41, h_42⟩, fr_43⟩))
      ·
        refine z_aload_n hx dX9_darn_48 rfl 0 rfl ?_
        refine z_get hx dX9_darn_49 fl_X9_7 m_18 rfl ?_
        refine z_bipush hx dX9_darn_52 (by decide) ?_
        refine z_iload_n hx dX9_darn_54 rfl 1 rfl ?_
        refine z_iadd hx dX9_darn_55 ?_
        refine z_iald hx dX9_darn_56 m_19 (by omega) (by decide) ?_
        have rg_45 := iv_28.1.rg ((6 + k)) (by omega)
        refine z_iload_n hx dX9_darn_57 rfl 2 rfl ?_
        refine z_isub hx dX9_darn_58 ?_
        refine z_goto (tgt := 63) hx dX9_darn_59 (by decide) ?_
        refine z_iastQ hx dX9_darn_63 m_19 (by omega) (by decide) (fun h_46 hs_47 hf_48 => ?_)
        have h_49 := hf_48.at (by omega) m_18
        have h_50 := hf_48.at (by omega) m_20
        have h_51 := hf_48.at (by omega) m_21
        have h_52 := hf_48.at (by omega) m_22
        have h_53 := hf_48.at (by omega) m_23
        have h_54 := hf_48.at (by omega) m_24
        have h_55 := hf_48.at (by omega) m_25
        have h_56 := hf_48.at (by omega) m_26
        have fr_57 := fr_29.tr (hf_48.wd (by omega) (by omega))
        have e_58 : (fup f_27 (6 + k) ((f_27 (6 + k)) - n)) = fup (kpb (S 1)) (6 + k) (drn (S 1) k n) := by rw [← ek]; congr 1; unfold drn; first | (rw [if_pos (by omega)]; omega) | rw [if_neg (by omega)]
        rw [e_58] at hs_47
        refine z_aload_n hx dX9_darn_64 rfl 0 rfl ?_
        refine z_get hx dX9_darn_65 fl_X9_7 h_49 rfl ?_
        refine z_bipush hx dX9_darn_68 (by decide) ?_
        refine z_iload_n hx dX9_darn_70 rfl 1 rfl ?_
        refine z_iadd hx dX9_darn_71 ?_
        refine z_iald hx dX9_darn_72 hs_47 (by omega) (by decide) ?_
        refine z_iret hx hr dX9_darn_73 rfl rfl (q_j (by unfold darnA; (repeat (first | rw [if_pos (by omega)] | rw [if_neg (by omega)])); (try exact fup_s _ _ _); (try rfl)) (by unfold darnA; (repeat (first | rw [if_pos (by omega)] | rw [if_neg (by omega)])); exact ⟨⟨h_49, hs_47, h_50, h_51, h_52, h_53, h_54, h_55, h_56⟩, fr_57⟩))
    ·
      refine z_aload_n hx dX9_darn_18 rfl 0 rfl ?_
      refine z_cVJ (as := []) (rest := []) hx dX9_darn_19 lk_X9_55 wm_X9_bad wv_X9_bad (rcv_obj hx m0 rfl) mo_X9_bad (kX9_bad g  ⟨m0, m1, m2, m3, m4, m5, m6, m7, m8⟩) (by decide) rfl rfl (Nat.le_of_ble_eq_true rfl) (fun h_59 q_60 => ?_)
      have fr_61 : Fr h h_59 b 9 := q_60.2.wd (by omega) (by omega)
      refine z_iret hx hr dX9_darn_22 rfl rfl (q_j (by unfold darnA; (repeat (first | rw [if_pos (by omega)] | rw [if_neg (by omega)])); (try exact fup_s _ _ _); (try rfl)) (by unfold darnA; (repeat (first | rw [if_pos (by omega)] | rw [if_neg (by omega)])); exact ⟨q_60.1, fr_61⟩))

set_option maxHeartbeats 4000000 in
set_option maxRecDepth 20000 in
theorem kX9_carry (g : Gt) {h : AH} {b : Nat} {S : Nat → Int → Int} {k : Int} {c : Int} (hM : RM h b S) (hV : invM S) (g_k : rgI k) (g_c : rgI c) : CnJ g mX9_carry 4 [.ref b, .int (iI k), .int (iI c)] h (carryA S k c).1 (QM h b (carryA S k c).2) := by
  refine Cn.mk (by decide +kernel) (Nat.le_of_ble_eq_true rfl) ?_
  intro x sz hx hr
  show Zj g x (sz, 0, 0) h 0 [(0, .ref b), (1, .int (iI k)), (2, .int (iI c))] []
  obtain ⟨m0, m1, m2, m3, m4, m5, m6, m7, m8⟩ := hM
  have hN := hV.1
  have hI := hN.1
  have hn := hI.n
  have h58 : 0 ≤ S 1 58 ∧ S 1 58 ≤ 8 := ⟨(hI.rg 58 (by decide)).1, hN.2.2.2.1⟩
  have h39 : 0 ≤ S 1 39 ∧ S 1 39 ≤ 6 := ⟨(hI.rg 39 (by decide)).1, hN.2.2.1⟩
  have h0 : 0 ≤ S 1 0 ∧ S 1 0 ≤ 999 := ⟨hN.2.1.2, hN.2.1.1⟩
  refine z_aload_n hx dX9_carry_0 rfl 0 rfl ?_
  refine z_iload_n hx dX9_carry_1 rfl 1 rfl ?_
  refine z_cVI (as := [.int (iI k)]) (rest := []) hx dX9_carry_2 lk_X9_194 wm_X9_isCosy wv_X9_isCosy (rcv_obj hx m0 rfl) mo_X9_isCosy (kX9_isCosy g (S := S) ⟨m0, m1, m2, m3, m4, m5, m6, m7, m8⟩ hI (by first | exact g_k | omega)) (by decide) rfl rfl (Nat.le_of_ble_eq_true rfl) ?_
  refine z_ifeq_b (tgt := 15) hx dX9_carry_5 (by decide)  (fun c_1 => ?_) (fun c_1 => ?_)
  ·
    refine z_aload_n hx dX9_carry_15 rfl 0 rfl ?_
    refine z_cVJ (as := []) (rest := []) hx dX9_carry_16 lk_X9_55 wm_X9_bad wv_X9_bad (rcv_obj hx m0 rfl) mo_X9_bad (kX9_bad g  ⟨m0, m1, m2, m3, m4, m5, m6, m7, m8⟩) (by decide) rfl rfl (Nat.le_of_ble_eq_true rfl) (fun h_2 q_3 => ?_)
    have fr_4 : Fr h h_2 b 9 := q_3.2.wd (by omega) (by omega)
    refine z_iret hx hr dX9_carry_19 rfl rfl (q_j (by unfold carryA; (repeat (first | rw [if_pos (by omega)] | rw [if_neg (by omega)])); (try exact e1k); (try rfl)) (by unfold carryA; subst_vars; (repeat (first | rw [if_pos (by omega)] | rw [if_neg (by omega)])); exact ⟨q_3.1, fr_4⟩))
  ·
    refine z_iload_n hx dX9_carry_8 rfl 2 rfl ?_
    refine z_cSI (as := [.int (iI c)]) (rest := []) hx dX9_carry_9 lk_X9_51 wt_X9_isCell mo_X9_isCell (kX9_isCell g (c := c) (by omega)) (by decide) rfl rfl (Nat.le_of_ble_eq_true rfl) ?_
    refine z_ifne_b (tgt := 20) hx dX9_carry_12 (by decide)  (fun c_5 => ?_) (fun c_5 => ?_)
    ·
      refine z_aload_n hx dX9_carry_20 rfl 0 rfl ?_
      refine z_cVV (as := []) (rest := []) hx dX9_carry_21 lk_X9_184 wm_X9_keepBack wv_X9_keepBack (rcv_obj hx m0 rfl) mo_X9_keepBack (kX9_keepBack g (S := S)  ⟨m0, m1, m2, m3, m4, m5, m6, m7, m8⟩ (by omega)) (by decide) rfl rfl (Nat.le_of_ble_eq_true rfl) (fun h_6 q_7 => ?_)
      obtain ⟨⟨p_8, p_9, p_10, p_11, p_12, p_13, p_14, p_15, p_16⟩, hf_17⟩ := q_7
      have m_18 : h_6 b = some (.inr (.inr (7, [.ref (b + 1), .ref (b + 2), .ref (b + 3), .ref (b + 4), .ref (b + 5), .ref (b + 6), .long (lI (S 0 6)), .long (lI (S 0 7)), .int (iI (S 0 8)), .ref (b + 7), .int (iI (S 0 10)), .int (iI (S 0 11)), .int (iI (S 0 12)), .int (iI (S 0 13)), .long (lI (S 0 14)), .int (iI (S 0 15)), .ref (b + 8)]))) := p_8
      have m_19 : h_6 (b + 1) = some (.inl (0, 267, kpb ((S 1)))) := p_9
      have m_20 : h_6 (b + 2) = some (.inl (0, 267, S 2)) := p_10
      have m_21 : h_6 (b + 3) = some (.inl (0, 267, S 3)) := p_11
      have m_22 : h_6 (b + 4) = some (.inl (0, 534, S 4)) := p_12
      have m_23 : h_6 (b + 5) = some (.inl (2, 2, S 5)) := p_13
      have m_24 : h_6 (b + 6) = some (.inl (0, 3, S 6)) := p_14
      have m_25 : h_6 (b + 7) = some (.inl (0, 150, S 7)) := p_15
      have m_26 : h_6 (b + 8) = some (.inl (0, 4, S 8)) := p_16
      obtain ⟨f_27, ef_27⟩ : ∃ F : Int → Int, F = kpb ((S 1)) := ⟨_, rfl⟩
      rw [← ef_27] at m_19
      have iv_28 := And.intro (inv_kpb hI (by omega) (by omega)) True.intro
      rw [← ef_27] at iv_28
      have fr_29 : Fr h h_6 b 9 := hf_17.wd (by omega) (by omega)
      have ek : f_27 = kpb (S 1) := ef_27
      have e6k : f_27 (6 + k) = S 1 (6 + k) := by rw [ek]; exact kpb_lo h58 (by omega)
      have e1k : f_27 (1 + k) = S 1 (1 + k) := by rw [ek]; exact kpb_lo h58 (by omega)
      have hkk := hI.k k (by omega)
      have e26k : f_27 26 = S 1 26 := by rw [ek]; exact kpb_lo h58 (by omega)
      refine z_aload_n hx dX9_carry_24 rfl 0 rfl ?_
      refine z_get hx dX9_carry_25 fl_X9_7 m_18 rfl ?_
      refine z_iconst hx dX9_carry_28 ?_
      refine z_iload_n hx dX9_carry_29 rfl 1 rfl ?_
      refine z_iadd hx dX9_carry_30 ?_
      refine z_iald hx dX9_carry_31 m_19 (by omega) (by decide) ?_
      have rg_30 := iv_28.1.rg ((1 + k)) (by omega)
      refine z_istore_n hx dX9_carry_32 rfl (by decide) [1, 2, 3, 0] (lv' := [(0, .ref b), (1, .int (iI k)), (2, .int (iI c)), (3, .int (iI (f_27 (1 + k))))]) rfl ?_
      refine z_aload_n hx dX9_carry_33 rfl 0 rfl ?_
      refine z_get hx dX9_carry_34 fl_X9_7 m_18 rfl ?_
      refine z_iload_n hx dX9_carry_37 rfl 1 rfl ?_
      refine z_iload_n hx dX9_carry_38 rfl 2 rfl ?_
      refine z_cSV (as := [.ref (b + 1), .int (iI k), .int (iI c)]) (rest := []) hx dX9_carry_39 lk_X9_197 wt_X9_bringTo mo_X9_bringTo (kX9_bringTo g (k := k) (c := c) m_19 iv_28.1 (by omega) (by omega)) (by decide) rfl rfl (Nat.le_of_ble_eq_true rfl) (fun h_31 q_32 => ?_)
      obtain ⟨hs_33, hf_34⟩ := q_32
      obtain ⟨f_35, ef_35⟩ : ∃ F : Int → Int, F = brt f_27 k c := ⟨_, rfl⟩
      rw [← ef_35] at hs_33
      have iv_36 := inv_brt iv_28.1 (k := k) (c := c) (by omega) (by omega)
      rw [← ef_35] at iv_36
      have h_37 := hf_34.at (by omega) m_18
      have h_38 := hf_34.at (by omega) m_20
      have h_39 := hf_34.at (by omega) m_21
      have h_40 := hf_34.at (by omega) m_22
      have h_41 := hf_34.at (by omega) m_23
      have h_42 := hf_34.at (by omega) m_24
      have h_43 := hf_34.at (by omega) m_25
      have h_44 := hf_34.at (by omega) m_26
      have fr_45 := fr_29.tr (hf_34.wd (by omega) (by omega))
      refine z_iload_n hx dX9_carry_42 rfl 3 rfl ?_
      refine z_iret hx hr dX9_carry_43 rfl rfl (q_j (by unfold carryA; (repeat (first | rw [if_pos (by omega)] | rw [if_neg (by omega)])); (try exact e1k); (try rfl)) (by unfold carryA; subst_vars; (repeat (first | rw [if_pos (by omega)] | rw [if_neg (by omega)])); exact ⟨⟨h_37, hs_33, h_38, h_39, h_40, h_41, h_42, h_43, h_44⟩, fr_45⟩))
    ·
      refine z_aload_n hx dX9_carry_15 rfl 0 rfl ?_
      refine z_cVJ (as := []) (rest := []) hx dX9_carry_16 lk_X9_55 wm_X9_bad wv_X9_bad (rcv_obj hx m0 rfl) mo_X9_bad (kX9_bad g  ⟨m0, m1, m2, m3, m4, m5, m6, m7, m8⟩) (by decide) rfl rfl (Nat.le_of_ble_eq_true rfl) (fun h_46 q_47 => ?_)
      have fr_48 : Fr h h_46 b 9 := q_47.2.wd (by omega) (by omega)
      refine z_iret hx hr dX9_carry_19 rfl rfl (q_j (by unfold carryA; (repeat (first | rw [if_pos (by omega)] | rw [if_neg (by omega)])); (try exact e1k); (try rfl)) (by unfold carryA; subst_vars; (repeat (first | rw [if_pos (by omega)] | rw [if_neg (by omega)])); exact ⟨q_47.1, fr_48⟩))

set_option maxHeartbeats 4000000 in
set_option maxRecDepth 20000 in
theorem kX9_undo (g : Gt) {h : AH} {b : Nat} {S : Nat → Int → Int}  (hM : RM h b S) (hV : invM S)  : CnJ g mX9_undo 3 [.ref b] h (undoA S).1 (QM h b (undoA S).2) := by
  refine Cn.mk (by decide +kernel) (Nat.le_of_ble_eq_true rfl) ?_
  intro x sz hx hr
  show Zj g x (sz, 0, 0) h 0 [(0, .ref b)] []
  obtain ⟨m0, m1, m2, m3, m4, m5, m6, m7, m8⟩ := hM
  have hN := hV.1
  have hI := hN.1
  have hn := hI.n
  have h58 : 0 ≤ S 1 58 ∧ S 1 58 ≤ 8 := ⟨(hI.rg 58 (by decide)).1, hN.2.2.2.1⟩
  have h39 : 0 ≤ S 1 39 ∧ S 1 39 ≤ 6 := ⟨(hI.rg 39 (by decide)).1, hN.2.2.1⟩
  have h0 : 0 ≤ S 1 0 ∧ S 1 0 ≤ 999 := ⟨hN.2.1.2, hN.2.1.1⟩
  refine z_aload_n hx dX9_undo_0 rfl 0 rfl ?_
  refine z_get hx dX9_undo_1 fl_X9_7 m0 rfl ?_
  refine z_bipush hx dX9_undo_4 (by decide) ?_
  refine z_iald hx dX9_undo_6 m1 (by decide) (by decide) ?_
  have rg_1 := hI.rg (58) (by decide)
  refine z_if_ne (tgt := 15) hx dX9_undo_7 (by decide) (by omega) (fun c_2 => ?_) (fun c_2 => ?_)
  ·
    refine z_aload_n hx dX9_undo_15 rfl 0 rfl ?_
    refine z_get hx dX9_undo_16 fl_X9_7 m0 rfl ?_
    refine z_bipush hx dX9_undo_19 (by decide) ?_
    refine z_dup2 hx dX9_undo_21 rfl rfl ?_
    refine z_iald hx dX9_undo_22 m1 (by decide) (by decide) ?_
    have rg_3 := hI.rg (58) (by decide)
    refine z_iconst hx dX9_undo_23 ?_
    refine z_isub hx dX9_undo_24 ?_
    refine z_iastQ hx dX9_undo_25 m1 (by decide) (by decide) (fun h_4 hs_5 hf_6 => ?_)
    have h_7 := hf_6.at (by omega) m0
    have h_8 := hf_6.at (by omega) m2
    have h_9 := hf_6.at (by omega) m3
    have h_10 := hf_6.at (by omega) m4
    have h_11 := hf_6.at (by omega) m5
    have h_12 := hf_6.at (by omega) m6
    have h_13 := hf_6.at (by omega) m7
    have h_14 := hf_6.at (by omega) m8
    have fr_15 : Fr h h_4 b 9 := hf_6.wd (by omega) (by omega)
    refine z_aload_n hx dX9_undo_26 rfl 0 rfl ?_
    refine z_get hx dX9_undo_27 fl_X9_7 h_7 rfl ?_
    refine z_bipush hx dX9_undo_30 (by decide) ?_
    refine z_bipush hx dX9_undo_32 (by decide) ?_
    refine z_aload_n hx dX9_undo_34 rfl 0 rfl ?_
    refine z_get hx dX9_undo_35 fl_X9_7 h_7 rfl ?_
    refine z_bipush hx dX9_undo_38 (by decide) ?_
    refine z_iald hx dX9_undo_40 hs_5 (by decide) (by decide) ?_
    refine z_imul hx dX9_undo_41 ?_
    refine z_iadd hx dX9_undo_42 ?_
    refine z_aload_n hx dX9_undo_43 rfl 0 rfl ?_
    refine z_get hx dX9_undo_44 fl_X9_7 h_7 rfl ?_
    refine z_iconst hx dX9_undo_47 ?_
    refine z_bipush hx dX9_undo_48 (by decide) ?_
    refine z_cSV (as := [.ref (b + 1), .int (iI (59 + (26 * ((fup (S 1) 58 ((S 1 58) - 1)) 58)))), .ref (b + 1), .int (iI 0), .int (iI 26)]) (rest := []) hx dX9_undo_50 lk_X9_138 wt_X9_bring mo_X9_bring (kX9_bring_eq g hs_5 (by left; rw [fup_s]; omega) (by rw [fup_s]; omega) (by decide) (by decide) (by decide)) (by decide) rfl rfl (Nat.le_of_ble_eq_true rfl) (fun h_16 q_17 => ?_)
    obtain ⟨hs_18, hf_19⟩ := q_17
    obtain ⟨f_20, ef_20⟩ : ∃ F : Int → Int, F = fcp (fup (S 1) 58 ((S 1 58) - 1)) (fup (S 1) 58 ((S 1 58) - 1)) (59 + (26 * ((fup (S 1) 58 ((S 1 58) - 1)) 58))) 0 26 := ⟨_, rfl⟩
    rw [← ef_20] at hs_18
    have h_21 := hf_19.at (by omega) h_7
    have h_22 := hf_19.at (by omega) h_8
    have h_23 := hf_19.at (by omega) h_9
    have h_24 := hf_19.at (by omega) h_10
    have h_25 := hf_19.at (by omega) h_11
    have h_26 := hf_19.at (by omega) h_12
    have h_27 := hf_19.at (by omega) h_13
    have h_28 := hf_19.at (by omega) h_14
    have fr_29 := fr_15.tr (hf_19.wd (by omega) (by omega))
    have eu : f_20 = und1 (S 1) := by rw [ef_20, fup_s]; rfl
    refine z_aload_n hx dX9_undo_53 rfl 0 rfl ?_
    refine z_get hx dX9_undo_54 fl_X9_7 h_21 rfl ?_
    refine z_iconst hx dX9_undo_57 ?_
    refine z_iald hx dX9_undo_58 hs_18 (by decide) (by decide) ?_
    refine z_iret hx hr dX9_undo_59 rfl rfl (q_j (by unfold undoA; (repeat (first | rw [if_pos (by omega)] | rw [if_neg (by omega)])); (try rw [← eu]); (try rfl)) (by unfold undoA; (try rw [← eu]); (repeat (first | rw [if_pos (by omega)] | rw [if_neg (by omega)])); exact ⟨⟨h_21, hs_18, h_22, h_23, h_24, h_25, h_26, h_27, h_28⟩, fr_29⟩))
  ·
    refine z_aload_n hx dX9_undo_10 rfl 0 rfl ?_
    refine z_cVJ (as := []) (rest := []) hx dX9_undo_11 lk_X9_201 wm_X9_no wv_X9_no (rcv_obj hx m0 rfl) mo_X9_no (kX9_no g  ⟨m0, m1, m2, m3, m4, m5, m6, m7, m8⟩) (by decide) rfl rfl (Nat.le_of_ble_eq_true rfl) (fun h_30 q_31 => ?_)
    have fr_32 : Fr h h_30 b 9 := q_31.2.wd (by omega) (by omega)
    refine z_iret hx hr dX9_undo_14 rfl rfl (q_j (by unfold undoA; (repeat (first | rw [if_pos (by omega)] | rw [if_neg (by omega)])); (try rw [← eu]); (try rfl)) (by unfold undoA; (try rw [← eu]); (repeat (first | rw [if_pos (by omega)] | rw [if_neg (by omega)])); exact ⟨q_31.1, fr_32⟩))

set_option maxHeartbeats 4000000 in
set_option maxRecDepth 20000 in
theorem kX9_of (g : Gt) {h : AH} {b : Nat} {S : Nat → Int → Int} {k : Int} {w : Int} (hM : RM h b S) (hV : invM S) (g_k : rgI k) (g_w : rgI w) : CnJ g mX9_of 4 [.ref b, .int (iI k), .int (iI w)] h (ofA S k w).1 (QM h b (ofA S k w).2) := by
  refine Cn.mk (by decide +kernel) (Nat.le_of_ble_eq_true rfl) ?_
  intro x sz hx hr
  show Zj g x (sz, 0, 0) h 0 [(0, .ref b), (1, .int (iI k)), (2, .int (iI w))] []
  obtain ⟨m0, m1, m2, m3, m4, m5, m6, m7, m8⟩ := hM
  have hN := hV.1
  have hI := hN.1
  have hn := hI.n
  have hkk := fun h => hI.k k h
  refine z_aload_n hx dX9_of_0 rfl 0 rfl ?_
  refine z_iload_n hx dX9_of_1 rfl 1 rfl ?_
  refine z_cVI (as := [.int (iI k)]) (rest := []) hx dX9_of_2 lk_X9_194 wm_X9_isCosy wv_X9_isCosy (rcv_obj hx m0 rfl) mo_X9_isCosy (kX9_isCosy g (S := S) ⟨m0, m1, m2, m3, m4, m5, m6, m7, m8⟩ hI (by first | exact g_k | omega)) (by decide) rfl rfl (Nat.le_of_ble_eq_true rfl) ?_
  refine z_ifne_b (tgt := 13) hx dX9_of_5 (by decide)  (fun c_1 => ?_) (fun c_1 => ?_)
  ·
    refine z_iload_n hx dX9_of_13 rfl 2 rfl ?_
    by_cases c_2 : w = 0
    ·
      refine z_tblIn (off := 38) (tgt := 52) hx dX9_of_14 (by omega) 0 c_2 (by decide) rfl (by decide) ?_
      refine z_aload_n hx dX9_of_52 rfl 0 rfl ?_
      refine z_get hx dX9_of_53 fl_X9_7 m0 rfl ?_
      refine z_bipush hx dX9_of_56 (by decide) ?_
      refine z_iload_n hx dX9_of_58 rfl 1 rfl ?_
      refine z_iadd hx dX9_of_59 ?_
      refine z_iald hx dX9_of_60 m1 (by omega) (by decide) ?_
      have rg_3 := hI.rg ((27 + k)) (by omega)
      refine z_iret hx hr dX9_of_61 rfl rfl (q_j (by unfold ofA; subst_vars; (repeat (first | rw [if_pos (by omega)] | rw [if_neg (by omega)])); (try rfl)) (by unfold ofA; subst_vars; (repeat (first | rw [if_pos (by omega)] | rw [if_neg (by omega)])); exact ⟨⟨m0, m1, m2, m3, m4, m5, m6, m7, m8⟩, Fr.rf⟩))
    by_cases c_4 : w = 1
    ·
      refine z_tblIn (off := 48) (tgt := 62) hx dX9_of_14 (by omega) 1 c_4 (by decide) rfl (by decide) ?_
      refine z_aload_n hx dX9_of_62 rfl 0 rfl ?_
      refine z_get hx dX9_of_63 fl_X9_7 m0 rfl ?_
      refine z_iconst hx dX9_of_66 ?_
      refine z_iload_n hx dX9_of_67 rfl 1 rfl ?_
      refine z_iadd hx dX9_of_68 ?_
      refine z_iald hx dX9_of_69 m1 (by omega) (by decide) ?_
      have rg_5 := hI.rg ((1 + k)) (by omega)
      refine z_iret hx hr dX9_of_70 rfl rfl (q_j (by unfold ofA; subst_vars; (repeat (first | rw [if_pos (by omega)] | rw [if_neg (by omega)])); (try rfl)) (by unfold ofA; subst_vars; (repeat (first | rw [if_pos (by omega)] | rw [if_neg (by omega)])); exact ⟨⟨m0, m1, m2, m3, m4, m5, m6, m7, m8⟩, Fr.rf⟩))
    by_cases c_6 : w = 2
    ·
      refine z_tblIn (off := 57) (tgt := 71) hx dX9_of_14 (by omega) 2 c_6 (by decide) rfl (by decide) ?_
      refine z_aload_n hx dX9_of_71 rfl 0 rfl ?_
      refine z_get hx dX9_of_72 fl_X9_7 m0 rfl ?_
      refine z_bipush hx dX9_of_75 (by decide) ?_
      refine z_iload_n hx dX9_of_77 rfl 1 rfl ?_
      refine z_iadd hx dX9_of_78 ?_
      refine z_iald hx dX9_of_79 m1 (by omega) (by decide) ?_
      have rg_7 := hI.rg ((32 + k)) (by omega)
      refine z_iret hx hr dX9_of_80 rfl rfl (q_j (by unfold ofA; subst_vars; (repeat (first | rw [if_pos (by omega)] | rw [if_neg (by omega)])); (try rfl)) (by unfold ofA; subst_vars; (repeat (first | rw [if_pos (by omega)] | rw [if_neg (by omega)])); exact ⟨⟨m0, m1, m2, m3, m4, m5, m6, m7, m8⟩, Fr.rf⟩))
    by_cases c_8 : w = 3
    ·
      refine z_tblIn (off := 67) (tgt := 81) hx dX9_of_14 (by omega) 3 c_8 (by decide) rfl (by decide) ?_
      refine z_aload_n hx dX9_of_81 rfl 0 rfl ?_
      refine z_get hx dX9_of_82 fl_X9_7 m0 rfl ?_
      refine z_bipush hx dX9_of_85 (by decide) ?_
      refine z_iload_n hx dX9_of_87 rfl 1 rfl ?_
      refine z_iadd hx dX9_of_88 ?_
      refine z_iald hx dX9_of_89 m1 (by omega) (by decide) ?_
      have rg_9 := hI.rg ((6 + k)) (by omega)
      refine z_iret hx hr dX9_of_90 rfl rfl (q_j (by unfold ofA; subst_vars; (repeat (first | rw [if_pos (by omega)] | rw [if_neg (by omega)])); (try rfl)) (by unfold ofA; subst_vars; (repeat (first | rw [if_pos (by omega)] | rw [if_neg (by omega)])); exact ⟨⟨m0, m1, m2, m3, m4, m5, m6, m7, m8⟩, Fr.rf⟩))
    by_cases c_10 : w = 4
    ·
      refine z_tblIn (off := 77) (tgt := 91) hx dX9_of_14 (by omega) 4 c_10 (by decide) rfl (by decide) ?_
      refine z_aload_n hx dX9_of_91 rfl 0 rfl ?_
      refine z_get hx dX9_of_92 fl_X9_7 m0 rfl ?_
      refine z_iload_n hx dX9_of_95 rfl 1 rfl ?_
      refine z_cSI (as := [.ref (b + 1), .int (iI k)]) (rest := []) hx dX9_of_96 lk_X9_149 wt_X9_holds mo_X9_holds (kX9_holds g (k := k) m1 hI (by omega)) (by decide) rfl rfl (Nat.le_of_ble_eq_true rfl) ?_
      have f_11 := hlf_rg hI (k := k) (by omega)
      refine z_iret hx hr dX9_of_99 rfl rfl (q_j (by unfold ofA; subst_vars; (repeat (first | rw [if_pos (by omega)] | rw [if_neg (by omega)])); (try rfl)) (by unfold ofA; subst_vars; (repeat (first | rw [if_pos (by omega)] | rw [if_neg (by omega)])); exact ⟨⟨m0, m1, m2, m3, m4, m5, m6, m7, m8⟩, Fr.rf⟩))
    by_cases c_12 : w = 5
    ·
      refine z_tblIn (off := 86) (tgt := 100) hx dX9_of_14 (by omega) 5 c_12 (by decide) rfl (by decide) ?_
      refine z_aload_n hx dX9_of_100 rfl 0 rfl ?_
      refine z_get hx dX9_of_101 fl_X9_7 m0 rfl ?_
      refine z_iload_n hx dX9_of_104 rfl 1 rfl ?_
      refine z_cSI (as := [.ref (b + 1), .int (iI k)]) (rest := []) hx dX9_of_105 lk_X9_152 wt_X9_underIn mo_X9_underIn (kX9_underIn g (k := k) m1 hI (by omega)) (by decide) rfl rfl (Nat.le_of_ble_eq_true rfl) ?_
      have f_13 := und_rg hI k
      refine z_iret hx hr dX9_of_108 rfl rfl (q_j (by unfold ofA; subst_vars; (repeat (first | rw [if_pos (by omega)] | rw [if_neg (by omega)])); (try rfl)) (by unfold ofA; subst_vars; (repeat (first | rw [if_pos (by omega)] | rw [if_neg (by omega)])); exact ⟨⟨m0, m1, m2, m3, m4, m5, m6, m7, m8⟩, Fr.rf⟩))
    refine z_tblOut (tgt := 109) hx dX9_of_14 (by omega) (by omega) (by decide) ?_
    refine z_aload_n hx dX9_of_109 rfl 0 rfl ?_
    refine z_cVJ (as := []) (rest := []) hx dX9_of_110 lk_X9_55 wm_X9_bad wv_X9_bad (rcv_obj hx m0 rfl) mo_X9_bad (kX9_bad g  ⟨m0, m1, m2, m3, m4, m5, m6, m7, m8⟩) (by decide) rfl rfl (Nat.le_of_ble_eq_true rfl) (fun h_14 q_15 => ?_)
    have fr_16 : Fr h h_14 b 9 := q_15.2.wd (by omega) (by omega)
    refine z_iret hx hr dX9_of_113 rfl rfl (q_j (by unfold ofA; subst_vars; (repeat (first | rw [if_pos (by omega)] | rw [if_neg (by omega)])); (try rfl)) (by unfold ofA; subst_vars; (repeat (first | rw [if_pos (by omega)] | rw [if_neg (by omega)])); exact ⟨q_15.1, fr_16⟩))
  ·
    refine z_aload_n hx dX9_of_8 rfl 0 rfl ?_
    refine z_cVJ (as := []) (rest := []) hx dX9_of_9 lk_X9_55 wm_X9_bad wv_X9_bad (rcv_obj hx m0 rfl) mo_X9_bad (kX9_bad g  ⟨m0, m1, m2, m3, m4, m5, m6, m7, m8⟩) (by decide) rfl rfl (Nat.le_of_ble_eq_true rfl) (fun h_17 q_18 => ?_)
    have fr_19 : Fr h h_17 b 9 := q_18.2.wd (by omega) (by omega)
    refine z_iret hx hr dX9_of_12 rfl rfl (q_j (by unfold ofA; subst_vars; (repeat (first | rw [if_pos (by omega)] | rw [if_neg (by omega)])); (try rfl)) (by unfold ofA; subst_vars; (repeat (first | rw [if_pos (by omega)] | rw [if_neg (by omega)])); exact ⟨q_18.1, fr_19⟩))

set_option maxHeartbeats 4000000 in
set_option maxRecDepth 20000 in
theorem kX9_about (g : Gt) {h : AH} {b : Nat} {S : Nat → Int → Int} {p : Int} {w : Int} (hM : RM h b S) (hV : invM S) (g_p : rgI p) (g_w : rgI w) : CnJ g mX9_about 3 [.ref b, .int (iI p), .int (iI w)] h (aboutA S p w).1 (QM h b (aboutA S p w).2) := by
  refine Cn.mk (by decide +kernel) (Nat.le_of_ble_eq_true rfl) ?_
  intro x sz hx hr
  show Zj g x (sz, 0, 0) h 0 [(0, .ref b), (1, .int (iI p)), (2, .int (iI w))] []
  obtain ⟨m0, m1, m2, m3, m4, m5, m6, m7, m8⟩ := hM
  have hN := hV.1
  have hI := hN.1
  have hn := hI.n
  refine z_aload_n hx dX9_about_0 rfl 0 rfl ?_
  refine z_iload_n hx dX9_about_1 rfl 1 rfl ?_
  refine z_cVI (as := [.int (iI p)]) (rest := []) hx dX9_about_2 lk_X9_204 wm_X9_isHunted wv_X9_isHunted (rcv_obj hx m0 rfl) mo_X9_isHunted (kX9_isHunted g (S := S) ⟨m0, m1, m2, m3, m4, m5, m6, m7, m8⟩ hI (by first | exact g_p | omega)) (by decide) rfl rfl (Nat.le_of_ble_eq_true rfl) ?_
  refine z_ifeq_b (tgt := 29) hx dX9_about_5 (by decide)  (fun c_1 => ?_) (fun c_1 => ?_)
  ·
    refine z_aload_n hx dX9_about_29 rfl 0 rfl ?_
    refine z_bipush hx dX9_about_30 (by decide) ?_
    refine z_cVJ (as := [.int (iI (-10))]) (rest := []) hx dX9_about_32 lk_X9_39 wm_X9_badBy wv_X9_badBy (rcv_obj hx m0 rfl) mo_X9_badBy (kX9_badBy g (v := (-10)) ⟨m0, m1, m2, m3, m4, m5, m6, m7, m8⟩) (by decide) rfl rfl (Nat.le_of_ble_eq_true rfl) (fun h_2 q_3 => ?_)
    have fr_4 : Fr h h_2 b 9 := q_3.2.wd (by omega) (by omega)
    refine z_iret hx hr dX9_about_35 rfl rfl (q_j (by unfold aboutA; subst_vars; (repeat (first | rw [if_pos (by omega)] | rw [if_neg (by omega)])); (try rfl)) (by unfold aboutA; subst_vars; (repeat (first | rw [if_pos (by omega)] | rw [if_neg (by omega)])); exact ⟨q_3.1, fr_4⟩))
  ·
    refine z_iload_n hx dX9_about_8 rfl 2 rfl ?_
    refine z_iconst hx dX9_about_9 ?_
    refine z_iconst hx dX9_about_10 ?_
    refine z_cSI (as := [.int (iI w), .int (iI 0), .int (iI 2)]) (rest := []) hx dX9_about_11 lk_X9_43 wt_X9_in mo_X9_in (kX9_in g (a := w) (b := 0) (c := 2) (by omega) (by omega) (by omega)) (by decide) rfl rfl (Nat.le_of_ble_eq_true rfl) ?_
    refine z_ifeq_b (tgt := 29) hx dX9_about_14 (by decide)  (fun c_5 => ?_) (fun c_5 => ?_)
    ·
      refine z_aload_n hx dX9_about_29 rfl 0 rfl ?_
      refine z_bipush hx dX9_about_30 (by decide) ?_
      refine z_cVJ (as := [.int (iI (-10))]) (rest := []) hx dX9_about_32 lk_X9_39 wm_X9_badBy wv_X9_badBy (rcv_obj hx m0 rfl) mo_X9_badBy (kX9_badBy g (v := (-10)) ⟨m0, m1, m2, m3, m4, m5, m6, m7, m8⟩) (by decide) rfl rfl (Nat.le_of_ble_eq_true rfl) (fun h_6 q_7 => ?_)
      have fr_8 : Fr h h_6 b 9 := q_7.2.wd (by omega) (by omega)
      refine z_iret hx hr dX9_about_35 rfl rfl (q_j (by unfold aboutA; subst_vars; (repeat (first | rw [if_pos (by omega)] | rw [if_neg (by omega)])); (try rfl)) (by unfold aboutA; subst_vars; (repeat (first | rw [if_pos (by omega)] | rw [if_neg (by omega)])); exact ⟨q_7.1, fr_8⟩))
    ·
      refine z_aload_n hx dX9_about_17 rfl 0 rfl ?_
      refine z_get hx dX9_about_18 fl_X9_7 m0 rfl ?_
      refine z_iload_n hx dX9_about_21 rfl 1 rfl ?_
      refine z_iload_n hx dX9_about_22 rfl 2 rfl ?_
      refine z_cSI (as := [.ref (b + 1), .int (iI p), .int (iI w)]) (rest := []) hx dX9_about_23 lk_X9_207 wt_X9_aboutIn mo_X9_aboutIn (kX9_aboutIn g (p := p) (w := w) m1 hI (by omega) (by omega)) (by decide) rfl rfl (Nat.le_of_ble_eq_true rfl) ?_
      have f_9 := tel_rg hI (p := p) (w := w) (by omega)
      refine z_goto (tgt := 35) hx dX9_about_26 (by decide) ?_
      refine z_iret hx hr dX9_about_35 rfl rfl (q_j (by unfold aboutA; subst_vars; (repeat (first | rw [if_pos (by omega)] | rw [if_neg (by omega)])); (try rfl)) (by unfold aboutA; subst_vars; (repeat (first | rw [if_pos (by omega)] | rw [if_neg (by omega)])); exact ⟨⟨m0, m1, m2, m3, m4, m5, m6, m7, m8⟩, Fr.rf⟩))

set_option maxHeartbeats 4000000 in
set_option maxRecDepth 20000 in
theorem kX9_where (g : Gt) {h : AH} {b : Nat} {S : Nat → Int → Int} {k : Int} (hM : RM h b S) (hV : invM S) (g_k : rgI k) : CnJ g mX9_where 3 [.ref b, .int (iI k)] h (whereA S k).1 (QM h b (whereA S k).2) := by
  refine Cn.mk (by decide +kernel) (Nat.le_of_ble_eq_true rfl) ?_
  intro x sz hx hr
  show Zj g x (sz, 0, 0) h 0 [(0, .ref b), (1, .int (iI k))] []
  obtain ⟨m0, m1, m2, m3, m4, m5, m6, m7, m8⟩ := hM
  have hN := hV.1
  have hI := hN.1
  have hn := hI.n
  refine z_iload_n hx dX9_where_0 rfl 1 rfl ?_
  refine z_iconst hx dX9_where_1 ?_
  refine z_aload_n hx dX9_where_2 rfl 0 rfl ?_
  refine z_get hx dX9_where_3 fl_X9_7 m0 rfl ?_
  refine z_bipush hx dX9_where_6 (by decide) ?_
  refine z_iald hx dX9_where_8 m1 (by decide) (by decide) ?_
  have rg_1 := hI.rg (38) (by decide)
  refine z_iconst hx dX9_where_9 ?_
  refine z_isub hx dX9_where_10 ?_
  refine z_cSI (as := [.int (iI k), .int (iI 0), .int (iI ((S 1 38) - 1))]) (rest := []) hx dX9_where_11 lk_X9_43 wt_X9_in mo_X9_in (kX9_in g (a := k) (b := 0) (c := ((S 1 38) - 1)) (by omega) (by omega) (by omega)) (by decide) rfl rfl (Nat.le_of_ble_eq_true rfl) ?_
  refine z_ifeq_b (tgt := 29) hx dX9_where_14 (by decide)  (fun c_2 => ?_) (fun c_2 => ?_)
  ·
    refine z_aload_n hx dX9_where_29 rfl 0 rfl ?_
    refine z_cVJ (as := []) (rest := []) hx dX9_where_30 lk_X9_55 wm_X9_bad wv_X9_bad (rcv_obj hx m0 rfl) mo_X9_bad (kX9_bad g  ⟨m0, m1, m2, m3, m4, m5, m6, m7, m8⟩) (by decide) rfl rfl (Nat.le_of_ble_eq_true rfl) (fun h_3 q_4 => ?_)
    have fr_5 : Fr h h_3 b 9 := q_4.2.wd (by omega) (by omega)
    refine z_iret hx hr dX9_where_33 rfl rfl (q_j (by unfold whereA; subst_vars; (repeat (first | rw [if_pos (by omega)] | rw [if_neg (by omega)])); (try rfl)) (by unfold whereA; subst_vars; (repeat (first | rw [if_pos (by omega)] | rw [if_neg (by omega)])); exact ⟨q_4.1, fr_5⟩))
  ·
    refine z_aload_n hx dX9_where_17 rfl 0 rfl ?_
    refine z_get hx dX9_where_18 fl_X9_7 m0 rfl ?_
    refine z_bipush hx dX9_where_21 (by decide) ?_
    refine z_iload_n hx dX9_where_23 rfl 1 rfl ?_
    refine z_iadd hx dX9_where_24 ?_
    refine z_iald hx dX9_where_25 m1 (by omega) (by decide) ?_
    have rg_6 := hI.rg ((23 + k)) (by omega)
    refine z_goto (tgt := 33) hx dX9_where_26 (by decide) ?_
    refine z_iret hx hr dX9_where_33 rfl rfl (q_j (by unfold whereA; subst_vars; (repeat (first | rw [if_pos (by omega)] | rw [if_neg (by omega)])); (try rfl)) (by unfold whereA; subst_vars; (repeat (first | rw [if_pos (by omega)] | rw [if_neg (by omega)])); exact ⟨⟨m0, m1, m2, m3, m4, m5, m6, m7, m8⟩, Fr.rf⟩))

set_option maxHeartbeats 4000000 in
set_option maxRecDepth 20000 in
theorem kX9_then (g : Gt) {h : AH} {b : Nat} {S : Nat → Int → Int} {p : Int} {m : Int} {w : Int} (hM : RM h b S) (hV : invM S) (g_p : rgI p) (g_m : rgI m) (g_w : rgI w) : CnJ g mX9_then 7 [.ref b, .int (iI p), .int (iI m), .int (iI w)] h (thenA S p m w).1 (QM h b (thenA S p m w).2) := by
  refine Cn.mk (by decide +kernel) (Nat.le_of_ble_eq_true rfl) ?_
  intro x sz hx hr
  show Zj g x (sz, 0, 0) h 0 [(0, .ref b), (1, .int (iI p)), (2, .int (iI m)), (3, .int (iI w))] []
  obtain ⟨m0, m1, m2, m3, m4, m5, m6, m7, m8⟩ := hM
  have hN := hV.1
  have hI := hN.1
  have hn := hI.n
  have hTo : outR (S 2) := hV.2.1
  refine z_aload_n hx dX9_then_0 rfl 0 rfl ?_
  refine z_iload_n hx dX9_then_1 rfl 1 rfl ?_
  refine z_cVI (as := [.int (iI p)]) (rest := []) hx dX9_then_2 lk_X9_204 wm_X9_isHunted wv_X9_isHunted (rcv_obj hx m0 rfl) mo_X9_isHunted (kX9_isHunted g (S := S) ⟨m0, m1, m2, m3, m4, m5, m6, m7, m8⟩ hI (by first | exact g_p | omega)) (by decide) rfl rfl (Nat.le_of_ble_eq_true rfl) ?_
  refine z_ifeq_b (tgt := 27) hx dX9_then_5 (by decide)  (fun c_1 => ?_) (fun c_1 => ?_)
  ·
    refine z_aload_n hx dX9_then_27 rfl 0 rfl ?_
    refine z_bipush hx dX9_then_28 (by decide) ?_
    refine z_cVJ (as := [.int (iI (-10))]) (rest := []) hx dX9_then_30 lk_X9_39 wm_X9_badBy wv_X9_badBy (rcv_obj hx m0 rfl) mo_X9_badBy (kX9_badBy g (v := (-10)) ⟨m0, m1, m2, m3, m4, m5, m6, m7, m8⟩) (by decide) rfl rfl (Nat.le_of_ble_eq_true rfl) (fun h_2 q_3 => ?_)
    have fr_4 : Fr h h_2 b 9 := q_3.2.wd (by omega) (by omega)
    refine z_iret hx hr dX9_then_33 rfl rfl (q_j (by unfold thenA; subst_vars; (repeat (first | rw [if_pos (by omega)] | rw [if_neg (by omega)])); (try rfl)) (by unfold thenA; subst_vars; (repeat (first | rw [if_pos (by omega)] | rw [if_neg (by omega)])); exact ⟨q_3.1, fr_4⟩))
  ·
    refine z_iload_n hx dX9_then_8 rfl 2 rfl ?_
    refine z_iconst hx dX9_then_9 ?_
    refine z_bipush hx dX9_then_10 (by decide) ?_
    refine z_cSI (as := [.int (iI m), .int (iI 0), .int (iI 40)]) (rest := []) hx dX9_then_12 lk_X9_43 wt_X9_in mo_X9_in (kX9_in g (a := m) (b := 0) (c := 40) (by omega) (by omega) (by omega)) (by decide) rfl rfl (Nat.le_of_ble_eq_true rfl) ?_
    refine z_ifeq_b (tgt := 27) hx dX9_then_15 (by decide)  (fun c_5 => ?_) (fun c_5 => ?_)
    ·
      refine z_aload_n hx dX9_then_27 rfl 0 rfl ?_
      refine z_bipush hx dX9_then_28 (by decide) ?_
      refine z_cVJ (as := [.int (iI (-10))]) (rest := []) hx dX9_then_30 lk_X9_39 wm_X9_badBy wv_X9_badBy (rcv_obj hx m0 rfl) mo_X9_badBy (kX9_badBy g (v := (-10)) ⟨m0, m1, m2, m3, m4, m5, m6, m7, m8⟩) (by decide) rfl rfl (Nat.le_of_ble_eq_true rfl) (fun h_6 q_7 => ?_)
      have fr_8 : Fr h h_6 b 9 := q_7.2.wd (by omega) (by omega)
      refine z_iret hx hr dX9_then_33 rfl rfl (q_j (by unfold thenA; subst_vars; (repeat (first | rw [if_pos (by omega)] | rw [if_neg (by omega)])); (try rfl)) (by unfold thenA; subst_vars; (repeat (first | rw [if_pos (by omega)] | rw [if_neg (by omega)])); exact ⟨q_7.1, fr_8⟩))
    ·
      refine z_iload_n hx dX9_then_18 rfl 3 rfl ?_
      refine z_iconst hx dX9_then_19 ?_
      refine z_iconst hx dX9_then_20 ?_
      refine z_cSI (as := [.int (iI w), .int (iI 0), .int (iI 2)]) (rest := []) hx dX9_then_21 lk_X9_43 wt_X9_in mo_X9_in (kX9_in g (a := w) (b := 0) (c := 2) (by omega) (by omega) (by omega)) (by decide) rfl rfl (Nat.le_of_ble_eq_true rfl) ?_
      refine z_ifne_b (tgt := 34) hx dX9_then_24 (by decide)  (fun c_9 => ?_) (fun c_9 => ?_)
      ·
        refine z_aload_n hx dX9_then_34 rfl 0 rfl ?_
        refine z_cVV (as := []) (rest := []) hx dX9_then_35 lk_X9_211 wm_X9_copyNow wv_X9_copyNow (rcv_obj hx m0 rfl) mo_X9_copyNow (kX9_copyNow g (S := S)  ⟨m0, m1, m2, m3, m4, m5, m6, m7, m8⟩ ) (by decide) rfl rfl (Nat.le_of_ble_eq_true rfl) (fun h_10 q_11 => ?_)
        obtain ⟨⟨p_12, p_13, p_14, p_15, p_16, p_17, p_18, p_19, p_20⟩, hf_21⟩ := q_11
        have m_22 : h_10 b = some (.inr (.inr (7, [.ref (b + 1), .ref (b + 2), .ref (b + 3), .ref (b + 4), .ref (b + 5), .ref (b + 6), .long (lI (S 0 6)), .long (lI (S 0 7)), .int (iI (S 0 8)), .ref (b + 7), .int (iI (S 0 10)), .int (iI (S 0 11)), .int (iI (S 0 12)), .int (iI (S 0 13)), .long (lI (S 0 14)), .int (iI (S 0 15)), .ref (b + 8)]))) := p_12
        have m_23 : h_10 (b + 1) = some (.inl (0, 267, S 1)) := p_13
        have m_24 : h_10 (b + 2) = some (.inl (0, 267, cpn ((S 1)) ((S 2)))) := p_14
        have m_25 : h_10 (b + 3) = some (.inl (0, 267, S 3)) := p_15
        have m_26 : h_10 (b + 4) = some (.inl (0, 534, S 4)) := p_16
        have m_27 : h_10 (b + 5) = some (.inl (2, 2, S 5)) := p_17
        have m_28 : h_10 (b + 6) = some (.inl (0, 3, S 6)) := p_18
        have m_29 : h_10 (b + 7) = some (.inl (0, 150, S 7)) := p_19
        have m_30 : h_10 (b + 8) = some (.inl (0, 4, S 8)) := p_20
        obtain ⟨f_31, ef_31⟩ : ∃ F : Int → Int, F = cpn ((S 1)) ((S 2)) := ⟨_, rfl⟩
        rw [← ef_31] at m_24
        have fr_32 : Fr h h_10 b 9 := hf_21.wd (by omega) (by omega)
        have icp : inv f_31 := by rw [ef_31]; exact inv_cpn hI hTo
        have c37 : f_31 37 = S 1 37 := by rw [ef_31]; exact cpn_in (by decide)
        refine z_aload_n hx dX9_then_38 rfl 0 rfl ?_
        refine z_iload_n hx dX9_then_39 rfl 2 rfl ?_
        refine z_cVV (as := [.int (iI m)]) (rest := []) hx dX9_then_40 lk_X9_214 wm_X9_goOn wv_X9_goOn (rcv_obj hx m_22 rfl) mo_X9_goOn (kX9_goOn g (S := (sst S 2 f_31)) (m := m) ⟨m_22, m_23, m_24, m_25, m_26, m_27, m_28, m_29, m_30⟩ (by omega) (by exact icp) (by omega)) (by decide) rfl rfl (Nat.le_of_ble_eq_true rfl) (fun h_33 q_34 => ?_)
        obtain ⟨⟨p_35, p_36, p_37, p_38, p_39, p_40, p_41, p_42, p_43⟩, hf_44⟩ := q_34
        have m_45 : h_33 b = some (.inr (.inr (7, [.ref (b + 1), .ref (b + 2), .ref (b + 3), .ref (b + 4), .ref (b + 5), .ref (b + 6), .long (lI (S 0 6)), .long (lI (S 0 7)), .int (iI (S 0 8)), .ref (b + 7), .int (iI (S 0 10)), .int (iI (S 0 11)), .int (iI (S 0 12)), .int (iI (S 0 13)), .long (lI (S 0 14)), .int (iI (S 0 15)), .ref (b + 8)]))) := p_35
        have m_46 : h_33 (b + 1) = some (.inl (0, 267, S 1)) := p_36
        have m_47 : h_33 (b + 2) = some (.inl (0, 267, gon m (f_31))) := p_37
        have m_48 : h_33 (b + 3) = some (.inl (0, 267, S 3)) := p_38
        have m_49 : h_33 (b + 4) = some (.inl (0, 534, S 4)) := p_39
        have m_50 : h_33 (b + 5) = some (.inl (2, 2, S 5)) := p_40
        have m_51 : h_33 (b + 6) = some (.inl (0, 3, S 6)) := p_41
        have m_52 : h_33 (b + 7) = some (.inl (0, 150, S 7)) := p_42
        have m_53 : h_33 (b + 8) = some (.inl (0, 4, S 8)) := p_43
        obtain ⟨f_54, ef_54⟩ : ∃ F : Int → Int, F = gon m (f_31) := ⟨_, rfl⟩
        rw [← ef_54] at m_47
        have iv_55 := inv_gon icp (m := m) (by omega)
        rw [← ef_54] at iv_55
        have fr_56 := fr_32.tr (hf_44.wd (by omega) (by omega))
        refine z_aload_n hx dX9_then_43 rfl 0 rfl ?_
        refine z_get hx dX9_then_44 fl_X9_13 m_45 rfl ?_
        refine z_iload_n hx dX9_then_47 rfl 1 rfl ?_
        refine z_iload_n hx dX9_then_48 rfl 3 rfl ?_
        refine z_cSI (as := [.ref (b + 2), .int (iI p), .int (iI w)]) (rest := []) hx dX9_then_49 lk_X9_207 wt_X9_aboutIn mo_X9_aboutIn (kX9_aboutIn g (p := p) (w := w) m_47 iv_55.1 (by omega) (by omega)) (by decide) rfl rfl (Nat.le_of_ble_eq_true rfl) ?_
        have f_57 := tel_rg iv_55.1 (p := p) (w := w) (by omega)
        refine z_iret hx hr dX9_then_52 rfl rfl (q_j (by unfold thenA; subst_vars; (repeat (first | rw [if_pos (by omega)] | rw [if_neg (by omega)])); (try rfl)) (by unfold thenA; subst_vars; (repeat (first | rw [if_pos (by omega)] | rw [if_neg (by omega)])); exact ⟨⟨m_45, m_46, m_47, m_48, m_49, m_50, m_51, m_52, m_53⟩, fr_56⟩))
      ·
        refine z_aload_n hx dX9_then_27 rfl 0 rfl ?_
        refine z_bipush hx dX9_then_28 (by decide) ?_
        refine z_cVJ (as := [.int (iI (-10))]) (rest := []) hx dX9_then_30 lk_X9_39 wm_X9_badBy wv_X9_badBy (rcv_obj hx m0 rfl) mo_X9_badBy (kX9_badBy g (v := (-10)) ⟨m0, m1, m2, m3, m4, m5, m6, m7, m8⟩) (by decide) rfl rfl (Nat.le_of_ble_eq_true rfl) (fun h_58 q_59 => ?_)
        have fr_60 : Fr h h_58 b 9 := q_59.2.wd (by omega) (by omega)
        refine z_iret hx hr dX9_then_33 rfl rfl (q_j (by unfold thenA; subst_vars; (repeat (first | rw [if_pos (by omega)] | rw [if_neg (by omega)])); (try rfl)) (by unfold thenA; subst_vars; (repeat (first | rw [if_pos (by omega)] | rw [if_neg (by omega)])); exact ⟨q_59.1, fr_60⟩))

set_option maxHeartbeats 4000000 in
set_option maxRecDepth 20000 in
theorem kX9_fate (g : Gt) {h : AH} {b : Nat} {S : Nat → Int → Int} {m : Int} {w : Int} (hM : RM h b S) (hV : invM S) (g_m : rgI m) (g_w : rgI w) : CnJ g mX9_fate 7 [.ref b, .int (iI m), .int (iI w)] h (fateA S m w).1 (QM h b (fateA S m w).2) := by
  refine Cn.mk (by decide +kernel) (Nat.le_of_ble_eq_true rfl) ?_
  intro x sz hx hr
  show Zj g x (sz, 0, 0) h 0 [(0, .ref b), (1, .int (iI m)), (2, .int (iI w))] []
  obtain ⟨m0, m1, m2, m3, m4, m5, m6, m7, m8⟩ := hM
  have hN := hV.1
  have hI := hN.1
  have hn := hI.n
  have hTo : outR (S 2) := hV.2.1
  refine z_iload_n hx dX9_fate_0 rfl 1 rfl ?_
  refine z_iconst hx dX9_fate_1 ?_
  refine z_bipush hx dX9_fate_2 (by decide) ?_
  refine z_cSI (as := [.int (iI m), .int (iI 0), .int (iI 40)]) (rest := []) hx dX9_fate_4 lk_X9_43 wt_X9_in mo_X9_in (kX9_in g (a := m) (b := 0) (c := 40) (by omega) (by omega) (by omega)) (by decide) rfl rfl (Nat.le_of_ble_eq_true rfl) ?_
  refine z_ifeq_b (tgt := 19) hx dX9_fate_7 (by decide)  (fun c_1 => ?_) (fun c_1 => ?_)
  ·
    refine z_aload_n hx dX9_fate_19 rfl 0 rfl ?_
    refine z_cVJ (as := []) (rest := []) hx dX9_fate_20 lk_X9_55 wm_X9_bad wv_X9_bad (rcv_obj hx m0 rfl) mo_X9_bad (kX9_bad g  ⟨m0, m1, m2, m3, m4, m5, m6, m7, m8⟩) (by decide) rfl rfl (Nat.le_of_ble_eq_true rfl) (fun h_2 q_3 => ?_)
    have fr_4 : Fr h h_2 b 9 := q_3.2.wd (by omega) (by omega)
    refine z_iret hx hr dX9_fate_23 rfl rfl (q_j (by unfold fateA; subst_vars; (repeat (first | rw [if_pos (by omega)] | rw [if_neg (by omega)])); (try rfl)) (by unfold fateA; subst_vars; (repeat (first | rw [if_pos (by omega)] | rw [if_neg (by omega)])); exact ⟨q_3.1, fr_4⟩))
  ·
    refine z_iload_n hx dX9_fate_10 rfl 2 rfl ?_
    refine z_iconst hx dX9_fate_11 ?_
    refine z_iconst hx dX9_fate_12 ?_
    refine z_cSI (as := [.int (iI w), .int (iI 0), .int (iI 2)]) (rest := []) hx dX9_fate_13 lk_X9_43 wt_X9_in mo_X9_in (kX9_in g (a := w) (b := 0) (c := 2) (by omega) (by omega) (by omega)) (by decide) rfl rfl (Nat.le_of_ble_eq_true rfl) ?_
    refine z_ifne_b (tgt := 24) hx dX9_fate_16 (by decide)  (fun c_5 => ?_) (fun c_5 => ?_)
    ·
      refine z_aload_n hx dX9_fate_24 rfl 0 rfl ?_
      refine z_cVV (as := []) (rest := []) hx dX9_fate_25 lk_X9_211 wm_X9_copyNow wv_X9_copyNow (rcv_obj hx m0 rfl) mo_X9_copyNow (kX9_copyNow g (S := S)  ⟨m0, m1, m2, m3, m4, m5, m6, m7, m8⟩ ) (by decide) rfl rfl (Nat.le_of_ble_eq_true rfl) (fun h_6 q_7 => ?_)
      obtain ⟨⟨p_8, p_9, p_10, p_11, p_12, p_13, p_14, p_15, p_16⟩, hf_17⟩ := q_7
      have m_18 : h_6 b = some (.inr (.inr (7, [.ref (b + 1), .ref (b + 2), .ref (b + 3), .ref (b + 4), .ref (b + 5), .ref (b + 6), .long (lI (S 0 6)), .long (lI (S 0 7)), .int (iI (S 0 8)), .ref (b + 7), .int (iI (S 0 10)), .int (iI (S 0 11)), .int (iI (S 0 12)), .int (iI (S 0 13)), .long (lI (S 0 14)), .int (iI (S 0 15)), .ref (b + 8)]))) := p_8
      have m_19 : h_6 (b + 1) = some (.inl (0, 267, S 1)) := p_9
      have m_20 : h_6 (b + 2) = some (.inl (0, 267, cpn ((S 1)) ((S 2)))) := p_10
      have m_21 : h_6 (b + 3) = some (.inl (0, 267, S 3)) := p_11
      have m_22 : h_6 (b + 4) = some (.inl (0, 534, S 4)) := p_12
      have m_23 : h_6 (b + 5) = some (.inl (2, 2, S 5)) := p_13
      have m_24 : h_6 (b + 6) = some (.inl (0, 3, S 6)) := p_14
      have m_25 : h_6 (b + 7) = some (.inl (0, 150, S 7)) := p_15
      have m_26 : h_6 (b + 8) = some (.inl (0, 4, S 8)) := p_16
      obtain ⟨f_27, ef_27⟩ : ∃ F : Int → Int, F = cpn ((S 1)) ((S 2)) := ⟨_, rfl⟩
      rw [← ef_27] at m_20
      have fr_28 : Fr h h_6 b 9 := hf_17.wd (by omega) (by omega)
      have icp : inv f_27 := by rw [ef_27]; exact inv_cpn hI hTo
      have c37 : f_27 37 = S 1 37 := by rw [ef_27]; exact cpn_in (by decide)
      refine z_aload_n hx dX9_fate_28 rfl 0 rfl ?_
      refine z_iload_n hx dX9_fate_29 rfl 1 rfl ?_
      refine z_cVV (as := [.int (iI m)]) (rest := []) hx dX9_fate_30 lk_X9_214 wm_X9_goOn wv_X9_goOn (rcv_obj hx m_18 rfl) mo_X9_goOn (kX9_goOn g (S := (sst S 2 f_27)) (m := m) ⟨m_18, m_19, m_20, m_21, m_22, m_23, m_24, m_25, m_26⟩ (by omega) (by exact icp) (by omega)) (by decide) rfl rfl (Nat.le_of_ble_eq_true rfl) (fun h_29 q_30 => ?_)
      obtain ⟨⟨p_31, p_32, p_33, p_34, p_35, p_36, p_37, p_38, p_39⟩, hf_40⟩ := q_30
      have m_41 : h_29 b = some (.inr (.inr (7, [.ref (b + 1), .ref (b + 2), .ref (b + 3), .ref (b + 4), .ref (b + 5), .ref (b + 6), .long (lI (S 0 6)), .long (lI (S 0 7)), .int (iI (S 0 8)), .ref (b + 7), .int (iI (S 0 10)), .int (iI (S 0 11)), .int (iI (S 0 12)), .int (iI (S 0 13)), .long (lI (S 0 14)), .int (iI (S 0 15)), .ref (b + 8)]))) := p_31
      have m_42 : h_29 (b + 1) = some (.inl (0, 267, S 1)) := p_32
      have m_43 : h_29 (b + 2) = some (.inl (0, 267, gon m (f_27))) := p_33
      have m_44 : h_29 (b + 3) = some (.inl (0, 267, S 3)) := p_34
      have m_45 : h_29 (b + 4) = some (.inl (0, 534, S 4)) := p_35
      have m_46 : h_29 (b + 5) = some (.inl (2, 2, S 5)) := p_36
      have m_47 : h_29 (b + 6) = some (.inl (0, 3, S 6)) := p_37
      have m_48 : h_29 (b + 7) = some (.inl (0, 150, S 7)) := p_38
      have m_49 : h_29 (b + 8) = some (.inl (0, 4, S 8)) := p_39
      obtain ⟨f_50, ef_50⟩ : ∃ F : Int → Int, F = gon m (f_27) := ⟨_, rfl⟩
      rw [← ef_50] at m_43
      have iv_51 := inv_gon icp (m := m) (by omega)
      rw [← ef_50] at iv_51
      have fr_52 := fr_28.tr (hf_40.wd (by omega) (by omega))
      refine z_iload_n hx dX9_fate_33 rfl 2 rfl ?_
      refine z_if_ne (tgt := 50) hx dX9_fate_34 (by decide) (by omega) (fun c_53 => ?_) (fun c_53 => ?_)
      ·
        refine z_iload_n hx dX9_fate_50 rfl 2 rfl ?_
        refine z_iconst hx dX9_fate_51 ?_
        refine z_icmp_ne (tgt := 65) hx dX9_fate_52 (by decide) (by omega) (by decide) (fun c_54 => ?_) (fun c_54 => ?_)
        ·
          refine z_aload_n hx dX9_fate_65 rfl 0 rfl ?_
          refine z_get hx dX9_fate_66 fl_X9_13 m_41 rfl ?_
          refine z_cSI (as := [.ref (b + 2)]) (rest := []) hx dX9_fate_69 lk_X9_218 wt_X9_underAll mo_X9_underAll (kX9_underAll g  m_43 iv_51.1 ) (by decide) rfl rfl (Nat.le_of_ble_eq_true rfl) ?_
          have f_55 := una_rg iv_51.1
          refine z_iret hx hr dX9_fate_72 rfl rfl (q_j (by unfold fateA; subst_vars; (repeat (first | rw [if_pos (by omega)] | rw [if_neg (by omega)])); (try rfl)) (by unfold fateA; subst_vars; (repeat (first | rw [if_pos (by omega)] | rw [if_neg (by omega)])); exact ⟨⟨m_41, m_42, m_43, m_44, m_45, m_46, m_47, m_48, m_49⟩, fr_52⟩))
        ·
          refine z_aload_n hx dX9_fate_55 rfl 0 rfl ?_
          refine z_get hx dX9_fate_56 fl_X9_13 m_41 rfl ?_
          refine z_cSI (as := [.ref (b + 2)]) (rest := []) hx dX9_fate_59 lk_X9_190 wt_X9_takenIn mo_X9_takenIn (kX9_takenIn g  m_43 iv_51.1 ) (by decide) rfl rfl (Nat.le_of_ble_eq_true rfl) ?_
          have f_56 := tkn_rg iv_51.1
          refine z_goto (tgt := 72) hx dX9_fate_62 (by decide) ?_
          refine z_iret hx hr dX9_fate_72 rfl rfl (q_j (by unfold fateA; subst_vars; (repeat (first | rw [if_pos (by omega)] | rw [if_neg (by omega)])); (try rfl)) (by unfold fateA; subst_vars; (repeat (first | rw [if_pos (by omega)] | rw [if_neg (by omega)])); exact ⟨⟨m_41, m_42, m_43, m_44, m_45, m_46, m_47, m_48, m_49⟩, fr_52⟩))
      ·
        refine z_aload_n hx dX9_fate_37 rfl 0 rfl ?_
        refine z_get hx dX9_fate_38 fl_X9_13 m_41 rfl ?_
        refine z_cSI (as := [.ref (b + 2)]) (rest := []) hx dX9_fate_41 lk_X9_190 wt_X9_takenIn mo_X9_takenIn (kX9_takenIn g  m_43 iv_51.1 ) (by decide) rfl rfl (Nat.le_of_ble_eq_true rfl) ?_
        have f_57 := tkn_rg iv_51.1
        refine z_cSI (as := [.int (iI (tkn f_50))]) (rest := []) hx dX9_fate_44 lk_X9_155 wt_X9_bits mo_X9_bits (kX9_bits g (v := (tkn f_50)) (by omega)) (by decide) rfl rfl (Nat.le_of_ble_eq_true rfl) ?_
        have f_58 := popc_rg (v := (tkn f_50))
        refine z_goto (tgt := 72) hx dX9_fate_47 (by decide) ?_
        refine z_iret hx hr dX9_fate_72 rfl rfl (q_j (by unfold fateA; subst_vars; (repeat (first | rw [if_pos (by omega)] | rw [if_neg (by omega)])); (try rfl)) (by unfold fateA; subst_vars; (repeat (first | rw [if_pos (by omega)] | rw [if_neg (by omega)])); exact ⟨⟨m_41, m_42, m_43, m_44, m_45, m_46, m_47, m_48, m_49⟩, fr_52⟩))
    ·
      refine z_aload_n hx dX9_fate_19 rfl 0 rfl ?_
      refine z_cVJ (as := []) (rest := []) hx dX9_fate_20 lk_X9_55 wm_X9_bad wv_X9_bad (rcv_obj hx m0 rfl) mo_X9_bad (kX9_bad g  ⟨m0, m1, m2, m3, m4, m5, m6, m7, m8⟩) (by decide) rfl rfl (Nat.le_of_ble_eq_true rfl) (fun h_59 q_60 => ?_)
      have fr_61 : Fr h h_59 b 9 := q_60.2.wd (by omega) (by omega)
      refine z_iret hx hr dX9_fate_23 rfl rfl (q_j (by unfold fateA; subst_vars; (repeat (first | rw [if_pos (by omega)] | rw [if_neg (by omega)])); (try rfl)) (by unfold fateA; subst_vars; (repeat (first | rw [if_pos (by omega)] | rw [if_neg (by omega)])); exact ⟨q_60.1, fr_61⟩))

set_option maxHeartbeats 4000000 in
set_option maxRecDepth 20000 in
theorem kX9_when (g : Gt) {h : AH} {b : Nat} {S : Nat → Int → Int} {p : Int} (hM : RM h b S) (hV : invM S) (g_p : rgI p) : CnJ g mX9_when 6 [.ref b, .int (iI p)] h (whenA S p).1 (QM h b (whenA S p).2) := by
  refine Cn.mk (by decide +kernel) (Nat.le_of_ble_eq_true rfl) ?_
  intro x sz hx hr
  show Zj g x (sz, 0, 0) h 0 [(0, .ref b), (1, .int (iI p))] []
  obtain ⟨m0, m1, m2, m3, m4, m5, m6, m7, m8⟩ := hM
  have hN := hV.1
  have hI := hN.1
  have hn := hI.n
  have hTo : outR (S 2) := hV.2.1
  refine z_aload_n hx dX9_when_0 rfl 0 rfl ?_
  refine z_iload_n hx dX9_when_1 rfl 1 rfl ?_
  refine z_cVI (as := [.int (iI p)]) (rest := []) hx dX9_when_2 lk_X9_204 wm_X9_isHunted wv_X9_isHunted (rcv_obj hx m0 rfl) mo_X9_isHunted (kX9_isHunted g (S := S) ⟨m0, m1, m2, m3, m4, m5, m6, m7, m8⟩ hI (by first | exact g_p | omega)) (by decide) rfl rfl (Nat.le_of_ble_eq_true rfl) ?_
  refine z_ifne_b (tgt := 13) hx dX9_when_5 (by decide)  (fun c_1 => ?_) (fun c_1 => ?_)
  ·
    refine z_aload_n hx dX9_when_13 rfl 0 rfl ?_
    refine z_cVV (as := []) (rest := []) hx dX9_when_14 lk_X9_211 wm_X9_copyNow wv_X9_copyNow (rcv_obj hx m0 rfl) mo_X9_copyNow (kX9_copyNow g (S := S)  ⟨m0, m1, m2, m3, m4, m5, m6, m7, m8⟩ ) (by decide) rfl rfl (Nat.le_of_ble_eq_true rfl) (fun h_2 q_3 => ?_)
    obtain ⟨⟨p_4, p_5, p_6, p_7, p_8, p_9, p_10, p_11, p_12⟩, hf_13⟩ := q_3
    have m_14 : h_2 b = some (.inr (.inr (7, [.ref (b + 1), .ref (b + 2), .ref (b + 3), .ref (b + 4), .ref (b + 5), .ref (b + 6), .long (lI (S 0 6)), .long (lI (S 0 7)), .int (iI (S 0 8)), .ref (b + 7), .int (iI (S 0 10)), .int (iI (S 0 11)), .int (iI (S 0 12)), .int (iI (S 0 13)), .long (lI (S 0 14)), .int (iI (S 0 15)), .ref (b + 8)]))) := p_4
    have m_15 : h_2 (b + 1) = some (.inl (0, 267, S 1)) := p_5
    have m_16 : h_2 (b + 2) = some (.inl (0, 267, cpn ((S 1)) ((S 2)))) := p_6
    have m_17 : h_2 (b + 3) = some (.inl (0, 267, S 3)) := p_7
    have m_18 : h_2 (b + 4) = some (.inl (0, 534, S 4)) := p_8
    have m_19 : h_2 (b + 5) = some (.inl (2, 2, S 5)) := p_9
    have m_20 : h_2 (b + 6) = some (.inl (0, 3, S 6)) := p_10
    have m_21 : h_2 (b + 7) = some (.inl (0, 150, S 7)) := p_11
    have m_22 : h_2 (b + 8) = some (.inl (0, 4, S 8)) := p_12
    obtain ⟨f_23, ef_23⟩ : ∃ F : Int → Int, F = cpn ((S 1)) ((S 2)) := ⟨_, rfl⟩
    rw [← ef_23] at m_16
    have fr_24 : Fr h h_2 b 9 := hf_13.wd (by omega) (by omega)
    have icp : inv f_23 := by rw [ef_23]; exact inv_cpn hI hTo
    have c37 : f_23 37 = S 1 37 := by rw [ef_23]; exact cpn_in (by decide)
    refine z_iconst hx dX9_when_17 ?_
    refine z_istore_n hx dX9_when_18 rfl (by decide) [1, 2, 0] (lv' := [(0, .ref b), (1, .int (iI p)), (2, .int (iI 1))]) rfl ?_
    have hL_25 : ∀ (mm : Nat) (v2 : Int) (g1 : Int → Int) (h_26 : AH), (1 ≤ v2 ∧ v2 ≤ 41) → (whN p (41 - v2).toNat v2 g1 = whN p 40 1 (cpn (S 1) (S 2))) → (inv g1) → (g1 37 = S 1 37) → (h_26 b = some (.inr (.inr (7, [.ref (b + 1), .ref (b + 2), .ref (b + 3), .ref (b + 4), .ref (b + 5), .ref (b + 6), .long (lI (S 0 6)), .long (lI (S 0 7)), .int (iI (S 0 8)), .ref (b + 7), .int (iI (S 0 10)), .int (iI (S 0 11)), .int (iI (S 0 12)), .int (iI (S 0 13)), .long (lI (S 0 14)), .int (iI (S 0 15)), .ref (b + 8)])))) → (h_26 (b + 1) = some (.inl (0, 267, S 1))) → (h_26 (b + 2) = some (.inl (0, 267, g1))) → (h_26 (b + 3) = some (.inl (0, 267, S 3))) → (h_26 (b + 4) = some (.inl (0, 534, S 4))) → (h_26 (b + 5) = some (.inl (2, 2, S 5))) → (h_26 (b + 6) = some (.inl (0, 3, S 6))) → (h_26 (b + 7) = some (.inl (0, 150, S 7))) → (h_26 (b + 8) = some (.inl (0, 4, S 8))) → (Fr h h_26 b 9) → (41 : Int) - v2 < (mm : Int) → Zj g x (sz, 0, 0) h_26 19 [(0, .ref b), (1, .int (iI p)), (2, .int (iI v2))] [] := by
      intro mm
      induction mm with
      | zero => intro v2 g1 h_26 kv eg ig i37 hk_28 hk_29 hg_27 hk_30 hk_31 hk_32 hk_33 hk_34 hk_35 fr_36 hm; exfalso; omega
      | succ mm ih =>
        intro v2 g1 h_26 kv eg ig i37 hk_28 hk_29 hg_27 hk_30 hk_31 hk_32 hk_33 hk_34 hk_35 fr_36 hm
        have ih_37 := ih; clear ih
        have hpp := ig.p p (by have := ig.n; omega)
        refine z_iload_n hx dX9_when_19 rfl 2 rfl ?_
        refine z_bipush hx dX9_when_20 (by decide) ?_
        refine z_icmp_gt (tgt := 68) hx dX9_when_22 (by decide) (by omega) (by decide) (fun c_38 => ?_) (fun c_38 => ?_)
        ·
          have eW : whN p (41 - v2).toNat v2 g1 = (-1, g1) := by first | exact whN_z (by omega) | exact whN_6 (by omega)
          rw [eW] at eg
          refine z_iconst hx dX9_when_68 ?_
          refine z_iret hx hr dX9_when_69 rfl rfl (q_j (by unfold whenA; (repeat (first | rw [if_pos (by omega)] | rw [if_neg (by omega)])); (try rw [← eg]); (try rfl)) (by unfold whenA; (try rw [← eg]); subst_vars; (repeat (first | rw [if_pos (by omega)] | rw [if_neg (by omega)])); exact ⟨⟨hk_28, hk_29, hg_27, hk_30, hk_31, hk_32, hk_33, hk_34, hk_35⟩, fr_36⟩))
        ·
          refine z_aload_n hx dX9_when_25 rfl 0 rfl ?_
          refine z_get hx dX9_when_26 fl_X9_13 hk_28 rfl ?_
          refine z_bipush hx dX9_when_29 (by decide) ?_
          refine z_iload_n hx dX9_when_31 rfl 1 rfl ?_
          refine z_iadd hx dX9_when_32 ?_
          refine z_iald hx dX9_when_33 hg_27 (by omega) (by decide) ?_
          have rg_39 := ig.rg ((17 + p)) (by omega)
          refine z_bipush hx dX9_when_34 (by decide) ?_
          refine z_icmp_eq (tgt := 68) hx dX9_when_36 (by decide) (by omega) (by decide) (fun c_40 => ?_) (fun c_40 => ?_)
          ·
            have eW : whN p (41 - v2).toNat v2 g1 = (-1, g1) := by first | exact whN_z (by omega) | exact whN_6 (by omega)
            rw [eW] at eg
            refine z_iconst hx dX9_when_68 ?_
            refine z_iret hx hr dX9_when_69 rfl rfl (q_j (by unfold whenA; (repeat (first | rw [if_pos (by omega)] | rw [if_neg (by omega)])); (try rw [← eg]); (try rfl)) (by unfold whenA; (try rw [← eg]); subst_vars; (repeat (first | rw [if_pos (by omega)] | rw [if_neg (by omega)])); exact ⟨⟨hk_28, hk_29, hg_27, hk_30, hk_31, hk_32, hk_33, hk_34, hk_35⟩, fr_36⟩))
          ·
            refine z_aload_n hx dX9_when_39 rfl 0 rfl ?_
            refine z_get hx dX9_when_40 fl_X9_13 hk_28 rfl ?_
            refine z_cSV (as := [.ref (b + 2)]) (rest := []) hx dX9_when_43 lk_X9_187 wt_X9_goBy mo_X9_goBy (kX9_goBy g  hg_27 ig ) (by decide) rfl rfl (Nat.le_of_ble_eq_true rfl) (fun h_41 q_42 => ?_)
            obtain ⟨hs_43, hf_44⟩ := q_42
            obtain ⟨f_45, ef_45⟩ : ∃ F : Int → Int, F = goBy g1 := ⟨_, rfl⟩
            rw [← ef_45] at hs_43
            have iv_46 := inv_goBy ig
            rw [← ef_45] at iv_46
            have h_47 := hf_44.at (by omega) hk_28
            have h_48 := hf_44.at (by omega) hk_29
            have h_49 := hf_44.at (by omega) hk_30
            have h_50 := hf_44.at (by omega) hk_31
            have h_51 := hf_44.at (by omega) hk_32
            have h_52 := hf_44.at (by omega) hk_33
            have h_53 := hf_44.at (by omega) hk_34
            have h_54 := hf_44.at (by omega) hk_35
            have fr_55 := fr_36.tr (hf_44.wd (by omega) (by omega))
            have eG := ef_45
            have igG : inv f_45 := iv_46.1
            have cG : f_45 37 = S 1 37 := by rw [eG, (inv_goBy ig).2 37 (by decide)]; exact i37
            have hpG := igG.p p (by have := igG.n; omega)
            refine z_aload_n hx dX9_when_46 rfl 0 rfl ?_
            refine z_get hx dX9_when_47 fl_X9_13 h_47 rfl ?_
            refine z_bipush hx dX9_when_50 (by decide) ?_
            refine z_iload_n hx dX9_when_52 rfl 1 rfl ?_
            refine z_iadd hx dX9_when_53 ?_
            refine z_iald hx dX9_when_54 hs_43 (by omega) (by decide) ?_
            have rg_56 := iv_46.1.rg ((17 + p)) (by omega)
            refine z_bipush hx dX9_when_55 (by decide) ?_
            refine z_icmp_ne (tgt := 62) hx dX9_when_57 (by decide) (by omega) (by decide) (fun c_57 => ?_) (fun c_57 => ?_)
            ·
              refine z_iinc hx dX9_when_62 (by decide) 2 rfl [1, 2, 0] (lv' := [(0, .ref b), (1, .int (iI p)), (2, .int (iI (v2 + 1)))]) rfl ?_
              refine z_goto (tgt := 19) hx dX9_when_65 (by decide) ?_
              exact ih_37 _ f_45 _ (by omega) (by rw [← eg, whN_s (m := v2) (T := g1) (by omega) (by omega) (by rw [← eG]; omega), ← eG]) (by exact igG) (by exact cG) h_47 h_48 hs_43 h_49 h_50 h_51 h_52 h_53 h_54 fr_55 (by omega)
            ·
              have eW : whN p (41 - v2).toNat v2 g1 = (v2, goBy g1) := whN_t (by omega) (by omega) (by rw [← eG]; omega)
              rw [eW] at eg
              refine z_iload_n hx dX9_when_60 rfl 2 rfl ?_
              refine z_iret hx hr dX9_when_61 rfl rfl (q_j (by unfold whenA; (repeat (first | rw [if_pos (by omega)] | rw [if_neg (by omega)])); (try rw [← eg]); (try rfl)) (by unfold whenA; (try rw [← eg]); subst_vars; (repeat (first | rw [if_pos (by omega)] | rw [if_neg (by omega)])); exact ⟨⟨h_47, h_48, hs_43, h_49, h_50, h_51, h_52, h_53, h_54⟩, fr_55⟩))
    exact hL_25 (((41 : Int) - 1) + 1).toNat _ f_23 _ (by omega) (by subst_vars; rfl) (by exact icp) (by exact c37) m_14 m_15 m_16 m_17 m_18 m_19 m_20 m_21 m_22 fr_24 (by omega)
  ·
    refine z_aload_n hx dX9_when_8 rfl 0 rfl ?_
    refine z_cVJ (as := []) (rest := []) hx dX9_when_9 lk_X9_55 wm_X9_bad wv_X9_bad (rcv_obj hx m0 rfl) mo_X9_bad (kX9_bad g  ⟨m0, m1, m2, m3, m4, m5, m6, m7, m8⟩) (by decide) rfl rfl (Nat.le_of_ble_eq_true rfl) (fun h_58 q_59 => ?_)
    have fr_60 : Fr h h_58 b 9 := q_59.2.wd (by omega) (by omega)
    refine z_iret hx hr dX9_when_12 rfl rfl (q_j (by unfold whenA; (repeat (first | rw [if_pos (by omega)] | rw [if_neg (by omega)])); (try rw [← eg]); (try rfl)) (by unfold whenA; (try rw [← eg]); subst_vars; (repeat (first | rw [if_pos (by omega)] | rw [if_neg (by omega)])); exact ⟨q_59.1, fr_60⟩))

