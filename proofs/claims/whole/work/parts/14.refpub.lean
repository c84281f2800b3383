/-! the reference's public methods -/
set_option maxHeartbeats 4000000 in
set_option maxRecDepth 20000 in
theorem kX9_badBy (g : Gt) {h : AH} {b : Nat} {S : Nat → Int → Int} {v : Int} (hM : RM h b S) : CnJ g mX9_badBy 1 [.ref b, .int (iI v)] h (v) (QM h b (bdS S)) := by
  refine Cn.mk (by decide +kernel) (Nat.le_of_ble_eq_true rfl) ?_
  intro x sz hx hr
  show Zj g x (sz, 0, 0) h 0 [(0, .ref b), (1, .int (iI v))] []
  obtain ⟨m0, m1, m2, m3, m4, m5, m6, m7, m8⟩ := hM
  refine z_aload_n hx dX9_badBy_0 rfl 0 rfl ?_
  refine z_get hx dX9_badBy_1 fl_X9_26 m0 rfl ?_
  refine z_iconst hx dX9_badBy_4 ?_
  refine z_dup2 hx dX9_badBy_5 rfl rfl ?_
  refine z_iald hx dX9_badBy_6 m6 (by decide) (by decide) ?_
  refine z_iconst hx dX9_badBy_7 ?_
  refine z_iadd hx dX9_badBy_8 ?_
  refine z_iastQ hx dX9_badBy_9 m6 (by decide) (by decide) (fun h_1 hs_2 hf_3 => ?_)
  have h_4 := hf_3.at (by omega) m0
  have h_5 := hf_3.at (by omega) m1
  have h_6 := hf_3.at (by omega) m2
  have h_7 := hf_3.at (by omega) m3
  have h_8 := hf_3.at (by omega) m4
  have h_9 := hf_3.at (by omega) m5
  have h_10 := hf_3.at (by omega) m7
  have h_11 := hf_3.at (by omega) m8
  have fr_12 : Fr h h_1 b 9 := hf_3.wd (by omega) (by omega)
  refine z_iload_n hx dX9_badBy_10 rfl 1 rfl ?_
  refine z_iret hx hr dX9_badBy_11 rfl rfl (q_j rfl ⟨⟨h_4, h_5, h_6, h_7, h_8, h_9, hs_2, h_10, h_11⟩, fr_12⟩)

set_option maxHeartbeats 4000000 in
set_option maxRecDepth 20000 in
theorem kX9_bad (g : Gt) {h : AH} {b : Nat} {S : Nat → Int → Int}  (hM : RM h b S) : CnJ g mX9_bad 2 [.ref b] h (-2) (QM h b (bdS S)) := by
  refine Cn.mk (by decide +kernel) (Nat.le_of_ble_eq_true rfl) ?_
  intro x sz hx hr
  show Zj g x (sz, 0, 0) h 0 [(0, .ref b)] []
  obtain ⟨m0, m1, m2, m3, m4, m5, m6, m7, m8⟩ := hM
  refine z_aload_n hx dX9_bad_0 rfl 0 rfl ?_
  refine z_bipush hx dX9_bad_1 (by decide) ?_
  refine z_cVJ (as := [.int (iI (-2))]) (rest := []) hx dX9_bad_3 lk_X9_39 wm_X9_badBy wv_X9_badBy (rcv_obj hx m0 rfl) mo_X9_badBy (kX9_badBy g (v := (-2)) ⟨m0, m1, m2, m3, m4, m5, m6, m7, m8⟩) (by decide) rfl rfl (Nat.le_of_ble_eq_true rfl) (fun h_1 q_2 => ?_)
  have fr_3 : Fr h h_1 b 9 := q_2.2.wd (by omega) (by omega)
  refine z_iret hx hr dX9_bad_6 rfl rfl (q_j rfl ⟨q_2.1, fr_3⟩)

set_option maxHeartbeats 4000000 in
set_option maxRecDepth 20000 in
theorem kX9_no (g : Gt) {h : AH} {b : Nat} {S : Nat → Int → Int}  (hM : RM h b S) : CnJ g mX9_no 1 [.ref b] h (-3) (QM h b (noS S)) := by
  refine Cn.mk (by decide +kernel) (Nat.le_of_ble_eq_true rfl) ?_
  intro x sz hx hr
  show Zj g x (sz, 0, 0) h 0 [(0, .ref b)] []
  obtain ⟨m0, m1, m2, m3, m4, m5, m6, m7, m8⟩ := hM
  refine z_aload_n hx dX9_no_0 rfl 0 rfl ?_
  refine z_get hx dX9_no_1 fl_X9_26 m0 rfl ?_
  refine z_iconst hx dX9_no_4 ?_
  refine z_dup2 hx dX9_no_5 rfl rfl ?_
  refine z_iald hx dX9_no_6 m6 (by decide) (by decide) ?_
  refine z_iconst hx dX9_no_7 ?_
  refine z_iadd hx dX9_no_8 ?_
  refine z_iastQ hx dX9_no_9 m6 (by decide) (by decide) (fun h_1 hs_2 hf_3 => ?_)
  have h_4 := hf_3.at (by omega) m0
  have h_5 := hf_3.at (by omega) m1
  have h_6 := hf_3.at (by omega) m2
  have h_7 := hf_3.at (by omega) m3
  have h_8 := hf_3.at (by omega) m4
  have h_9 := hf_3.at (by omega) m5
  have h_10 := hf_3.at (by omega) m7
  have h_11 := hf_3.at (by omega) m8
  have fr_12 : Fr h h_1 b 9 := hf_3.wd (by omega) (by omega)
  refine z_bipush hx dX9_no_10 (by decide) ?_
  refine z_iret hx hr dX9_no_12 rfl rfl (q_j rfl ⟨⟨h_4, h_5, h_6, h_7, h_8, h_9, hs_2, h_10, h_11⟩, fr_12⟩)

set_option maxHeartbeats 4000000 in
set_option maxRecDepth 20000 in
theorem kX9_full (g : Gt) {h : AH} {b : Nat} {S : Nat → Int → Int}  (hM : RM h b S) : CnJ g mX9_full 1 [.ref b] h (-4) (QM h b (fuS S)) := by
  refine Cn.mk (by decide +kernel) (Nat.le_of_ble_eq_true rfl) ?_
  intro x sz hx hr
  show Zj g x (sz, 0, 0) h 0 [(0, .ref b)] []
  obtain ⟨m0, m1, m2, m3, m4, m5, m6, m7, m8⟩ := hM
  refine z_aload_n hx dX9_full_0 rfl 0 rfl ?_
  refine z_get hx dX9_full_1 fl_X9_26 m0 rfl ?_
  refine z_iconst hx dX9_full_4 ?_
  refine z_dup2 hx dX9_full_5 rfl rfl ?_
  refine z_iald hx dX9_full_6 m6 (by decide) (by decide) ?_
  refine z_iconst hx dX9_full_7 ?_
  refine z_iadd hx dX9_full_8 ?_
  refine z_iastQ hx dX9_full_9 m6 (by decide) (by decide) (fun h_1 hs_2 hf_3 => ?_)
  have h_4 := hf_3.at (by omega) m0
  have h_5 := hf_3.at (by omega) m1
  have h_6 := hf_3.at (by omega) m2
  have h_7 := hf_3.at (by omega) m3
  have h_8 := hf_3.at (by omega) m4
  have h_9 := hf_3.at (by omega) m5
  have h_10 := hf_3.at (by omega) m7
  have h_11 := hf_3.at (by omega) m8
  have fr_12 : Fr h h_1 b 9 := hf_3.wd (by omega) (by omega)
  refine z_bipush hx dX9_full_10 (by decide) ?_
  refine z_iret hx hr dX9_full_12 rfl rfl (q_j rfl ⟨⟨h_4, h_5, h_6, h_7, h_8, h_9, hs_2, h_10, h_11⟩, fr_12⟩)

set_option maxHeartbeats 4000000 in
set_option maxRecDepth 20000 in
theorem kX9_isCosy (g : Gt) {h : AH} {b : Nat} {S : Nat → Int → Int} {k : Int} (hM : RM h b S) (hI : inv (S 1)) (hk : rgI k) : CnI g mX9_isCosy 2 [.ref b, .int (iI k)] h (b2i (0 ≤ k ∧ k ≤ S 1 26 - 1)) := by
  refine Cn.mk (by decide +kernel) (Nat.le_of_ble_eq_true rfl) ?_
  intro x sz hx hr
  show Zj g x (sz, 0, 0) h 0 [(0, .ref b), (1, .int (iI k))] []
  obtain ⟨m0, m1, m2, m3, m4, m5, m6, m7, m8⟩ := hM
  have hn := hI.n
  refine z_iload_n hx dX9_isCosy_0 rfl 1 rfl ?_
  refine z_iconst hx dX9_isCosy_1 ?_
  refine z_aload_n hx dX9_isCosy_2 rfl 0 rfl ?_
  refine z_get hx dX9_isCosy_3 fl_X9_7 m0 rfl ?_
  refine z_bipush hx dX9_isCosy_6 (by decide) ?_
  refine z_iald hx dX9_isCosy_8 m1 (by decide) (by decide) ?_
  have rg_1 := hI.rg (26) (by decide)
  refine z_iconst hx dX9_isCosy_9 ?_
  refine z_isub hx dX9_isCosy_10 ?_
  refine z_cSI (as := [.int (iI k), .int (iI 0), .int (iI ((S 1 26) - 1))]) (rest := []) hx dX9_isCosy_11 lk_X9_43 wt_X9_in mo_X9_in (kX9_in g (a := k) (b := 0) (c := ((S 1 26) - 1)) (by omega) (by omega) (by omega)) (by decide) rfl rfl (Nat.le_of_ble_eq_true rfl) ?_
  refine z_iret hx hr dX9_isCosy_14 rfl (nar_b (b2i_01 _)) (q_i (by rfl))

set_option maxHeartbeats 4000000 in
set_option maxRecDepth 20000 in
theorem kX9_isHunted (g : Gt) {h : AH} {b : Nat} {S : Nat → Int → Int} {k : Int} (hM : RM h b S) (hI : inv (S 1)) (hk : rgI k) : CnI g mX9_isHunted 2 [.ref b, .int (iI k)] h (b2i (0 ≤ k ∧ k ≤ S 1 37 - 1)) := by
  refine Cn.mk (by decide +kernel) (Nat.le_of_ble_eq_true rfl) ?_
  intro x sz hx hr
  show Zj g x (sz, 0, 0) h 0 [(0, .ref b), (1, .int (iI k))] []
  obtain ⟨m0, m1, m2, m3, m4, m5, m6, m7, m8⟩ := hM
  have hn := hI.n
  refine z_iload_n hx dX9_isHunted_0 rfl 1 rfl ?_
  refine z_iconst hx dX9_isHunted_1 ?_
  refine z_aload_n hx dX9_isHunted_2 rfl 0 rfl ?_
  refine z_get hx dX9_isHunted_3 fl_X9_7 m0 rfl ?_
  refine z_bipush hx dX9_isHunted_6 (by decide) ?_
  refine z_iald hx dX9_isHunted_8 m1 (by decide) (by decide) ?_
  have rg_1 := hI.rg (37) (by decide)
  refine z_iconst hx dX9_isHunted_9 ?_
  refine z_isub hx dX9_isHunted_10 ?_
  refine z_cSI (as := [.int (iI k), .int (iI 0), .int (iI ((S 1 37) - 1))]) (rest := []) hx dX9_isHunted_11 lk_X9_43 wt_X9_in mo_X9_in (kX9_in g (a := k) (b := 0) (c := ((S 1 37) - 1)) (by omega) (by omega) (by omega)) (by decide) rfl rfl (Nat.le_of_ble_eq_true rfl) ?_
  refine z_iret hx hr dX9_isHunted_14 rfl (nar_b (b2i_01 _)) (q_i (by rfl))

set_option maxHeartbeats 4000000 in
set_option maxRecDepth 20000 in
theorem kX9_common (g : Gt) {h : AH} {b : Nat} {S : Nat → Int → Int}  (hM : RM h b S) (hV : invM S)  : CnJ g mX9_common 2 [.ref b] h (commonA S).1 (QM h b (commonA S).2) := by
  refine Cn.mk (by decide +kernel) (Nat.le_of_ble_eq_true rfl) ?_
  intro x sz hx hr
  show Zj g x (sz, 0, 0) h 0 [(0, .ref b)] []
  obtain ⟨m0, m1, m2, m3, m4, m5, m6, m7, m8⟩ := hM
  have hN := hV.1
  have hI := hN.1
  have hn := hI.n
  refine z_aload_n hx dX9_common_0 rfl 0 rfl ?_
  refine z_get hx dX9_common_1 fl_X9_7 m0 rfl ?_
  refine z_bipush hx dX9_common_4 (by decide) ?_
  refine z_iald hx dX9_common_6 m1 (by decide) (by decide) ?_
  have rg_1 := hI.rg (26) (by decide)
  refine z_istore_n hx dX9_common_7 rfl (by decide) [1, 0] (lv' := [(0, .ref b), (1, .int (iI (S 1 26)))]) rfl ?_
  refine z_aload_n hx dX9_common_8 rfl 0 rfl ?_
  refine z_get hx dX9_common_9 fl_X9_7 m0 rfl ?_
  refine z_cSV (as := [.ref (b + 1)]) (rest := []) hx dX9_common_12 lk_X9_47 wt_X9_begin mo_X9_begin (kX9_begin g  m1  ) (by decide) rfl rfl (Nat.le_of_ble_eq_true rfl) (fun h_2 q_3 => ?_)
  obtain ⟨hs_4, hf_5⟩ := q_3
  obtain ⟨f_6, ef_6⟩ : ∃ F : Int → Int, F = beg (S 1) := ⟨_, rfl⟩
  rw [← ef_6] at hs_4
  have h_7 := hf_5.at (by omega) m0
  have h_8 := hf_5.at (by omega) m2
  have h_9 := hf_5.at (by omega) m3
  have h_10 := hf_5.at (by omega) m4
  have h_11 := hf_5.at (by omega) m5
  have h_12 := hf_5.at (by omega) m6
  have h_13 := hf_5.at (by omega) m7
  have h_14 := hf_5.at (by omega) m8
  have fr_15 : Fr h h_2 b 9 := hf_5.wd (by omega) (by omega)
  refine z_iload_n hx dX9_common_15 rfl 1 rfl ?_
  refine z_iret hx hr dX9_common_16 rfl rfl (q_j (by subst_vars; rfl) (by subst_vars; exact ⟨⟨h_7, hs_4, h_8, h_9, h_10, h_11, h_12, h_13, h_14⟩, fr_15⟩))

set_option maxHeartbeats 4000000 in
set_option maxRecDepth 20000 in
theorem kX9_cosy (g : Gt) {h : AH} {b : Nat} {S : Nat → Int → Int} {k : Int} {c : Int} {s : Int} (hM : RM h b S) (hV : invM S) (g_k : rgI k) (g_c : rgI c) (g_s : rgI s) : CnJ g mX9_cosy 3 [.ref b, .int (iI k), .int (iI c), .int (iI s)] h (cosyA S k c s).1 (QM h b (cosyA S k c s).2) := by
  refine Cn.mk (by decide +kernel) (Nat.le_of_ble_eq_true rfl) ?_
  intro x sz hx hr
  show Zj g x (sz, 0, 0) h 0 [(0, .ref b), (1, .int (iI k)), (2, .int (iI c)), (3, .int (iI s))] []
  obtain ⟨m0, m1, m2, m3, m4, m5, m6, m7, m8⟩ := hM
  have hN := hV.1
  have hI := hN.1
  have hn := hI.n
  refine z_iload_n hx dX9_cosy_0 rfl 1 rfl ?_
  refine z_iconst hx dX9_cosy_1 ?_
  refine z_iconst hx dX9_cosy_2 ?_
  refine z_cSI (as := [.int (iI k), .int (iI 0), .int (iI 5)]) (rest := []) hx dX9_cosy_3 lk_X9_43 wt_X9_in mo_X9_in (kX9_in g (a := k) (b := 0) (c := 5) (by omega) (by omega) (by omega)) (by decide) rfl rfl (Nat.le_of_ble_eq_true rfl) ?_
  refine z_ifeq_b (tgt := 25) hx dX9_cosy_6 (by decide)  (fun c_1 => ?_) (fun c_1 => ?_)
  ·
    refine z_aload_n hx dX9_cosy_25 rfl 0 rfl ?_
    refine z_cVJ (as := []) (rest := []) hx dX9_cosy_26 lk_X9_55 wm_X9_bad wv_X9_bad (rcv_obj hx m0 rfl) mo_X9_bad (kX9_bad g  ⟨m0, m1, m2, m3, m4, m5, m6, m7, m8⟩) (by decide) rfl rfl (Nat.le_of_ble_eq_true rfl) (fun h_2 q_3 => ?_)
    have fr_4 : Fr h h_2 b 9 := q_3.2.wd (by omega) (by omega)
    refine z_iret hx hr dX9_cosy_29 rfl rfl (q_j (by unfold cosyA; subst_vars; (repeat (first | rw [if_pos (by omega)] | rw [if_neg (by omega)])); (try rfl)) (by unfold cosyA; subst_vars; (repeat (first | rw [if_pos (by omega)] | rw [if_neg (by omega)])); exact ⟨q_3.1, fr_4⟩))
  ·
    refine z_iload_n hx dX9_cosy_9 rfl 2 rfl ?_
    refine z_cSI (as := [.int (iI c)]) (rest := []) hx dX9_cosy_10 lk_X9_51 wt_X9_isCell mo_X9_isCell (kX9_isCell g (c := c) (by omega)) (by decide) rfl rfl (Nat.le_of_ble_eq_true rfl) ?_
    refine z_ifeq_b (tgt := 25) hx dX9_cosy_13 (by decide)  (fun c_5 => ?_) (fun c_5 => ?_)
    ·
      refine z_aload_n hx dX9_cosy_25 rfl 0 rfl ?_
      refine z_cVJ (as := []) (rest := []) hx dX9_cosy_26 lk_X9_55 wm_X9_bad wv_X9_bad (rcv_obj hx m0 rfl) mo_X9_bad (kX9_bad g  ⟨m0, m1, m2, m3, m4, m5, m6, m7, m8⟩) (by decide) rfl rfl (Nat.le_of_ble_eq_true rfl) (fun h_6 q_7 => ?_)
      have fr_8 : Fr h h_6 b 9 := q_7.2.wd (by omega) (by omega)
      refine z_iret hx hr dX9_cosy_29 rfl rfl (q_j (by unfold cosyA; subst_vars; (repeat (first | rw [if_pos (by omega)] | rw [if_neg (by omega)])); (try rfl)) (by unfold cosyA; subst_vars; (repeat (first | rw [if_pos (by omega)] | rw [if_neg (by omega)])); exact ⟨q_7.1, fr_8⟩))
    ·
      refine z_iload_n hx dX9_cosy_16 rfl 3 rfl ?_
      refine z_iconst hx dX9_cosy_17 ?_
      refine z_iconst hx dX9_cosy_18 ?_
      refine z_cSI (as := [.int (iI s), .int (iI 1), .int (iI 4)]) (rest := []) hx dX9_cosy_19 lk_X9_43 wt_X9_in mo_X9_in (kX9_in g (a := s) (b := 1) (c := 4) (by omega) (by omega) (by omega)) (by decide) rfl rfl (Nat.le_of_ble_eq_true rfl) ?_
      refine z_ifne_b (tgt := 30) hx dX9_cosy_22 (by decide)  (fun c_9 => ?_) (fun c_9 => ?_)
      ·
        refine z_aload_n hx dX9_cosy_30 rfl 0 rfl ?_
        refine z_get hx dX9_cosy_31 fl_X9_7 m0 rfl ?_
        refine z_bipush hx dX9_cosy_34 (by decide) ?_
        refine z_iald hx dX9_cosy_36 m1 (by decide) (by decide) ?_
        have rg_10 := hI.rg (26) (by decide)
        refine z_iconst hx dX9_cosy_37 ?_
        refine z_icmp_ne (tgt := 46) hx dX9_cosy_38 (by decide) (by omega) (by decide) (fun c_11 => ?_) (fun c_11 => ?_)
        ·
          refine z_aload_n hx dX9_cosy_46 rfl 0 rfl ?_
          refine z_get hx dX9_cosy_47 fl_X9_7 m0 rfl ?_
          refine z_bipush hx dX9_cosy_50 (by decide) ?_
          refine z_iconst hx dX9_cosy_52 ?_
          refine z_iastQ hx dX9_cosy_53 m1 (by decide) (by decide) (fun h_12 hs_13 hf_14 => ?_)
          have h_15 := hf_14.at (by omega) m0
          have h_16 := hf_14.at (by omega) m2
          have h_17 := hf_14.at (by omega) m3
          have h_18 := hf_14.at (by omega) m4
          have h_19 := hf_14.at (by omega) m5
          have h_20 := hf_14.at (by omega) m6
          have h_21 := hf_14.at (by omega) m7
          have h_22 := hf_14.at (by omega) m8
          have fr_23 : Fr h h_12 b 9 := hf_14.wd (by omega) (by omega)
          refine z_aload_n hx dX9_cosy_54 rfl 0 rfl ?_
          refine z_get hx dX9_cosy_55 fl_X9_7 h_15 rfl ?_
          refine z_iload_n hx dX9_cosy_58 rfl 1 rfl ?_
          refine z_iload_n hx dX9_cosy_59 rfl 2 rfl ?_
          refine z_iload_n hx dX9_cosy_60 rfl 3 rfl ?_
          refine z_cSJ (as := [.ref (b + 1), .int (iI k), .int (iI c), .int (iI s)]) (rest := []) hx dX9_cosy_61 lk_X9_62 wt_X9_addCosy mo_X9_addCosy (kX9_addCosy g (k := k) (c := c) (s := s) hs_13  (by rw [fup_n (by decide)]; omega)) (by decide) rfl rfl (Nat.le_of_ble_eq_true rfl) (fun h_24 q_25 => ?_)
          obtain ⟨hs_26, hf_27⟩ := q_25
          obtain ⟨f_28, ef_28⟩ : ∃ F : Int → Int, F = acs (fup (S 1) 58 0) k c s := ⟨_, rfl⟩
          rw [← ef_28] at hs_26
          have h_29 := hf_27.at (by omega) h_15
          have h_30 := hf_27.at (by omega) h_16
          have h_31 := hf_27.at (by omega) h_17
          have h_32 := hf_27.at (by omega) h_18
          have h_33 := hf_27.at (by omega) h_19
          have h_34 := hf_27.at (by omega) h_20
          have h_35 := hf_27.at (by omega) h_21
          have h_36 := hf_27.at (by omega) h_22
          have fr_37 := fr_23.tr (hf_27.wd (by omega) (by omega))
          refine z_iret hx hr dX9_cosy_64 rfl rfl (q_j (by unfold cosyA; subst_vars; (repeat (first | rw [if_pos (by omega)] | rw [if_neg (by omega)])); (try rfl)) (by unfold cosyA; subst_vars; (repeat (first | rw [if_pos (by omega)] | rw [if_neg (by omega)])); exact ⟨⟨h_29, hs_26, h_30, h_31, h_32, h_33, h_34, h_35, h_36⟩, fr_37⟩))
        ·
          refine z_aload_n hx dX9_cosy_41 rfl 0 rfl ?_
          refine z_cVJ (as := []) (rest := []) hx dX9_cosy_42 lk_X9_59 wm_X9_full wv_X9_full (rcv_obj hx m0 rfl) mo_X9_full (kX9_full g  ⟨m0, m1, m2, m3, m4, m5, m6, m7, m8⟩) (by decide) rfl rfl (Nat.le_of_ble_eq_true rfl) (fun h_38 q_39 => ?_)
          have fr_40 : Fr h h_38 b 9 := q_39.2.wd (by omega) (by omega)
          refine z_iret hx hr dX9_cosy_45 rfl rfl (q_j (by unfold cosyA; subst_vars; (repeat (first | rw [if_pos (by omega)] | rw [if_neg (by omega)])); (try rfl)) (by unfold cosyA; subst_vars; (repeat (first | rw [if_pos (by omega)] | rw [if_neg (by omega)])); exact ⟨q_39.1, fr_40⟩))
      ·
        refine z_aload_n hx dX9_cosy_25 rfl 0 rfl ?_
        refine z_cVJ (as := []) (rest := []) hx dX9_cosy_26 lk_X9_55 wm_X9_bad wv_X9_bad (rcv_obj hx m0 rfl) mo_X9_bad (kX9_bad g  ⟨m0, m1, m2, m3, m4, m5, m6, m7, m8⟩) (by decide) rfl rfl (Nat.le_of_ble_eq_true rfl) (fun h_41 q_42 => ?_)
        have fr_43 : Fr h h_41 b 9 := q_42.2.wd (by omega) (by omega)
        refine z_iret hx hr dX9_cosy_29 rfl rfl (q_j (by unfold cosyA; subst_vars; (repeat (first | rw [if_pos (by omega)] | rw [if_neg (by omega)])); (try rfl)) (by unfold cosyA; subst_vars; (repeat (first | rw [if_pos (by omega)] | rw [if_neg (by omega)])); exact ⟨q_42.1, fr_43⟩))

set_option maxHeartbeats 4000000 in
set_option maxRecDepth 20000 in
theorem kX9_hunted (g : Gt) {h : AH} {b : Nat} {S : Nat → Int → Int} {c : Int} (hM : RM h b S) (hV : invM S) (g_c : rgI c) : CnJ g mX9_hunted 3 [.ref b, .int (iI c)] h (huntedA S c).1 (QM h b (huntedA S c).2) := by
  refine Cn.mk (by decide +kernel) (Nat.le_of_ble_eq_true rfl) ?_
  intro x sz hx hr
  show Zj g x (sz, 0, 0) h 0 [(0, .ref b), (1, .int (iI c))] []
  obtain ⟨m0, m1, m2, m3, m4, m5, m6, m7, m8⟩ := hM
  have hN := hV.1
  have hI := hN.1
  have hn := hI.n
  refine z_iload_n hx dX9_hunted_0 rfl 1 rfl ?_
  refine z_cSI (as := [.int (iI c)]) (rest := []) hx dX9_hunted_1 lk_X9_51 wt_X9_isCell mo_X9_isCell (kX9_isCell g (c := c) (by omega)) (by decide) rfl rfl (Nat.le_of_ble_eq_true rfl) ?_
  refine z_ifne_b (tgt := 12) hx dX9_hunted_4 (by decide)  (fun c_1 => ?_) (fun c_1 => ?_)
  ·
    refine z_aload_n hx dX9_hunted_12 rfl 0 rfl ?_
    refine z_get hx dX9_hunted_13 fl_X9_7 m0 rfl ?_
    refine z_bipush hx dX9_hunted_16 (by decide) ?_
    refine z_iald hx dX9_hunted_18 m1 (by decide) (by decide) ?_
    have rg_2 := hI.rg (37) (by decide)
    refine z_bipush hx dX9_hunted_19 (by decide) ?_
    refine z_icmp_ne (tgt := 29) hx dX9_hunted_21 (by decide) (by omega) (by decide) (fun c_3 => ?_) (fun c_3 => ?_)
    ·
      refine z_aload_n hx dX9_hunted_29 rfl 0 rfl ?_
      refine z_get hx dX9_hunted_30 fl_X9_7 m0 rfl ?_
      refine z_bipush hx dX9_hunted_33 (by decide) ?_
      refine z_iconst hx dX9_hunted_35 ?_
      refine z_iastQ hx dX9_hunted_36 m1 (by decide) (by decide) (fun h_4 hs_5 hf_6 => ?_)
      have h_7 := hf_6.at (by omega) m0
      have h_8 := hf_6.at (by omega) m2
      have h_9 := hf_6.at (by omega) m3
      have h_10 := hf_6.at (by omega) m4
      have h_11 := hf_6.at (by omega) m5
      have h_12 := hf_6.at (by omega) m6
      have h_13 := hf_6.at (by omega) m7
      have h_14 := hf_6.at (by omega) m8
      have fr_15 : Fr h h_4 b 9 := hf_6.wd (by omega) (by omega)
      refine z_aload_n hx dX9_hunted_37 rfl 0 rfl ?_
      refine z_get hx dX9_hunted_38 fl_X9_7 h_7 rfl ?_
      refine z_iload_n hx dX9_hunted_41 rfl 1 rfl ?_
      refine z_cSJ (as := [.ref (b + 1), .int (iI c)]) (rest := []) hx dX9_hunted_42 lk_X9_66 wt_X9_addHunted mo_X9_addHunted (kX9_addHunted g (c := c) hs_5  (by rw [fup_n (by decide)]; omega)) (by decide) rfl rfl (Nat.le_of_ble_eq_true rfl) (fun h_16 q_17 => ?_)
      obtain ⟨hs_18, hf_19⟩ := q_17
      obtain ⟨f_20, ef_20⟩ : ∃ F : Int → Int, F = ahu (fup (S 1) 58 0) c := ⟨_, rfl⟩
      rw [← ef_20] at hs_18
      have h_21 := hf_19.at (by omega) h_7
      have h_22 := hf_19.at (by omega) h_8
      have h_23 := hf_19.at (by omega) h_9
      have h_24 := hf_19.at (by omega) h_10
      have h_25 := hf_19.at (by omega) h_11
      have h_26 := hf_19.at (by omega) h_12
      have h_27 := hf_19.at (by omega) h_13
      have h_28 := hf_19.at (by omega) h_14
      have fr_29 := fr_15.tr (hf_19.wd (by omega) (by omega))
      refine z_iret hx hr dX9_hunted_45 rfl rfl (q_j (by unfold huntedA; subst_vars; (repeat (first | rw [if_pos (by omega)] | rw [if_neg (by omega)])); (try rfl)) (by unfold huntedA; subst_vars; (repeat (first | rw [if_pos (by omega)] | rw [if_neg (by omega)])); exact ⟨⟨h_21, hs_18, h_22, h_23, h_24, h_25, h_26, h_27, h_28⟩, fr_29⟩))
    ·
      refine z_aload_n hx dX9_hunted_24 rfl 0 rfl ?_
      refine z_cVJ (as := []) (rest := []) hx dX9_hunted_25 lk_X9_59 wm_X9_full wv_X9_full (rcv_obj hx m0 rfl) mo_X9_full (kX9_full g  ⟨m0, m1, m2, m3, m4, m5, m6, m7, m8⟩) (by decide) rfl rfl (Nat.le_of_ble_eq_true rfl) (fun h_30 q_31 => ?_)
      have fr_32 : Fr h h_30 b 9 := q_31.2.wd (by omega) (by omega)
      refine z_iret hx hr dX9_hunted_28 rfl rfl (q_j (by unfold huntedA; subst_vars; (repeat (first | rw [if_pos (by omega)] | rw [if_neg (by omega)])); (try rfl)) (by unfold huntedA; subst_vars; (repeat (first | rw [if_pos (by omega)] | rw [if_neg (by omega)])); exact ⟨q_31.1, fr_32⟩))
  ·
    refine z_aload_n hx dX9_hunted_7 rfl 0 rfl ?_
    refine z_cVJ (as := []) (rest := []) hx dX9_hunted_8 lk_X9_55 wm_X9_bad wv_X9_bad (rcv_obj hx m0 rfl) mo_X9_bad (kX9_bad g  ⟨m0, m1, m2, m3, m4, m5, m6, m7, m8⟩) (by decide) rfl rfl (Nat.le_of_ble_eq_true rfl) (fun h_33 q_34 => ?_)
    have fr_35 : Fr h h_33 b 9 := q_34.2.wd (by omega) (by omega)
    refine z_iret hx hr dX9_hunted_11 rfl rfl (q_j (by unfold huntedA; subst_vars; (repeat (first | rw [if_pos (by omega)] | rw [if_neg (by omega)])); (try rfl)) (by unfold huntedA; subst_vars; (repeat (first | rw [if_pos (by omega)] | rw [if_neg (by omega)])); exact ⟨q_34.1, fr_35⟩))

set_option maxHeartbeats 4000000 in
set_option maxRecDepth 20000 in
theorem kX9_sheriff (g : Gt) {h : AH} {b : Nat} {S : Nat → Int → Int} {c : Int} (hM : RM h b S) (hV : invM S) (g_c : rgI c) : CnJ g mX9_sheriff 3 [.ref b, .int (iI c)] h (sheriffA S c).1 (QM h b (sheriffA S c).2) := by
  refine Cn.mk (by decide +kernel) (Nat.le_of_ble_eq_true rfl) ?_
  intro x sz hx hr
  show Zj g x (sz, 0, 0) h 0 [(0, .ref b), (1, .int (iI c))] []
  obtain ⟨m0, m1, m2, m3, m4, m5, m6, m7, m8⟩ := hM
  have hN := hV.1
  have hI := hN.1
  have hn := hI.n
  refine z_iload_n hx dX9_sheriff_0 rfl 1 rfl ?_
  refine z_cSI (as := [.int (iI c)]) (rest := []) hx dX9_sheriff_1 lk_X9_51 wt_X9_isCell mo_X9_isCell (kX9_isCell g (c := c) (by omega)) (by decide) rfl rfl (Nat.le_of_ble_eq_true rfl) ?_
  refine z_ifne_b (tgt := 12) hx dX9_sheriff_4 (by decide)  (fun c_1 => ?_) (fun c_1 => ?_)
  ·
    refine z_aload_n hx dX9_sheriff_12 rfl 0 rfl ?_
    refine z_get hx dX9_sheriff_13 fl_X9_7 m0 rfl ?_
    refine z_bipush hx dX9_sheriff_16 (by decide) ?_
    refine z_iald hx dX9_sheriff_18 m1 (by decide) (by decide) ?_
    have rg_2 := hI.rg (38) (by decide)
    refine z_iconst hx dX9_sheriff_19 ?_
    refine z_icmp_ne (tgt := 28) hx dX9_sheriff_20 (by decide) (by omega) (by decide) (fun c_3 => ?_) (fun c_3 => ?_)
    ·
      refine z_aload_n hx dX9_sheriff_28 rfl 0 rfl ?_
      refine z_get hx dX9_sheriff_29 fl_X9_7 m0 rfl ?_
      refine z_bipush hx dX9_sheriff_32 (by decide) ?_
      refine z_iconst hx dX9_sheriff_34 ?_
      refine z_iastQ hx dX9_sheriff_35 m1 (by decide) (by decide) (fun h_4 hs_5 hf_6 => ?_)
      have h_7 := hf_6.at (by omega) m0
      have h_8 := hf_6.at (by omega) m2
      have h_9 := hf_6.at (by omega) m3
      have h_10 := hf_6.at (by omega) m4
      have h_11 := hf_6.at (by omega) m5
      have h_12 := hf_6.at (by omega) m6
      have h_13 := hf_6.at (by omega) m7
      have h_14 := hf_6.at (by omega) m8
      have fr_15 : Fr h h_4 b 9 := hf_6.wd (by omega) (by omega)
      refine z_aload_n hx dX9_sheriff_36 rfl 0 rfl ?_
      refine z_get hx dX9_sheriff_37 fl_X9_7 h_7 rfl ?_
      refine z_iload_n hx dX9_sheriff_40 rfl 1 rfl ?_
      refine z_cSJ (as := [.ref (b + 1), .int (iI c)]) (rest := []) hx dX9_sheriff_41 lk_X9_70 wt_X9_addSheriff mo_X9_addSheriff (kX9_addSheriff g (c := c) hs_5  (by rw [fup_n (by decide)]; omega)) (by decide) rfl rfl (Nat.le_of_ble_eq_true rfl) (fun h_16 q_17 => ?_)
      obtain ⟨hs_18, hf_19⟩ := q_17
      obtain ⟨f_20, ef_20⟩ : ∃ F : Int → Int, F = ash (fup (S 1) 58 0) c := ⟨_, rfl⟩
      rw [← ef_20] at hs_18
      have h_21 := hf_19.at (by omega) h_7
      have h_22 := hf_19.at (by omega) h_8
      have h_23 := hf_19.at (by omega) h_9
      have h_24 := hf_19.at (by omega) h_10
      have h_25 := hf_19.at (by omega) h_11
      have h_26 := hf_19.at (by omega) h_12
      have h_27 := hf_19.at (by omega) h_13
      have h_28 := hf_19.at (by omega) h_14
      have fr_29 := fr_15.tr (hf_19.wd (by omega) (by omega))
      refine z_iret hx hr dX9_sheriff_44 rfl rfl (q_j (by unfold sheriffA; subst_vars; (repeat (first | rw [if_pos (by omega)] | rw [if_neg (by omega)])); (try rfl)) (by unfold sheriffA; subst_vars; (repeat (first | rw [if_pos (by omega)] | rw [if_neg (by omega)])); exact ⟨⟨h_21, hs_18, h_22, h_23, h_24, h_25, h_26, h_27, h_28⟩, fr_29⟩))
    ·
      refine z_aload_n hx dX9_sheriff_23 rfl 0 rfl ?_
      refine z_cVJ (as := []) (rest := []) hx dX9_sheriff_24 lk_X9_59 wm_X9_full wv_X9_full (rcv_obj hx m0 rfl) mo_X9_full (kX9_full g  ⟨m0, m1, m2, m3, m4, m5, m6, m7, m8⟩) (by decide) rfl rfl (Nat.le_of_ble_eq_true rfl) (fun h_30 q_31 => ?_)
      have fr_32 : Fr h h_30 b 9 := q_31.2.wd (by omega) (by omega)
      refine z_iret hx hr dX9_sheriff_27 rfl rfl (q_j (by unfold sheriffA; subst_vars; (repeat (first | rw [if_pos (by omega)] | rw [if_neg (by omega)])); (try rfl)) (by unfold sheriffA; subst_vars; (repeat (first | rw [if_pos (by omega)] | rw [if_neg (by omega)])); exact ⟨q_31.1, fr_32⟩))
  ·
    refine z_aload_n hx dX9_sheriff_7 rfl 0 rfl ?_
    refine z_cVJ (as := []) (rest := []) hx dX9_sheriff_8 lk_X9_55 wm_X9_bad wv_X9_bad (rcv_obj hx m0 rfl) mo_X9_bad (kX9_bad g  ⟨m0, m1, m2, m3, m4, m5, m6, m7, m8⟩) (by decide) rfl rfl (Nat.le_of_ble_eq_true rfl) (fun h_33 q_34 => ?_)
    have fr_35 : Fr h h_33 b 9 := q_34.2.wd (by omega) (by omega)
    refine z_iret hx hr dX9_sheriff_11 rfl rfl (q_j (by unfold sheriffA; subst_vars; (repeat (first | rw [if_pos (by omega)] | rw [if_neg (by omega)])); (try rfl)) (by unfold sheriffA; subst_vars; (repeat (first | rw [if_pos (by omega)] | rw [if_neg (by omega)])); exact ⟨q_34.1, fr_35⟩))

set_option maxHeartbeats 4000000 in
set_option maxRecDepth 20000 in
theorem kX9_type (g : Gt) {h : AH} {b : Nat} {S : Nat → Int → Int} {c : Int} (hM : RM h b S) (hV : invM S) (g_c : rgI c) : CnJ g mX9_type 3 [.ref b, .int (iI c)] h (typeA S c).1 (QM h b (typeA S c).2) := by
  refine Cn.mk (by decide +kernel) (Nat.le_of_ble_eq_true rfl) ?_
  intro x sz hx hr
  show Zj g x (sz, 0, 0) h 0 [(0, .ref b), (1, .int (iI c))] []
  obtain ⟨m0, m1, m2, m3, m4, m5, m6, m7, m8⟩ := hM
  have hN := hV.1
  have hI := hN.1
  have hn := hI.n
  have hL := hV.2.2.2.1
  refine z_iload_n hx dX9_type_0 rfl 1 rfl ?_
  refine z_iconst hx dX9_type_1 ?_
  refine z_bipush hx dX9_type_2 (by decide) ?_
  refine z_cSI (as := [.int (iI c), .int (iI 0), .int (iI 127)]) (rest := []) hx dX9_type_4 lk_X9_43 wt_X9_in mo_X9_in (kX9_in g (a := c) (b := 0) (c := 127) (by omega) (by omega) (by omega)) (by decide) rfl rfl (Nat.le_of_ble_eq_true rfl) ?_
  refine z_ifne_b (tgt := 15) hx dX9_type_7 (by decide)  (fun c_1 => ?_) (fun c_1 => ?_)
  ·
    refine z_aload_n hx dX9_type_15 rfl 0 rfl ?_
    refine z_get hx dX9_type_16 fl_X9_73 m0 rfl ?_
    refine z_sipush hx dX9_type_19 (by decide) ?_
    refine z_icmp_ne (tgt := 30) hx dX9_type_22 (by decide) (by omega) (by decide) (fun c_2 => ?_) (fun c_2 => ?_)
    ·
      refine z_aload_n hx dX9_type_30 rfl 0 rfl ?_
      refine z_get hx dX9_type_31 fl_X9_33 m0 rfl ?_
      refine z_aload_n hx dX9_type_34 rfl 0 rfl ?_
      refine z_get hx dX9_type_35 fl_X9_73 m0 rfl ?_
      refine z_iload_n hx dX9_type_38 rfl 1 rfl ?_
      refine z_iastQ hx dX9_type_39 m7 (by omega) (by decide) (fun h_3 hs_4 hf_5 => ?_)
      have h_6 := hf_5.at (by omega) m0
      have h_7 := hf_5.at (by omega) m1
      have h_8 := hf_5.at (by omega) m2
      have h_9 := hf_5.at (by omega) m3
      have h_10 := hf_5.at (by omega) m4
      have h_11 := hf_5.at (by omega) m5
      have h_12 := hf_5.at (by omega) m6
      have h_13 := hf_5.at (by omega) m8
      have fr_14 : Fr h h_3 b 9 := hf_5.wd (by omega) (by omega)
      refine z_aload_n hx dX9_type_40 rfl 0 rfl ?_
      refine z_dup hx dX9_type_41 rfl ?_
      refine z_get hx dX9_type_42 fl_X9_73 h_6 rfl ?_
      refine z_iconst hx dX9_type_45 ?_
      refine z_iadd hx dX9_type_46 ?_
      refine z_putQ hx dX9_type_47 fl_X9_73 h_6 ⟨rfl, rfl⟩ (Nat.le_of_ble_eq_true rfl) (fun h_15 hs_16 hf_17 => ?_)
      have h_18 := hf_17.at (by omega) h_7
      have h_19 := hf_17.at (by omega) h_8
      have h_20 := hf_17.at (by omega) h_9
      have h_21 := hf_17.at (by omega) h_10
      have h_22 := hf_17.at (by omega) h_11
      have h_23 := hf_17.at (by omega) h_12
      have h_24 := hf_17.at (by omega) hs_4
      have h_25 := hf_17.at (by omega) h_13
      have fr_26 := fr_14.tr (hf_17.wd (by omega) (by omega))
      refine z_aload_n hx dX9_type_50 rfl 0 rfl ?_
      refine z_get hx dX9_type_51 fl_X9_73 hs_16 rfl ?_
      refine z_iret hx hr dX9_type_54 rfl rfl (q_j (by unfold typeA; subst_vars; (repeat (first | rw [if_pos (by omega)] | rw [if_neg (by omega)])); (try rfl)) (by unfold typeA; subst_vars; (repeat (first | rw [if_pos (by omega)] | rw [if_neg (by omega)])); exact ⟨⟨hs_16, h_18, h_19, h_20, h_21, h_22, h_23, h_24, h_25⟩, fr_26⟩))
    ·
      refine z_aload_n hx dX9_type_25 rfl 0 rfl ?_
      refine z_cVJ (as := []) (rest := []) hx dX9_type_26 lk_X9_59 wm_X9_full wv_X9_full (rcv_obj hx m0 rfl) mo_X9_full (kX9_full g  ⟨m0, m1, m2, m3, m4, m5, m6, m7, m8⟩) (by decide) rfl rfl (Nat.le_of_ble_eq_true rfl) (fun h_27 q_28 => ?_)
      have fr_29 : Fr h h_27 b 9 := q_28.2.wd (by omega) (by omega)
      refine z_iret hx hr dX9_type_29 rfl rfl (q_j (by unfold typeA; subst_vars; (repeat (first | rw [if_pos (by omega)] | rw [if_neg (by omega)])); (try rfl)) (by unfold typeA; subst_vars; (repeat (first | rw [if_pos (by omega)] | rw [if_neg (by omega)])); exact ⟨q_28.1, fr_29⟩))
  ·
    refine z_aload_n hx dX9_type_10 rfl 0 rfl ?_
    refine z_cVJ (as := []) (rest := []) hx dX9_type_11 lk_X9_55 wm_X9_bad wv_X9_bad (rcv_obj hx m0 rfl) mo_X9_bad (kX9_bad g  ⟨m0, m1, m2, m3, m4, m5, m6, m7, m8⟩) (by decide) rfl rfl (Nat.le_of_ble_eq_true rfl) (fun h_30 q_31 => ?_)
    have fr_32 : Fr h h_30 b 9 := q_31.2.wd (by omega) (by omega)
    refine z_iret hx hr dX9_type_14 rfl rfl (q_j (by unfold typeA; subst_vars; (repeat (first | rw [if_pos (by omega)] | rw [if_neg (by omega)])); (try rfl)) (by unfold typeA; subst_vars; (repeat (first | rw [if_pos (by omega)] | rw [if_neg (by omega)])); exact ⟨q_31.1, fr_32⟩))

set_option maxHeartbeats 4000000 in
set_option maxRecDepth 20000 in
theorem kX9_clear (g : Gt) {h : AH} {b : Nat} {S : Nat → Int → Int}  (hM : RM h b S) (hV : invM S)  : CnJ g mX9_clear 1 [.ref b] h (clearA S).1 (QM h b (clearA S).2) := by
  refine Cn.mk (by decide +kernel) (Nat.le_of_ble_eq_true rfl) ?_
  intro x sz hx hr
  show Zj g x (sz, 0, 0) h 0 [(0, .ref b)] []
  obtain ⟨m0, m1, m2, m3, m4, m5, m6, m7, m8⟩ := hM
  have hN := hV.1
  have hI := hN.1
  have hn := hI.n
  refine z_aload_n hx dX9_clear_0 rfl 0 rfl ?_
  refine z_get hx dX9_clear_1 fl_X9_73 m0 rfl ?_
  refine z_istore_n hx dX9_clear_4 rfl (by decide) [1, 0] (lv' := [(0, .ref b), (1, .int (iI (S 0 8)))]) rfl ?_
  refine z_aload_n hx dX9_clear_5 rfl 0 rfl ?_
  refine z_iconst hx dX9_clear_6 ?_
  refine z_putQ hx dX9_clear_7 fl_X9_73 m0 ⟨rfl, rfl⟩ (Nat.le_of_ble_eq_true rfl) (fun h_1 hs_2 hf_3 => ?_)
  have h_4 := hf_3.at (by omega) m1
  have h_5 := hf_3.at (by omega) m2
  have h_6 := hf_3.at (by omega) m3
  have h_7 := hf_3.at (by omega) m4
  have h_8 := hf_3.at (by omega) m5
  have h_9 := hf_3.at (by omega) m6
  have h_10 := hf_3.at (by omega) m7
  have h_11 := hf_3.at (by omega) m8
  have fr_12 : Fr h h_1 b 9 := hf_3.wd (by omega) (by omega)
  refine z_iload_n hx dX9_clear_10 rfl 1 rfl ?_
  refine z_iret hx hr dX9_clear_11 rfl rfl (q_j (by subst_vars; rfl) (by subst_vars; exact ⟨⟨hs_2, h_4, h_5, h_6, h_7, h_8, h_9, h_10, h_11⟩, fr_12⟩))

