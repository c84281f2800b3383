/-! the class: hours on end, copies, the digest of a Common -/

set_option maxHeartbeats 4000000 in
set_option maxRecDepth 20000 in
theorem kX1_passHours (g : Gt) {h : AH} {c : Nat} {F : Nat → Int → Int} {f : Int → Int} {m : Int} (hM : CM h c F) (hR : RLC F f) (hI : inv f) (hm : 0 ≤ m ∧ m ≤ 100) : CnV g mX1_passHours 7 [.ref c, .int (iI m)] h (QR h c (gon m f)) := by
  refine Cn.mk (by decide +kernel) (Nat.le_of_ble_eq_true rfl) ?_
  intro x sz hx hr
  show Zj g x (sz, 0, 0) h 0 [(0, .ref c), (1, .int (iI m))] []
  obtain ⟨m0, m1, m2, m3, m4, m5, m6, m7, m8, m9⟩ := hM
  have hn := hI.n
  have rn := hR.n
  refine z_iconst hx dX1_passHours_0 ?_
  refine z_istore_n hx dX1_passHours_1 rfl (by decide) [1, 2, 0] (lv' := [(0, .ref c), (1, .int (iI m)), (2, .int (iI 0))]) rfl ?_
  have hL_1 : ∀ (mm : Nat) (v2 : Int) (gF : Nat → Int → Int) (gf : Int → Int) (h_2 : AH), (0 ≤ v2 ∧ v2 ≤ m) → (RLC gF gf) → (gf = itI v2 goyG f) → (inv gf ∧ cfx f gf) → (h_2 c = some (.inr (.inr (1, [.ref (c + 1), .ref (c + 2), .ref (c + 3), .ref (c + 4), .ref (c + 5), .ref (c + 6), .ref (c + 7), .ref (c + 8), .ref (c + 9), .int (iI (gF 0 0)), .int (iI (gF 0 1)), .int (iI (gF 0 2)), .int (iI (gF 0 3))])))) → (h_2 (c + 1) = some (.inl (0, 5, gF 1))) → (h_2 (c + 2) = some (.inl (0, 5, gF 2))) → (h_2 (c + 3) = some (.inl (0, 5, gF 3))) → (h_2 (c + 4) = some (.inl (0, 5, gF 4))) → (h_2 (c + 5) = some (.inl (0, 6, gF 5))) → (h_2 (c + 6) = some (.inl (0, 6, gF 6))) → (h_2 (c + 7) = some (.inl (0, 3, gF 7))) → (h_2 (c + 8) = some (.inl (0, 5, gF 8))) → (h_2 (c + 9) = some (.inl (0, 5, gF 9))) → (Fr h h_2 c 10) → m - v2 < (mm : Int) → Zj g x (sz, 0, 0) h_2 2 [(0, .ref c), (1, .int (iI m)), (2, .int (iI v2))] [] := by
    intro mm
    induction mm with
    | zero => intro v2 gF gf h_2 kv hrl eg ig hk_3 hk_4 hk_5 hk_6 hk_7 hk_8 hk_9 hk_10 hk_11 hk_12 fr_13 hm; exfalso; omega
    | succ mm ih =>
      intro v2 gF gf h_2 kv hrl eg ig hk_3 hk_4 hk_5 hk_6 hk_7 hk_8 hk_9 hk_10 hk_11 hk_12 fr_13 hm
      have ih_14 := ih; clear ih
      refine z_iload_n hx dX1_passHours_2 rfl 2 rfl ?_
      refine z_iload_n hx dX1_passHours_3 rfl 1 rfl ?_
      refine z_icmp_ge (tgt := 19) hx dX1_passHours_4 (by decide) (by omega) (by omega) (fun c_15 => ?_) (fun c_15 => ?_)
      ·
        refine z_vret hx hr dX1_passHours_19 rfl (q_v ⟨gF, ⟨hk_3, hk_4, hk_5, hk_6, hk_7, hk_8, hk_9, hk_10, hk_11, hk_12⟩, (by unfold gon; rw [← show v2 = m by omega, ← eg]; exact hrl), fr_13⟩)
      ·
        refine z_aload_n hx dX1_passHours_7 rfl 0 rfl ?_
        refine z_iconst hx dX1_passHours_8 ?_
        refine z_iconst hx dX1_passHours_9 ?_
        have hwfl : (-1 : Int) = -1 ∨ ((0 ≤ (-1 : Int) ∧ (-1 : Int) < gf 37) ∧ gf (17 + (-1)) = 0 ∧ (0 ≤ (-1 : Int) ∧ (-1 : Int) ≤ 4) ∧ vld gf (-1) (-1)) := Or.inl rfl
        refine z_cVV (as := [.int (iI (-1)), .int (iI (-1))]) (rest := []) hx dX1_passHours_10 lk_X1_91 wm_X1_passHourWith wv_X1_passHourWith (rcv_obj hx hk_3 rfl) mo_X1_passHourWith (kX1_passHourWith g (F := gF) (f := gf) (r := (-1)) (w := (-1)) ⟨hk_3, hk_4, hk_5, hk_6, hk_7, hk_8, hk_9, hk_10, hk_11, hk_12⟩ hrl ig.1  (show (-1) = -1 ∨ ((0 ≤ (-1) ∧ (-1) < gf 37) ∧ gf (17 + (-1)) = 0 ∧ (0 ≤ (-1) ∧ (-1) ≤ 4) ∧ vld gf (-1) (-1)) by exact hwfl) (show rgI (-1) by omega)) (by decide) rfl rfl (Nat.le_of_ble_eq_true rfl) (fun h_16 q_17 => ?_)
        obtain ⟨F_20, hC_18, hR_21, hf_19⟩ := q_17
        obtain ⟨f_23, ef_23⟩ : ∃ G : Int → Int, G = hrW gf (-1) (-1) := ⟨_, rfl⟩
        rw [← ef_23] at hR_21
        have iv_24 := inv_hrW ig.1 hwfl
        rw [← ef_23] at iv_24
        obtain ⟨m_25, m_26, m_27, m_28, m_29, m_30, m_31, m_32, m_33, m_34⟩ := hC_18
        have fr_35 := fr_13.tr (hf_19.wd (by omega) (by omega))
        refine z_iinc hx dX1_passHours_13 (by decide) 2 rfl [1, 2, 0] (lv' := [(0, .ref c), (1, .int (iI m)), (2, .int (iI (v2 + 1)))]) rfl ?_
        refine z_goto (tgt := 2) hx dX1_passHours_16 (by decide) ?_
        have ec : goyG v2 gf = f_23 := by rw [ef_23, hrW_go (by decide)]; rfl
        have igT : inv f_23 ∧ cfx f f_23 := ⟨iv_24.1, ig.2.tr iv_24.2⟩
        exact ih_14 _ F_20 f_23 _ (by omega) (by exact hR_21) (by rw [itI_s _ _ (by omega), ← eg, ec]) (by exact igT) m_25 m_26 m_27 m_28 m_29 m_30 m_31 m_32 m_33 m_34 fr_35 (by omega)
  exact hL_1 ((m - 0) + 1 : Int).toNat _ F f _ (by omega) (by exact hR) (by rfl) (by exact ⟨hI, cfx.rf⟩) m0 m1 m2 m3 m4 m5 m6 m7 m8 m9 Fr.rf (by omega)

set_option maxHeartbeats 4000000 in
set_option maxRecDepth 20000 in
theorem kX1_fewestHoursTo (g : Gt) {h : AH} {c : Nat} {F : Nat → Int → Int} {f : Int → Int} {p : Int} (hM : CM h c F) (hR : RLC F f) (hI : inv f) (hp : 0 ≤ p ∧ p < f 37) : CnI g mX1_fewestHoursTo 4 [.ref c, .int (iI p)] h (fht f p) := by
  refine Cn.mk (by decide +kernel) (Nat.le_of_ble_eq_true rfl) ?_
  intro x sz hx hr
  show Zj g x (sz, 0, 0) h 0 [(0, .ref c), (1, .int (iI p))] []
  obtain ⟨m0, m1, m2, m3, m4, m5, m6, m7, m8, m9⟩ := hM
  have hn := hI.n
  have rn := hR.n
  refine z_bipush hx dX1_fewestHoursTo_0 (by decide) ?_
  refine z_istore_n hx dX1_fewestHoursTo_2 rfl (by decide) [1, 2, 0] (lv' := [(0, .ref c), (1, .int (iI p)), (2, .int (iI 9))]) rfl ?_
  refine z_iconst hx dX1_fewestHoursTo_3 ?_
  refine z_istore_n hx dX1_fewestHoursTo_4 rfl (by decide) [1, 2, 3, 0] (lv' := [(0, .ref c), (1, .int (iI p)), (2, .int (iI 9)), (3, .int (iI 0))]) rfl ?_
  have hL_1 : ∀ (mm : Nat) (v2 : Int) (v3 : Int), (0 ≤ v3 ∧ v3 ≤ f 26) → (v2 = itI v3 (fhtG f p) 9) → f 26 - v3 < (mm : Int) → Zj g x (sz, 0, 0) h 5 [(0, .ref c), (1, .int (iI p)), (2, .int (iI v2)), (3, .int (iI v3))] [] := by
    intro mm
    induction mm with
    | zero => intro v2 v3 kv e2 hm; exfalso; omega
    | succ mm ih =>
      intro v2 v3 kv e2 hm
      have ih_2 := ih; clear ih
      have hfr := fht_rg hI (p := p) (n := v3) (by omega) (by omega)
      rw [← e2] at hfr
      refine z_iload_n hx dX1_fewestHoursTo_5 rfl 3 rfl ?_
      refine z_aload_n hx dX1_fewestHoursTo_6 rfl 0 rfl ?_
      refine z_get hx dX1_fewestHoursTo_7 fl_X1_39 m0 rfl ?_
      refine z_icmp_ge (tgt := 47) hx dX1_fewestHoursTo_10 (by decide) (by omega) (by omega) (fun c_3 => ?_) (fun c_3 => ?_)
      ·
        refine z_iload_n hx dX1_fewestHoursTo_47 rfl 2 rfl ?_
        refine z_iconst hx dX1_fewestHoursTo_48 ?_
        refine z_iadd hx dX1_fewestHoursTo_49 ?_
        refine z_iret hx hr dX1_fewestHoursTo_50 rfl rfl (q_i (by rw [e2, show v3 = f 26 by omega]; rfl))
      ·
        refine z_aload_n hx dX1_fewestHoursTo_13 rfl 0 rfl ?_
        refine z_iload_n hx dX1_fewestHoursTo_14 rfl 3 rfl ?_
        refine z_cVI (as := [.int (iI v3)]) (rest := []) hx dX1_fewestHoursTo_15 lk_X1_107 wm_X1_holds wv_X1_holds (rcv_obj hx m0 rfl) mo_X1_holds (kX1_holds g (F := F) (f := f) (k := v3) ⟨m0, m1, m2, m3, m4, m5, m6, m7, m8, m9⟩ hR hI (show 0 ≤ v3 ∧ v3 < f 26 by omega)) (by decide) rfl rfl (Nat.le_of_ble_eq_true rfl) ?_
        have f_4 := hlf_rg hI (k := v3) (by omega)
        refine z_if_le (tgt := 41) hx dX1_fewestHoursTo_18 (by decide) (by omega) (fun c_5 => ?_) (fun c_5 => ?_)
        ·
          refine z_iinc hx dX1_fewestHoursTo_41 (by decide) 3 rfl [1, 2, 3, 0] (lv' := [(0, .ref c), (1, .int (iI p)), (2, .int (iI v2)), (3, .int (iI (v3 + 1)))]) rfl ?_
          refine z_goto (tgt := 5) hx dX1_fewestHoursTo_44 (by decide) ?_
          exact ih_2 _ _ (by omega) (by rw [itI_s _ _ (by omega), ← e2]; unfold fhtG; first | (rw [if_pos (by omega)]; first | done | rw [ef]) | rw [if_neg (by omega)])  (by omega)
        ·
          refine z_iload_n hx dX1_fewestHoursTo_21 rfl 2 rfl ?_
          refine z_aload_n hx dX1_fewestHoursTo_22 rfl 0 rfl ?_
          refine z_get hx dX1_fewestHoursTo_23 fl_X1_24 m0 rfl ?_
          refine z_iload_n hx dX1_fewestHoursTo_26 rfl 1 rfl ?_
          refine z_iald hx dX1_fewestHoursTo_27 m5 (by omega) (by decide) ?_
          have rp_6 := hR.p p (by first | omega | decide)
          have ip_7 := hI.p p (by first | omega | decide)
          have cc_8 := cv_c (f (17 + p))
          refine z_aload_n hx dX1_fewestHoursTo_28 rfl 0 rfl ?_
          refine z_get hx dX1_fewestHoursTo_29 fl_X1_15 m0 rfl ?_
          refine z_iload_n hx dX1_fewestHoursTo_32 rfl 3 rfl ?_
          refine z_iald hx dX1_fewestHoursTo_33 m2 (by omega) (by decide) ?_
          have rk_9 := hR.k v3 (by first | omega | decide)
          have ik_10 := hI.k v3 (by first | omega | decide)
          have ff := far_rg (a := F 5 p) (b := F 2 v3) (by omega) (by omega)
          have ef : far (F 5 p) (F 2 v3) = far (f (11 + p)) (f (1 + v3)) := by rw [show F 5 p = f (11 + p) by omega, show F 2 v3 = f (1 + v3) by omega]
          refine z_cSI (as := [.int (iI (F 5 p)), .int (iI (F 2 v3))]) (rest := [.int (iI v2)]) hx dX1_fewestHoursTo_34 lk_X1_85 wt_X0_far mo_X0_far (kX0_far g (a := (F 5 p)) (b := (F 2 v3)) (by omega) (by omega)) (by decide) rfl rfl (Nat.le_of_ble_eq_true rfl) ?_
          refine z_mmin hx dX1_fewestHoursTo_37 wk_X1_127 (by omega) (by omega) (by decide) (Nat.le_of_ble_eq_true rfl) ?_
          have f_11 := mn_c v2 (far (F 5 p) (F 2 v3))
          refine z_istore_n hx dX1_fewestHoursTo_40 rfl (by decide) [1, 2, 0, 3] (lv' := [(0, .ref c), (1, .int (iI p)), (2, .int (iI (mnI v2 (far (F 5 p) (F 2 v3))))), (3, .int (iI v3))]) rfl ?_
          refine z_iinc hx dX1_fewestHoursTo_41 (by decide) 3 rfl [1, 2, 3, 0] (lv' := [(0, .ref c), (1, .int (iI p)), (2, .int (iI (mnI v2 (far (F 5 p) (F 2 v3))))), (3, .int (iI (v3 + 1)))]) rfl ?_
          refine z_goto (tgt := 5) hx dX1_fewestHoursTo_44 (by decide) ?_
          exact ih_2 _ _ (by omega) (by rw [itI_s _ _ (by omega), ← e2]; unfold fhtG; first | (rw [if_pos (by omega)]; first | done | rw [ef]) | rw [if_neg (by omega)])  (by omega)
  exact hL_1 ((f 26 - 0) + 1 : Int).toNat _ _ (by omega) (by rfl)  (by omega)

set_option maxHeartbeats 4000000 in
set_option maxRecDepth 20000 in
theorem kX1_becomes (g : Gt) {h : AH} {c d : Nat} {F G : Nat → Int → Int} {f : Int → Int} (hM : CM h c F) (hD : CM h d G) (hR : RLC G f) (hI : inv f) (hcd : c + 10 ≤ d ∨ d + 10 ≤ c) : CnV g mX1_becomes 2 [.ref c, .ref d] h (QR h c f) := by
  refine Cn.mk (by decide +kernel) (Nat.le_of_ble_eq_true rfl) ?_
  intro x sz hx hr
  show Zj g x (sz, 0, 0) h 0 [(0, .ref c), (1, .ref d)] []
  obtain ⟨m0, m1, m2, m3, m4, m5, m6, m7, m8, m9⟩ := hM
  refine z_aload_n hx dX1_becomes_0 rfl 1 rfl ?_
  refine z_get hx dX1_becomes_1 fl_X1_9 hD.1 rfl ?_
  refine z_iconst hx dX1_becomes_4 ?_
  refine z_aload_n hx dX1_becomes_5 rfl 0 rfl ?_
  refine z_get hx dX1_becomes_6 fl_X1_9 m0 rfl ?_
  refine z_iconst hx dX1_becomes_9 ?_
  refine z_iconst hx dX1_becomes_10 ?_
  refine z_copy hx dX1_becomes_11 wk_X1_52 hD.2.1 m1 (by decide) (by decide) (by decide) (by decide) (by decide) (Nat.le_of_ble_eq_true rfl) ?_
  obtain ⟨h_1, eh_1⟩ : ∃ hh, hh = hup h (c + 1) (.inl (0, 5, fcp (G 1) (F 1) 0 0 5)) := ⟨_, rfl⟩
  have hs_2 : h_1 (c + 1) = some (.inl (0, 5, fcp (G 1) (F 1) 0 0 5)) := by rw [eh_1]; exact hup_s _ _ _
  have hf_3 : Fr h h_1 (c + 1) 1 := by rw [eh_1]; exact hup_Fr _ _ _
  rw [← eh_1]
  have h_4 := hf_3.at (by omega) m0
  have h_5 := hf_3.at (by omega) m2
  have h_6 := hf_3.at (by omega) m3
  have h_7 := hf_3.at (by omega) m4
  have h_8 := hf_3.at (by omega) m5
  have h_9 := hf_3.at (by omega) m6
  have h_10 := hf_3.at (by omega) m7
  have h_11 := hf_3.at (by omega) m8
  have h_12 := hf_3.at (by omega) m9
  have h_13 := CM.fr hD hf_3 (by omega)
  have fr_14 : Fr h h_1 c 10 := hf_3.wd (by omega) (by omega)
  refine z_aload_n hx dX1_becomes_14 rfl 1 rfl ?_
  refine z_get hx dX1_becomes_15 fl_X1_15 h_13.1 rfl ?_
  refine z_iconst hx dX1_becomes_18 ?_
  refine z_aload_n hx dX1_becomes_19 rfl 0 rfl ?_
  refine z_get hx dX1_becomes_20 fl_X1_15 h_4 rfl ?_
  refine z_iconst hx dX1_becomes_23 ?_
  refine z_iconst hx dX1_becomes_24 ?_
  refine z_copy hx dX1_becomes_25 wk_X1_52 h_13.2.2.1 h_5 (by decide) (by decide) (by decide) (by decide) (by decide) (Nat.le_of_ble_eq_true rfl) ?_
  obtain ⟨h_15, eh_15⟩ : ∃ hh, hh = hup h_1 (c + 2) (.inl (0, 5, fcp (G 2) (F 2) 0 0 5)) := ⟨_, rfl⟩
  have hs_16 : h_15 (c + 2) = some (.inl (0, 5, fcp (G 2) (F 2) 0 0 5)) := by rw [eh_15]; exact hup_s _ _ _
  have hf_17 : Fr h_1 h_15 (c + 2) 1 := by rw [eh_15]; exact hup_Fr _ _ _
  rw [← eh_15]
  have h_18 := hf_17.at (by omega) h_4
  have h_19 := hf_17.at (by omega) hs_2
  have h_20 := hf_17.at (by omega) h_6
  have h_21 := hf_17.at (by omega) h_7
  have h_22 := hf_17.at (by omega) h_8
  have h_23 := hf_17.at (by omega) h_9
  have h_24 := hf_17.at (by omega) h_10
  have h_25 := hf_17.at (by omega) h_11
  have h_26 := hf_17.at (by omega) h_12
  have h_27 := CM.fr h_13 hf_17 (by omega)
  have fr_28 := fr_14.tr (hf_17.wd (by omega) (by omega))
  refine z_aload_n hx dX1_becomes_28 rfl 1 rfl ?_
  refine z_get hx dX1_becomes_29 fl_X1_18 h_27.1 rfl ?_
  refine z_iconst hx dX1_becomes_32 ?_
  refine z_aload_n hx dX1_becomes_33 rfl 0 rfl ?_
  refine z_get hx dX1_becomes_34 fl_X1_18 h_18 rfl ?_
  refine z_iconst hx dX1_becomes_37 ?_
  refine z_iconst hx dX1_becomes_38 ?_
  refine z_copy hx dX1_becomes_39 wk_X1_52 h_27.2.2.2.1 h_20 (by decide) (by decide) (by decide) (by decide) (by decide) (Nat.le_of_ble_eq_true rfl) ?_
  obtain ⟨h_29, eh_29⟩ : ∃ hh, hh = hup h_15 (c + 3) (.inl (0, 5, fcp (G 3) (F 3) 0 0 5)) := ⟨_, rfl⟩
  have hs_30 : h_29 (c + 3) = some (.inl (0, 5, fcp (G 3) (F 3) 0 0 5)) := by rw [eh_29]; exact hup_s _ _ _
  have hf_31 : Fr h_15 h_29 (c + 3) 1 := by rw [eh_29]; exact hup_Fr _ _ _
  rw [← eh_29]
  have h_32 := hf_31.at (by omega) h_18
  have h_33 := hf_31.at (by omega) h_19
  have h_34 := hf_31.at (by omega) hs_16
  have h_35 := hf_31.at (by omega) h_21
  have h_36 := hf_31.at (by omega) h_22
  have h_37 := hf_31.at (by omega) h_23
  have h_38 := hf_31.at (by omega) h_24
  have h_39 := hf_31.at (by omega) h_25
  have h_40 := hf_31.at (by omega) h_26
  have h_41 := CM.fr h_27 hf_31 (by omega)
  have fr_42 := fr_28.tr (hf_31.wd (by omega) (by omega))
  refine z_aload_n hx dX1_becomes_42 rfl 1 rfl ?_
  refine z_get hx dX1_becomes_43 fl_X1_21 h_41.1 rfl ?_
  refine z_iconst hx dX1_becomes_46 ?_
  refine z_aload_n hx dX1_becomes_47 rfl 0 rfl ?_
  refine z_get hx dX1_becomes_48 fl_X1_21 h_32 rfl ?_
  refine z_iconst hx dX1_becomes_51 ?_
  refine z_iconst hx dX1_becomes_52 ?_
  refine z_copy hx dX1_becomes_53 wk_X1_52 h_41.2.2.2.2.1 h_35 (by decide) (by decide) (by decide) (by decide) (by decide) (Nat.le_of_ble_eq_true rfl) ?_
  obtain ⟨h_43, eh_43⟩ : ∃ hh, hh = hup h_29 (c + 4) (.inl (0, 5, fcp (G 4) (F 4) 0 0 5)) := ⟨_, rfl⟩
  have hs_44 : h_43 (c + 4) = some (.inl (0, 5, fcp (G 4) (F 4) 0 0 5)) := by rw [eh_43]; exact hup_s _ _ _
  have hf_45 : Fr h_29 h_43 (c + 4) 1 := by rw [eh_43]; exact hup_Fr _ _ _
  rw [← eh_43]
  have h_46 := hf_45.at (by omega) h_32
  have h_47 := hf_45.at (by omega) h_33
  have h_48 := hf_45.at (by omega) h_34
  have h_49 := hf_45.at (by omega) hs_30
  have h_50 := hf_45.at (by omega) h_36
  have h_51 := hf_45.at (by omega) h_37
  have h_52 := hf_45.at (by omega) h_38
  have h_53 := hf_45.at (by omega) h_39
  have h_54 := hf_45.at (by omega) h_40
  have h_55 := CM.fr h_41 hf_45 (by omega)
  have fr_56 := fr_42.tr (hf_45.wd (by omega) (by omega))
  refine z_aload_n hx dX1_becomes_56 rfl 1 rfl ?_
  refine z_get hx dX1_becomes_57 fl_X1_24 h_55.1 rfl ?_
  refine z_iconst hx dX1_becomes_60 ?_
  refine z_aload_n hx dX1_becomes_61 rfl 0 rfl ?_
  refine z_get hx dX1_becomes_62 fl_X1_24 h_46 rfl ?_
  refine z_iconst hx dX1_becomes_65 ?_
  refine z_bipush hx dX1_becomes_66 (by decide) ?_
  refine z_copy hx dX1_becomes_68 wk_X1_52 h_55.2.2.2.2.2.1 h_50 (by decide) (by decide) (by decide) (by decide) (by decide) (Nat.le_of_ble_eq_true rfl) ?_
  obtain ⟨h_57, eh_57⟩ : ∃ hh, hh = hup h_43 (c + 5) (.inl (0, 6, fcp (G 5) (F 5) 0 0 6)) := ⟨_, rfl⟩
  have hs_58 : h_57 (c + 5) = some (.inl (0, 6, fcp (G 5) (F 5) 0 0 6)) := by rw [eh_57]; exact hup_s _ _ _
  have hf_59 : Fr h_43 h_57 (c + 5) 1 := by rw [eh_57]; exact hup_Fr _ _ _
  rw [← eh_57]
  have h_60 := hf_59.at (by omega) h_46
  have h_61 := hf_59.at (by omega) h_47
  have h_62 := hf_59.at (by omega) h_48
  have h_63 := hf_59.at (by omega) h_49
  have h_64 := hf_59.at (by omega) hs_44
  have h_65 := hf_59.at (by omega) h_51
  have h_66 := hf_59.at (by omega) h_52
  have h_67 := hf_59.at (by omega) h_53
  have h_68 := hf_59.at (by omega) h_54
  have h_69 := CM.fr h_55 hf_59 (by omega)
  have fr_70 := fr_56.tr (hf_59.wd (by omega) (by omega))
  refine z_aload_n hx dX1_becomes_71 rfl 1 rfl ?_
  refine z_get hx dX1_becomes_72 fl_X1_27 h_69.1 rfl ?_
  refine z_iconst hx dX1_becomes_75 ?_
  refine z_aload_n hx dX1_becomes_76 rfl 0 rfl ?_
  refine z_get hx dX1_becomes_77 fl_X1_27 h_60 rfl ?_
  refine z_iconst hx dX1_becomes_80 ?_
  refine z_bipush hx dX1_becomes_81 (by decide) ?_
  refine z_copy hx dX1_becomes_83 wk_X1_52 h_69.2.2.2.2.2.2.1 h_65 (by decide) (by decide) (by decide) (by decide) (by decide) (Nat.le_of_ble_eq_true rfl) ?_
  obtain ⟨h_71, eh_71⟩ : ∃ hh, hh = hup h_57 (c + 6) (.inl (0, 6, fcp (G 6) (F 6) 0 0 6)) := ⟨_, rfl⟩
  have hs_72 : h_71 (c + 6) = some (.inl (0, 6, fcp (G 6) (F 6) 0 0 6)) := by rw [eh_71]; exact hup_s _ _ _
  have hf_73 : Fr h_57 h_71 (c + 6) 1 := by rw [eh_71]; exact hup_Fr _ _ _
  rw [← eh_71]
  have h_74 := hf_73.at (by omega) h_60
  have h_75 := hf_73.at (by omega) h_61
  have h_76 := hf_73.at (by omega) h_62
  have h_77 := hf_73.at (by omega) h_63
  have h_78 := hf_73.at (by omega) h_64
  have h_79 := hf_73.at (by omega) hs_58
  have h_80 := hf_73.at (by omega) h_66
  have h_81 := hf_73.at (by omega) h_67
  have h_82 := hf_73.at (by omega) h_68
  have h_83 := CM.fr h_69 hf_73 (by omega)
  have fr_84 := fr_70.tr (hf_73.wd (by omega) (by omega))
  refine z_aload_n hx dX1_becomes_86 rfl 1 rfl ?_
  refine z_get hx dX1_becomes_87 fl_X1_30 h_83.1 rfl ?_
  refine z_iconst hx dX1_becomes_90 ?_
  refine z_aload_n hx dX1_becomes_91 rfl 0 rfl ?_
  refine z_get hx dX1_becomes_92 fl_X1_30 h_74 rfl ?_
  refine z_iconst hx dX1_becomes_95 ?_
  refine z_iconst hx dX1_becomes_96 ?_
  refine z_copy hx dX1_becomes_97 wk_X1_52 h_83.2.2.2.2.2.2.2.1 h_80 (by decide) (by decide) (by decide) (by decide) (by decide) (Nat.le_of_ble_eq_true rfl) ?_
  obtain ⟨h_85, eh_85⟩ : ∃ hh, hh = hup h_71 (c + 7) (.inl (0, 3, fcp (G 7) (F 7) 0 0 3)) := ⟨_, rfl⟩
  have hs_86 : h_85 (c + 7) = some (.inl (0, 3, fcp (G 7) (F 7) 0 0 3)) := by rw [eh_85]; exact hup_s _ _ _
  have hf_87 : Fr h_71 h_85 (c + 7) 1 := by rw [eh_85]; exact hup_Fr _ _ _
  rw [← eh_85]
  have h_88 := hf_87.at (by omega) h_74
  have h_89 := hf_87.at (by omega) h_75
  have h_90 := hf_87.at (by omega) h_76
  have h_91 := hf_87.at (by omega) h_77
  have h_92 := hf_87.at (by omega) h_78
  have h_93 := hf_87.at (by omega) h_79
  have h_94 := hf_87.at (by omega) hs_72
  have h_95 := hf_87.at (by omega) h_81
  have h_96 := hf_87.at (by omega) h_82
  have h_97 := CM.fr h_83 hf_87 (by omega)
  have fr_98 := fr_84.tr (hf_87.wd (by omega) (by omega))
  refine z_aload_n hx dX1_becomes_100 rfl 0 rfl ?_
  refine z_aload_n hx dX1_becomes_101 rfl 1 rfl ?_
  refine z_get hx dX1_becomes_102 fl_X1_39 h_97.1 rfl ?_
  refine z_putQ hx dX1_becomes_105 fl_X1_39 h_88 ⟨rfl, rfl⟩ (Nat.le_of_ble_eq_true rfl) (fun h_99 hs_100 hf_101 => ?_)
  have h_102 := hf_101.at (by omega) h_89
  have h_103 := hf_101.at (by omega) h_90
  have h_104 := hf_101.at (by omega) h_91
  have h_105 := hf_101.at (by omega) h_92
  have h_106 := hf_101.at (by omega) h_93
  have h_107 := hf_101.at (by omega) h_94
  have h_108 := hf_101.at (by omega) hs_86
  have h_109 := hf_101.at (by omega) h_95
  have h_110 := hf_101.at (by omega) h_96
  have h_111 := CM.fr h_97 hf_101 (by omega)
  have fr_112 := fr_98.tr (hf_101.wd (by omega) (by omega))
  refine z_aload_n hx dX1_becomes_108 rfl 0 rfl ?_
  refine z_aload_n hx dX1_becomes_109 rfl 1 rfl ?_
  refine z_get hx dX1_becomes_110 fl_X1_43 h_111.1 rfl ?_
  refine z_putQ hx dX1_becomes_113 fl_X1_43 hs_100 ⟨rfl, rfl⟩ (Nat.le_of_ble_eq_true rfl) (fun h_113 hs_114 hf_115 => ?_)
  have h_116 := hf_115.at (by omega) h_102
  have h_117 := hf_115.at (by omega) h_103
  have h_118 := hf_115.at (by omega) h_104
  have h_119 := hf_115.at (by omega) h_105
  have h_120 := hf_115.at (by omega) h_106
  have h_121 := hf_115.at (by omega) h_107
  have h_122 := hf_115.at (by omega) h_108
  have h_123 := hf_115.at (by omega) h_109
  have h_124 := hf_115.at (by omega) h_110
  have h_125 := CM.fr h_111 hf_115 (by omega)
  have fr_126 := fr_112.tr (hf_115.wd (by omega) (by omega))
  refine z_aload_n hx dX1_becomes_116 rfl 0 rfl ?_
  refine z_aload_n hx dX1_becomes_117 rfl 1 rfl ?_
  refine z_get hx dX1_becomes_118 fl_X1_46 h_125.1 rfl ?_
  refine z_putQ hx dX1_becomes_121 fl_X1_46 hs_114 ⟨rfl, rfl⟩ (Nat.le_of_ble_eq_true rfl) (fun h_127 hs_128 hf_129 => ?_)
  have h_130 := hf_129.at (by omega) h_116
  have h_131 := hf_129.at (by omega) h_117
  have h_132 := hf_129.at (by omega) h_118
  have h_133 := hf_129.at (by omega) h_119
  have h_134 := hf_129.at (by omega) h_120
  have h_135 := hf_129.at (by omega) h_121
  have h_136 := hf_129.at (by omega) h_122
  have h_137 := hf_129.at (by omega) h_123
  have h_138 := hf_129.at (by omega) h_124
  have h_139 := CM.fr h_125 hf_129 (by omega)
  have fr_140 := fr_126.tr (hf_129.wd (by omega) (by omega))
  refine z_aload_n hx dX1_becomes_124 rfl 0 rfl ?_
  refine z_aload_n hx dX1_becomes_125 rfl 1 rfl ?_
  refine z_get hx dX1_becomes_126 fl_X1_49 h_139.1 rfl ?_
  refine z_putQ hx dX1_becomes_129 fl_X1_49 hs_128 ⟨rfl, rfl⟩ (Nat.le_of_ble_eq_true rfl) (fun h_141 hs_142 hf_143 => ?_)
  have h_144 := hf_143.at (by omega) h_130
  have h_145 := hf_143.at (by omega) h_131
  have h_146 := hf_143.at (by omega) h_132
  have h_147 := hf_143.at (by omega) h_133
  have h_148 := hf_143.at (by omega) h_134
  have h_149 := hf_143.at (by omega) h_135
  have h_150 := hf_143.at (by omega) h_136
  have h_151 := hf_143.at (by omega) h_137
  have h_152 := hf_143.at (by omega) h_138
  have h_153 := CM.fr h_139 hf_143 (by omega)
  have fr_154 := fr_140.tr (hf_143.wd (by omega) (by omega))
  refine z_vret hx hr dX1_becomes_132 rfl (q_v ⟨(sst (sst (sst (sst (sst (sst (sst (sst F 1 (fcp (G 1) (F 1) 0 0 5)) 2 (fcp (G 2) (F 2) 0 0 5)) 3 (fcp (G 3) (F 3) 0 0 5)) 4 (fcp (G 4) (F 4) 0 0 5)) 5 (fcp (G 5) (F 5) 0 0 6)) 6 (fcp (G 6) (F 6) 0 0 6)) 7 (fcp (G 7) (F 7) 0 0 3)) 0 (fup (fup (fup (fup (F 0) 0 (G 0 0)) 1 (G 0 1)) 2 (G 0 2)) 3 (G 0 3))), ⟨hs_142, h_144, h_145, h_146, h_147, h_148, h_149, h_150, h_151, h_152⟩, (RLC_cp hR hI.n ⟨rfl, rfl, rfl, rfl⟩ (fun j a b => ⟨(show fcp (G 1) (F 1) 0 0 5 j = G 1 j by rw [fcp_in (by omega)]; congr 1; omega), (show fcp (G 2) (F 2) 0 0 5 j = G 2 j by rw [fcp_in (by omega)]; congr 1; omega), (show fcp (G 3) (F 3) 0 0 5 j = G 3 j by rw [fcp_in (by omega)]; congr 1; omega), (show fcp (G 4) (F 4) 0 0 5 j = G 4 j by rw [fcp_in (by omega)]; congr 1; omega)⟩) (fun j a b => ⟨(show fcp (G 5) (F 5) 0 0 6 j = G 5 j by rw [fcp_in (by omega)]; congr 1; omega), (show fcp (G 6) (F 6) 0 0 6 j = G 6 j by rw [fcp_in (by omega)]; congr 1; omega)⟩) (fun j a b => (show fcp (G 7) (F 7) 0 0 3 j = G 7 j by rw [fcp_in (by omega)]; congr 1; omega))), fr_154⟩)

def dgC (f : Int → Int) (e0 : Int) : Int := itI (f 38) (dg4 f 23) (itI (f 37) (dg3 f) (itI (f 26) (dg2 f) e0))

set_option maxHeartbeats 4000000 in
set_option maxRecDepth 20000 in
theorem kX1_digestOn (g : Gt) {h : AH} {c : Nat} {F : Nat → Int → Int} {f : Int → Int} {e0 : Int} (hM : CM h c F) (hR : RLC F f) (hI : inv f) : CnL g mX1_digestOn 4 [.ref c, .long (lI e0)] h (dgC f e0) := by
  refine Cn.mk (by decide +kernel) (Nat.le_of_ble_eq_true rfl) ?_
  intro x sz hx hr
  show Zj g x (sz, 0, 0) h 0 [(0, .ref c), (1, .long (lI e0))] []
  obtain ⟨m0, m1, m2, m3, m4, m5, m6, m7, m8, m9⟩ := hM
  have hn := hI.n
  have rn := hR.n
  refine z_iconst hx dX1_digestOn_0 ?_
  refine z_istore_n hx dX1_digestOn_1 rfl (by decide) [1, 2, 0] (lv' := [(0, .ref c), (1, .long (lI e0)), (3, .int (iI 0))]) rfl ?_
  have hL_1 : ∀ (mm : Nat) (d2 : Int) (b3 : Int), (0 ≤ b3 ∧ b3 ≤ f 26) → (d2 = itI b3 (dg2 f) (e0)) → f 26 - b3 < (mm : Int) → Zj g x (sz, 0, 0) h 2 [(0, .ref c), (1, .long (lI d2)), (3, .int (iI b3))] [] := by
    intro mm
    induction mm with
    | zero => intro d2 b3 kb eb hm; exfalso; omega
    | succ mm ih =>
      intro d2 b3 kb eb hm
      have ih_2 := ih; clear ih
      refine z_iload_n hx dX1_digestOn_2 rfl 2 rfl ?_
      refine z_aload_n hx dX1_digestOn_3 rfl 0 rfl ?_
      refine z_get hx dX1_digestOn_4 fl_X1_39 m0 rfl ?_
      refine z_icmp_ge (tgt := 72) hx dX1_digestOn_7 (by decide) (by omega) (by omega) (fun c_3 => ?_) (fun c_3 => ?_)
      ·
        refine z_iconst hx dX1_digestOn_72 ?_
        refine z_istore_n hx dX1_digestOn_73 rfl (by decide) [1, 2, 0] (lv' := [(0, .ref c), (1, .long (lI d2)), (3, .int (iI 0))]) rfl ?_
        have hL_4 : ∀ (mm : Nat) (d3 : Int) (c3 : Int), (0 ≤ c3 ∧ c3 ≤ f 37) → (d3 = itI c3 (dg3 f) (d2)) → f 37 - c3 < (mm : Int) → Zj g x (sz, 0, 0) h 74 [(0, .ref c), (1, .long (lI d3)), (3, .int (iI c3))] [] := by
          intro mm
          induction mm with
          | zero => intro d3 c3 kc ec hm; exfalso; omega
          | succ mm ih =>
            intro d3 c3 kc ec hm
            have ih_5 := ih; clear ih
            refine z_iload_n hx dX1_digestOn_74 rfl 2 rfl ?_
            refine z_aload_n hx dX1_digestOn_75 rfl 0 rfl ?_
            refine z_get hx dX1_digestOn_76 fl_X1_43 m0 rfl ?_
            refine z_icmp_ge (tgt := 118) hx dX1_digestOn_79 (by decide) (by omega) (by omega) (fun c_6 => ?_) (fun c_6 => ?_)
            ·
              refine z_iconst hx dX1_digestOn_118 ?_
              refine z_istore_n hx dX1_digestOn_119 rfl (by decide) [1, 2, 0] (lv' := [(0, .ref c), (1, .long (lI d3)), (3, .int (iI 0))]) rfl ?_
              have hL_7 : ∀ (mm : Nat) (d4 : Int) (s3 : Int), (0 ≤ s3 ∧ s3 ≤ f 38) → (d4 = itI s3 (dg4 f 23) (d3)) → f 38 - s3 < (mm : Int) → Zj g x (sz, 0, 0) h 120 [(0, .ref c), (1, .long (lI d4)), (3, .int (iI s3))] [] := by
                intro mm
                induction mm with
                | zero => intro d4 s3 ks es hm; exfalso; omega
                | succ mm ih =>
                  intro d4 s3 ks es hm
                  have ih_8 := ih; clear ih
                  refine z_iload_n hx dX1_digestOn_120 rfl 2 rfl ?_
                  refine z_aload_n hx dX1_digestOn_121 rfl 0 rfl ?_
                  refine z_get hx dX1_digestOn_122 fl_X1_46 m0 rfl ?_
                  refine z_icmp_ge (tgt := 148) hx dX1_digestOn_125 (by decide) (by omega) (by omega) (fun c_9 => ?_) (fun c_9 => ?_)
                  ·
                    refine z_lload_n hx dX1_digestOn_148 rfl 1 rfl ?_
                    refine z_lret hx hr dX1_digestOn_149 rfl (q_l (by rw [es, show s3 = f 38 by omega, ec, show c3 = f 37 by omega, eb, show b3 = f 26 by omega]; rfl))
                  ·
                    refine z_ldc2 (a := 31) hx dX1_digestOn_128 wq_X1_132 (by decide) ?_
                    refine z_lload_n hx dX1_digestOn_131 rfl 1 rfl ?_
                    refine z_lmul hx dX1_digestOn_132 ?_
                    refine z_aload_n hx dX1_digestOn_133 rfl 0 rfl ?_
                    refine z_get hx dX1_digestOn_134 fl_X1_30 m0 rfl ?_
                    refine z_iload_n hx dX1_digestOn_137 rfl 2 rfl ?_
                    refine z_iald hx dX1_digestOn_138 m7 (by omega) (by decide) ?_
                    have rs_10 := hR.s s3 (by first | omega | decide)
                    have is_11 := hI.s s3 (by first | omega | decide)
                    refine z_i2l hx dX1_digestOn_139 (by omega) ?_
                    refine z_ladd hx dX1_digestOn_140 ?_
                    refine z_lstore_n hx dX1_digestOn_141 rfl (by decide) [1, 0, 2] (lv' := [(0, .ref c), (1, .long (lI ((31 * d4) + (F 7 s3)))), (3, .int (iI s3))]) rfl ?_
                    refine z_iinc hx dX1_digestOn_142 (by decide) 2 rfl [1, 2, 0] (lv' := [(0, .ref c), (1, .long (lI ((31 * d4) + (F 7 s3)))), (3, .int (iI (s3 + 1)))]) rfl ?_
                    refine z_goto (tgt := 120) hx dX1_digestOn_145 (by decide) ?_
                    exact ih_8 _ _ (by omega) (by rw [itI_s _ _ (by omega), ← es]; unfold dg4; rw [show F 7 s3 = f (23 + s3) by omega])  (by omega)
              exact hL_7 ((f 38 - 0) + 1 : Int).toNat _ _ (by omega) (by rw [itI_0 _ _ rfl])  (by omega)
            ·
              refine z_iconst hx dX1_digestOn_82 ?_
              refine z_istore hx dX1_digestOn_83 (by decide) [1, 2, 3, 0] (lv' := [(0, .ref c), (1, .long (lI d3)), (3, .int (iI c3)), (4, .int (iI 0))]) rfl ?_
              have hL_12 : ∀ (mm : Nat) (d3i : Int) (c4 : Int), (0 ≤ c4 ∧ c4 ≤ (3 : Int)) → (d3i = itI c4 (dg3i f c3) (d3)) → (3 : Int) - c4 < (mm : Int) → Zj g x (sz, 0, 0) h 85 [(0, .ref c), (1, .long (lI d3i)), (3, .int (iI c3)), (4, .int (iI c4))] [] := by
                intro mm
                induction mm with
                | zero => intro d3i c4 ki ei hm; exfalso; omega
                | succ mm ih =>
                  intro d3i c4 ki ei hm
                  have ih_13 := ih; clear ih
                  refine z_iload hx dX1_digestOn_85 3 rfl ?_
                  refine z_iconst hx dX1_digestOn_87 ?_
                  refine z_icmp_gt (tgt := 112) hx dX1_digestOn_88 (by decide) (by omega) (by decide) (fun c_14 => ?_) (fun c_14 => ?_)
                  ·
                    refine z_iinc hx dX1_digestOn_112 (by decide) 2 rfl [1, 2, 0, 3] (lv' := [(0, .ref c), (1, .long (lI d3i)), (3, .int (iI (c3 + 1))), (4, .int (iI c4))]) rfl ?_
                    refine z_goto (tgt := 74) hx dX1_digestOn_115 (by decide) ?_
                    refine z_sub [0, 1, 2] (lv' := [(0, .ref c), (1, .long (lI d3i)), (3, .int (iI (c3 + 1)))]) rfl ?_
                    exact ih_5 _ _ (by omega) (by rw [itI_s _ _ (by omega), ← ec]; unfold dg3; rw [← show c4 = 3 by omega]; exact ei)  (by omega)
                  ·
                    refine z_ldc2 (a := 31) hx dX1_digestOn_91 wq_X1_132 (by decide) ?_
                    refine z_lload_n hx dX1_digestOn_94 rfl 1 rfl ?_
                    refine z_lmul hx dX1_digestOn_95 ?_
                    refine z_aload_n hx dX1_digestOn_96 rfl 0 rfl ?_
                    refine z_iload_n hx dX1_digestOn_97 rfl 2 rfl ?_
                    refine z_iload hx dX1_digestOn_98 3 rfl ?_
                    refine z_cVI (as := [.int (iI c3), .int (iI c4)]) (rest := [.long (lI (31 * d3i))]) hx dX1_digestOn_100 lk_X1_134 wm_X1_tellOf wv_X1_tellOf (rcv_obj hx m0 rfl) mo_X1_tellOf (kX1_tellOf g (F := F) (f := f) (p := c3) (w := c4) ⟨m0, m1, m2, m3, m4, m5, m6, m7, m8, m9⟩ hR hI (show 0 ≤ c3 ∧ c3 < f 37 by omega) (show 0 ≤ c4 ∧ c4 ≤ 2 by omega)) (by decide) rfl rfl (Nat.le_of_ble_eq_true rfl) ?_
                    have f_15 := tel_rg hI (p := c3) (w := c4) (by have := (hI).n; omega)
                    refine z_i2l hx dX1_digestOn_103 (by omega) ?_
                    refine z_ladd hx dX1_digestOn_104 ?_
                    refine z_lstore_n hx dX1_digestOn_105 rfl (by decide) [1, 0, 2, 3] (lv' := [(0, .ref c), (1, .long (lI ((31 * d3i) + (tel f c3 c4)))), (3, .int (iI c3)), (4, .int (iI c4))]) rfl ?_
                    refine z_iinc hx dX1_digestOn_106 (by decide) 3 rfl [1, 2, 3, 0] (lv' := [(0, .ref c), (1, .long (lI ((31 * d3i) + (tel f c3 c4)))), (3, .int (iI c3)), (4, .int (iI (c4 + 1)))]) rfl ?_
                    refine z_goto (tgt := 85) hx dX1_digestOn_109 (by decide) ?_
                    exact ih_13 _ _ (by omega) (by rw [itI_s _ _ (by omega), ← ei]; rfl)  (by omega)
              exact hL_12 (((3 : Int) - 0) + 1 : Int).toNat _ _ (by omega) (by rw [itI_0 _ _ rfl])  (by omega)
        exact hL_4 ((f 37 - 0) + 1 : Int).toNat _ _ (by omega) (by rw [itI_0 _ _ rfl])  (by omega)
      ·
        refine z_ldc2 (a := 31) hx dX1_digestOn_10 wq_X1_132 (by decide) ?_
        refine z_lload_n hx dX1_digestOn_13 rfl 1 rfl ?_
        refine z_lmul hx dX1_digestOn_14 ?_
        refine z_aload_n hx dX1_digestOn_15 rfl 0 rfl ?_
        refine z_get hx dX1_digestOn_16 fl_X1_9 m0 rfl ?_
        refine z_iload_n hx dX1_digestOn_19 rfl 2 rfl ?_
        refine z_iald hx dX1_digestOn_20 m1 (by omega) (by decide) ?_
        have rk_16 := hR.k b3 (by first | omega | decide)
        have ik_17 := hI.k b3 (by first | omega | decide)
        refine z_i2l hx dX1_digestOn_21 (by omega) ?_
        refine z_ladd hx dX1_digestOn_22 ?_
        refine z_lstore_n hx dX1_digestOn_23 rfl (by decide) [1, 0, 2] (lv' := [(0, .ref c), (1, .long (lI ((31 * d2) + (F 1 b3)))), (3, .int (iI b3))]) rfl ?_
        refine z_ldc2 (a := 31) hx dX1_digestOn_24 wq_X1_132 (by decide) ?_
        refine z_lload_n hx dX1_digestOn_27 rfl 1 rfl ?_
        refine z_lmul hx dX1_digestOn_28 ?_
        refine z_aload_n hx dX1_digestOn_29 rfl 0 rfl ?_
        refine z_get hx dX1_digestOn_30 fl_X1_15 m0 rfl ?_
        refine z_iload_n hx dX1_digestOn_33 rfl 2 rfl ?_
        refine z_iald hx dX1_digestOn_34 m2 (by omega) (by decide) ?_
        have rk_18 := hR.k b3 (by first | omega | decide)
        have ik_19 := hI.k b3 (by first | omega | decide)
        refine z_i2l hx dX1_digestOn_35 (by omega) ?_
        refine z_ladd hx dX1_digestOn_36 ?_
        refine z_lstore_n hx dX1_digestOn_37 rfl (by decide) [1, 0, 2] (lv' := [(0, .ref c), (1, .long (lI ((31 * ((31 * d2) + (F 1 b3))) + (F 2 b3)))), (3, .int (iI b3))]) rfl ?_
        refine z_ldc2 (a := 31) hx dX1_digestOn_38 wq_X1_132 (by decide) ?_
        refine z_lload_n hx dX1_digestOn_41 rfl 1 rfl ?_
        refine z_lmul hx dX1_digestOn_42 ?_
        refine z_aload_n hx dX1_digestOn_43 rfl 0 rfl ?_
        refine z_get hx dX1_digestOn_44 fl_X1_18 m0 rfl ?_
        refine z_iload_n hx dX1_digestOn_47 rfl 2 rfl ?_
        refine z_iald hx dX1_digestOn_48 m3 (by omega) (by decide) ?_
        have rk_20 := hR.k b3 (by first | omega | decide)
        have ik_21 := hI.k b3 (by first | omega | decide)
        refine z_i2l hx dX1_digestOn_49 (by omega) ?_
        refine z_ladd hx dX1_digestOn_50 ?_
        refine z_lstore_n hx dX1_digestOn_51 rfl (by decide) [1, 0, 2] (lv' := [(0, .ref c), (1, .long (lI ((31 * ((31 * ((31 * d2) + (F 1 b3))) + (F 2 b3))) + (F 3 b3)))), (3, .int (iI b3))]) rfl ?_
        refine z_ldc2 (a := 31) hx dX1_digestOn_52 wq_X1_132 (by decide) ?_
        refine z_lload_n hx dX1_digestOn_55 rfl 1 rfl ?_
        refine z_lmul hx dX1_digestOn_56 ?_
        refine z_aload_n hx dX1_digestOn_57 rfl 0 rfl ?_
        refine z_get hx dX1_digestOn_58 fl_X1_21 m0 rfl ?_
        refine z_iload_n hx dX1_digestOn_61 rfl 2 rfl ?_
        refine z_iald hx dX1_digestOn_62 m4 (by omega) (by decide) ?_
        have rk_22 := hR.k b3 (by first | omega | decide)
        have ik_23 := hI.k b3 (by first | omega | decide)
        refine z_i2l hx dX1_digestOn_63 (by omega) ?_
        refine z_ladd hx dX1_digestOn_64 ?_
        refine z_lstore_n hx dX1_digestOn_65 rfl (by decide) [1, 0, 2] (lv' := [(0, .ref c), (1, .long (lI ((31 * ((31 * ((31 * ((31 * d2) + (F 1 b3))) + (F 2 b3))) + (F 3 b3))) + (F 4 b3)))), (3, .int (iI b3))]) rfl ?_
        refine z_iinc hx dX1_digestOn_66 (by decide) 2 rfl [1, 2, 0] (lv' := [(0, .ref c), (1, .long (lI ((31 * ((31 * ((31 * ((31 * d2) + (F 1 b3))) + (F 2 b3))) + (F 3 b3))) + (F 4 b3)))), (3, .int (iI (b3 + 1)))]) rfl ?_
        refine z_goto (tgt := 2) hx dX1_digestOn_69 (by decide) ?_
        exact ih_2 _ _ (by omega) (by rw [itI_s _ _ (by omega), ← eb]; unfold dg2; rw [show F 1 b3 = f (27 + b3) by omega, show F 2 b3 = f (1 + b3) by omega, show F 3 b3 = f (32 + b3) by omega, show F 4 b3 = f (6 + b3) by omega])  (by omega)
  exact hL_1 ((f 26 - 0) + 1 : Int).toNat _ _ (by omega) (by rw [itI_0 _ _ rfl])  (by omega)

