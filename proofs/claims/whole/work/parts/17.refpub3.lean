/-! the reference's public methods, the rest but read and run -/
set_option maxHeartbeats 4000000 in
set_option maxRecDepth 20000 in
theorem kX9_stitches (g : Gt) {h : AH} {b : Nat} {S : Nat → Int → Int} {k : Int} {n : Int} (hM : RM h b S) (hV : invM S) (g_k : rgI k) (g_n : rgI n) : CnJ g mX9_stitches 4 [.ref b, .int (iI k), .int (iI n)] h (stitchesA S k n).1 (QM h b (stitchesA S k n).2) := by
  refine Cn.mk (by decide +kernel) (Nat.le_of_ble_eq_true rfl) ?_
  intro x sz hx hr
  show Zj g x (sz, 0, 0) h 0 [(0, .ref b), (1, .int (iI k)), (2, .int (iI n))] []
  obtain ⟨m0, m1, m2, m3, m4, m5, m6, m7, m8⟩ := hM
  have hN := hV.1
  have hI := hN.1
  have hn := hI.n
  have h58 : 0 ≤ S 1 58 ∧ S 1 58 ≤ 8 := ⟨(hI.rg 58 (by decide)).1, hN.2.2.2.1⟩
  have h39 : 0 ≤ S 1 39 ∧ S 1 39 ≤ 6 := ⟨(hI.rg 39 (by decide)).1, hN.2.2.1⟩
  have h0 : 0 ≤ S 1 0 ∧ S 1 0 ≤ 999 := ⟨hN.2.1.2, hN.2.1.1⟩
  refine z_aload_n hx dX9_stitches_0 rfl 0 rfl ?_
  refine z_iload_n hx dX9_stitches_1 rfl 1 rfl ?_
  refine z_cVI (as := [.int (iI k)]) (rest := []) hx dX9_stitches_2 lk_X9_194 wm_X9_isCosy wv_X9_isCosy (rcv_obj hx m0 rfl) mo_X9_isCosy (kX9_isCosy g (S := S) ⟨m0, m1, m2, m3, m4, m5, m6, m7, m8⟩ hI (by first | exact g_k | omega)) (by decide) rfl rfl (Nat.le_of_ble_eq_true rfl) ?_
  refine z_ifeq_b (tgt := 18) hx dX9_stitches_5 (by decide)  (fun c_1 => ?_) (fun c_1 => ?_)
  ·
    refine z_aload_n hx dX9_stitches_18 rfl 0 rfl ?_
    refine z_cVJ (as := []) (rest := []) hx dX9_stitches_19 lk_X9_55 wm_X9_bad wv_X9_bad (rcv_obj hx m0 rfl) mo_X9_bad (kX9_bad g  ⟨m0, m1, m2, m3, m4, m5, m6, m7, m8⟩) (by decide) rfl rfl (Nat.le_of_ble_eq_true rfl) (fun h_2 q_3 => ?_)
    have fr_4 : Fr h h_2 b 9 := q_3.2.wd (by omega) (by omega)
    refine z_iret hx hr dX9_stitches_22 rfl rfl (q_j (by unfold stitchesA; (repeat (first | rw [if_pos (by omega)] | rw [if_neg (by omega)])); (try rw [← eg]); (try rfl)) (by unfold stitchesA; (repeat (first | rw [if_pos (by omega)] | rw [if_neg (by omega)])); exact ⟨q_3.1, fr_4⟩))
  ·
    refine z_iload_n hx dX9_stitches_8 rfl 2 rfl ?_
    refine z_iconst hx dX9_stitches_9 ?_
    refine z_bipush hx dX9_stitches_10 (by decide) ?_
    refine z_cSI (as := [.int (iI n), .int (iI 0), .int (iI 9)]) (rest := []) hx dX9_stitches_12 lk_X9_43 wt_X9_in mo_X9_in (kX9_in g (a := n) (b := 0) (c := 9) (by omega) (by omega) (by omega)) (by decide) rfl rfl (Nat.le_of_ble_eq_true rfl) ?_
    refine z_ifne_b (tgt := 23) hx dX9_stitches_15 (by decide)  (fun c_5 => ?_) (fun c_5 => ?_)
    ·
      have hkk := hI.k k (by omega)
      refine z_iconst hx dX9_stitches_23 ?_
      refine z_istore_n hx dX9_stitches_24 rfl (by decide) [1, 2, 3, 0] (lv' := [(0, .ref b), (1, .int (iI k)), (2, .int (iI n)), (3, .int (iI 0))]) rfl ?_
      have hL_6 : ∀ (mm : Nat) (v3 : Int), (0 ≤ v3 ∧ v3 ≤ S 1 (6 + k) + 1) → (fnd (fun d => decide (n ≤ hol (S 1 (27 + k)) (S 1 (32 + k)) (S 1 (6 + k) - d))) (S 1 (6 + k) + 1 - v3).toNat v3 = fnd (fun d => decide (n ≤ hol (S 1 (27 + k)) (S 1 (32 + k)) (S 1 (6 + k) - d))) (S 1 (6 + k) + 1).toNat 0) → S 1 (6 + k) + 1 - v3 < (mm : Int) → Zj g x (sz, 0, 0) h 25 [(0, .ref b), (1, .int (iI k)), (2, .int (iI n)), (3, .int (iI v3))] [] := by
        intro mm
        induction mm with
        | zero => intro v3 kv eg hm; exfalso; omega
        | succ mm ih =>
          intro v3 kv eg hm
          have ih_7 := ih; clear ih
          refine z_iload_n hx dX9_stitches_25 rfl 3 rfl ?_
          refine z_aload_n hx dX9_stitches_26 rfl 0 rfl ?_
          refine z_get hx dX9_stitches_27 fl_X9_7 m0 rfl ?_
          refine z_bipush hx dX9_stitches_30 (by decide) ?_
          refine z_iload_n hx dX9_stitches_32 rfl 1 rfl ?_
          refine z_iadd hx dX9_stitches_33 ?_
          refine z_iald hx dX9_stitches_34 m1 (by omega) (by decide) ?_
          have rg_8 := hI.rg ((6 + k)) (by omega)
          refine z_icmp_gt (tgt := 82) hx dX9_stitches_35 (by decide) (by omega) (by omega) (fun c_9 => ?_) (fun c_9 => ?_)
          ·
            rw [show (S 1 (6 + k) + 1 - v3).toNat = 0 by omega] at eg
            refine z_iconst hx dX9_stitches_82 ?_
            refine z_iret hx hr dX9_stitches_83 rfl rfl (q_j (by unfold stitchesA; (repeat (first | rw [if_pos (by omega)] | rw [if_neg (by omega)])); (try rw [← eg]); (try rfl)) (by unfold stitchesA; (repeat (first | rw [if_pos (by omega)] | rw [if_neg (by omega)])); exact ⟨⟨m0, m1, m2, m3, m4, m5, m6, m7, m8⟩, Fr.rf⟩))
          ·
            refine z_aload_n hx dX9_stitches_38 rfl 0 rfl ?_
            refine z_get hx dX9_stitches_39 fl_X9_7 m0 rfl ?_
            refine z_bipush hx dX9_stitches_42 (by decide) ?_
            refine z_iload_n hx dX9_stitches_44 rfl 1 rfl ?_
            refine z_iadd hx dX9_stitches_45 ?_
            refine z_iald hx dX9_stitches_46 m1 (by omega) (by decide) ?_
            have rg_10 := hI.rg ((27 + k)) (by omega)
            refine z_aload_n hx dX9_stitches_47 rfl 0 rfl ?_
            refine z_get hx dX9_stitches_48 fl_X9_7 m0 rfl ?_
            refine z_bipush hx dX9_stitches_51 (by decide) ?_
            refine z_iload_n hx dX9_stitches_53 rfl 1 rfl ?_
            refine z_iadd hx dX9_stitches_54 ?_
            refine z_iald hx dX9_stitches_55 m1 (by omega) (by decide) ?_
            have rg_11 := hI.rg ((32 + k)) (by omega)
            refine z_aload_n hx dX9_stitches_56 rfl 0 rfl ?_
            refine z_get hx dX9_stitches_57 fl_X9_7 m0 rfl ?_
            refine z_bipush hx dX9_stitches_60 (by decide) ?_
            refine z_iload_n hx dX9_stitches_62 rfl 1 rfl ?_
            refine z_iadd hx dX9_stitches_63 ?_
            refine z_iald hx dX9_stitches_64 m1 (by omega) (by decide) ?_
            have rg_12 := hI.rg ((6 + k)) (by omega)
            refine z_iload_n hx dX9_stitches_65 rfl 3 rfl ?_
            refine z_isub hx dX9_stitches_66 ?_
            have hrr := hol_rg (k := S 1 (27 + k)) (s := S 1 (32 + k)) (w := S 1 (6 + k) - v3) (by omega) (by omega) (by omega)
            refine z_cSI (as := [.int (iI (S 1 (27 + k))), .int (iI (S 1 (32 + k))), .int (iI ((S 1 (6 + k)) - v3))]) (rest := []) hx dX9_stitches_67 lk_X9_142 wt_X9_holdsBy mo_X9_holdsBy (kX9_holdsBy g (k := (S 1 (27 + k))) (s := (S 1 (32 + k))) (w := ((S 1 (6 + k)) - v3)) (by omega) (by omega) (by omega)) (by decide) rfl rfl (Nat.le_of_ble_eq_true rfl) ?_
            refine z_iload_n hx dX9_stitches_70 rfl 2 rfl ?_
            refine z_icmp_lt (tgt := 76) hx dX9_stitches_71 (by decide) (by omega) (by omega) (fun c_13 => ?_) (fun c_13 => ?_)
            ·
              refine z_iinc hx dX9_stitches_76 (by decide) 3 rfl [1, 2, 3, 0] (lv' := [(0, .ref b), (1, .int (iI k)), (2, .int (iI n)), (3, .int (iI (v3 + 1)))]) rfl ?_
              refine z_goto (tgt := 25) hx dX9_stitches_79 (by decide) ?_
              exact ih_7 _ (by omega) (by rw [← eg]; exact (fnd_n (by omega) (by simp; omega)).symm)  (by omega)
            ·
              have eW := fnd_y (P := fun d => decide (n ≤ hol (S 1 (27 + k)) (S 1 (32 + k)) (S 1 (6 + k) - d))) (m := (S 1 (6 + k) + 1 - v3).toNat) (i := v3) (by omega) (by simp; omega)
              rw [eW] at eg
              refine z_iload_n hx dX9_stitches_74 rfl 3 rfl ?_
              refine z_iret hx hr dX9_stitches_75 rfl rfl (q_j (by unfold stitchesA; (repeat (first | rw [if_pos (by omega)] | rw [if_neg (by omega)])); (try rw [← eg]); (try rfl)) (by unfold stitchesA; (repeat (first | rw [if_pos (by omega)] | rw [if_neg (by omega)])); exact ⟨⟨m0, m1, m2, m3, m4, m5, m6, m7, m8⟩, Fr.rf⟩))
      exact hL_6 ((S 1 (6 + k) + 1 - 0) + 1).toNat _ (by omega) (by rw [show S 1 (6 + k) + 1 - 0 = S 1 (6 + k) + 1 by omega])  (by omega)
    ·
      refine z_aload_n hx dX9_stitches_18 rfl 0 rfl ?_
      refine z_cVJ (as := []) (rest := []) hx dX9_stitches_19 lk_X9_55 wm_X9_bad wv_X9_bad (rcv_obj hx m0 rfl) mo_X9_bad (kX9_bad g  ⟨m0, m1, m2, m3, m4, m5, m6, m7, m8⟩) (by decide) rfl rfl (Nat.le_of_ble_eq_true rfl) (fun h_14 q_15 => ?_)
      have fr_16 : Fr h h_14 b 9 := q_15.2.wd (by omega) (by omega)
      refine z_iret hx hr dX9_stitches_22 rfl rfl (q_j (by unfold stitchesA; (repeat (first | rw [if_pos (by omega)] | rw [if_neg (by omega)])); (try rw [← eg]); (try rfl)) (by unfold stitchesA; (repeat (first | rw [if_pos (by omega)] | rw [if_neg (by omega)])); exact ⟨q_15.1, fr_16⟩))

set_option maxHeartbeats 4000000 in
set_option maxRecDepth 20000 in
theorem kX9_note (g : Gt) {h : AH} {b : Nat} {S : Nat → Int → Int} {k : Int} {w : Int} {n : Int} (hM : RM h b S) (hV : invM S) (g_k : rgI k) (g_w : rgI w) (g_n : rgI n) : CnJ g mX9_note 3 [.ref b, .int (iI k), .int (iI w), .int (iI n)] h (noteA S k w n).1 (QM h b (noteA S k w n).2) := by
  refine Cn.mk (by decide +kernel) (Nat.le_of_ble_eq_true rfl) ?_
  intro x sz hx hr
  show Zj g x (sz, 0, 0) h 0 [(0, .ref b), (1, .int (iI k)), (2, .int (iI w)), (3, .int (iI n))] []
  obtain ⟨m0, m1, m2, m3, m4, m5, m6, m7, m8⟩ := hM
  have hN := hV.1
  have hI := hN.1
  have hn := hI.n
  have h58 : 0 ≤ S 1 58 ∧ S 1 58 ≤ 8 := ⟨(hI.rg 58 (by decide)).1, hN.2.2.2.1⟩
  have h39 : 0 ≤ S 1 39 ∧ S 1 39 ≤ 6 := ⟨(hI.rg 39 (by decide)).1, hN.2.2.1⟩
  have h0 : 0 ≤ S 1 0 ∧ S 1 0 ≤ 999 := ⟨hN.2.1.2, hN.2.1.1⟩
  refine z_aload_n hx dX9_note_0 rfl 0 rfl ?_
  refine z_iload_n hx dX9_note_1 rfl 1 rfl ?_
  refine z_cVI (as := [.int (iI k)]) (rest := []) hx dX9_note_2 lk_X9_194 wm_X9_isCosy wv_X9_isCosy (rcv_obj hx m0 rfl) mo_X9_isCosy (kX9_isCosy g (S := S) ⟨m0, m1, m2, m3, m4, m5, m6, m7, m8⟩ hI (by first | exact g_k | omega)) (by decide) rfl rfl (Nat.le_of_ble_eq_true rfl) ?_
  refine z_ifeq_b (tgt := 28) hx dX9_note_5 (by decide)  (fun c_1 => ?_) (fun c_1 => ?_)
  ·
    refine z_aload_n hx dX9_note_28 rfl 0 rfl ?_
    refine z_cVJ (as := []) (rest := []) hx dX9_note_29 lk_X9_55 wm_X9_bad wv_X9_bad (rcv_obj hx m0 rfl) mo_X9_bad (kX9_bad g  ⟨m0, m1, m2, m3, m4, m5, m6, m7, m8⟩) (by decide) rfl rfl (Nat.le_of_ble_eq_true rfl) (fun h_2 q_3 => ?_)
    have fr_4 : Fr h h_2 b 9 := q_3.2.wd (by omega) (by omega)
    refine z_iret hx hr dX9_note_32 rfl rfl (q_j (by unfold noteA; (repeat (first | rw [if_pos (by omega)] | rw [if_neg (by omega)])); (try exact e39); (try rfl)) (by unfold noteA; (repeat (first | rw [if_pos (by omega)] | rw [if_neg (by omega)])); exact ⟨q_3.1, fr_4⟩))
  ·
    refine z_iload_n hx dX9_note_8 rfl 2 rfl ?_
    refine z_iconst hx dX9_note_9 ?_
    refine z_bipush hx dX9_note_10 (by decide) ?_
    refine z_cSI (as := [.int (iI w), .int (iI 0), .int (iI 40)]) (rest := []) hx dX9_note_12 lk_X9_43 wt_X9_in mo_X9_in (kX9_in g (a := w) (b := 0) (c := 40) (by omega) (by omega) (by omega)) (by decide) rfl rfl (Nat.le_of_ble_eq_true rfl) ?_
    refine z_ifeq_b (tgt := 28) hx dX9_note_15 (by decide)  (fun c_5 => ?_) (fun c_5 => ?_)
    ·
      refine z_aload_n hx dX9_note_28 rfl 0 rfl ?_
      refine z_cVJ (as := []) (rest := []) hx dX9_note_29 lk_X9_55 wm_X9_bad wv_X9_bad (rcv_obj hx m0 rfl) mo_X9_bad (kX9_bad g  ⟨m0, m1, m2, m3, m4, m5, m6, m7, m8⟩) (by decide) rfl rfl (Nat.le_of_ble_eq_true rfl) (fun h_6 q_7 => ?_)
      have fr_8 : Fr h h_6 b 9 := q_7.2.wd (by omega) (by omega)
      refine z_iret hx hr dX9_note_32 rfl rfl (q_j (by unfold noteA; (repeat (first | rw [if_pos (by omega)] | rw [if_neg (by omega)])); (try exact e39); (try rfl)) (by unfold noteA; (repeat (first | rw [if_pos (by omega)] | rw [if_neg (by omega)])); exact ⟨q_7.1, fr_8⟩))
    ·
      refine z_iload_n hx dX9_note_18 rfl 3 rfl ?_
      refine z_iconst hx dX9_note_19 ?_
      refine z_bipush hx dX9_note_20 (by decide) ?_
      refine z_cSI (as := [.int (iI n), .int (iI 0), .int (iI 9)]) (rest := []) hx dX9_note_22 lk_X9_43 wt_X9_in mo_X9_in (kX9_in g (a := n) (b := 0) (c := 9) (by omega) (by omega) (by omega)) (by decide) rfl rfl (Nat.le_of_ble_eq_true rfl) ?_
      refine z_ifne_b (tgt := 33) hx dX9_note_25 (by decide)  (fun c_9 => ?_) (fun c_9 => ?_)
      ·
        refine z_aload_n hx dX9_note_33 rfl 0 rfl ?_
        refine z_get hx dX9_note_34 fl_X9_7 m0 rfl ?_
        refine z_bipush hx dX9_note_37 (by decide) ?_
        refine z_iald hx dX9_note_39 m1 (by decide) (by decide) ?_
        have rg_10 := hI.rg (39) (by decide)
        refine z_bipush hx dX9_note_40 (by decide) ?_
        refine z_icmp_ne (tgt := 50) hx dX9_note_42 (by decide) (by omega) (by decide) (fun c_11 => ?_) (fun c_11 => ?_)
        ·
          refine z_bipush hx dX9_note_50 (by decide) ?_
          refine z_iconst hx dX9_note_52 ?_
          refine z_aload_n hx dX9_note_53 rfl 0 rfl ?_
          refine z_get hx dX9_note_54 fl_X9_7 m0 rfl ?_
          refine z_bipush hx dX9_note_57 (by decide) ?_
          refine z_iald hx dX9_note_59 m1 (by decide) (by decide) ?_
          have rg_12 := hI.rg (39) (by decide)
          refine z_imul hx dX9_note_60 ?_
          refine z_iadd hx dX9_note_61 ?_
          refine z_istore hx dX9_note_62 (by decide) [1, 2, 3, 4, 0] (lv' := [(0, .ref b), (1, .int (iI k)), (2, .int (iI w)), (3, .int (iI n)), (4, .int (iI (40 + (3 * (S 1 39)))))]) rfl ?_
          refine z_aload_n hx dX9_note_64 rfl 0 rfl ?_
          refine z_get hx dX9_note_65 fl_X9_7 m0 rfl ?_
          refine z_iload hx dX9_note_68 4 rfl ?_
          refine z_iload_n hx dX9_note_70 rfl 1 rfl ?_
          refine z_iastQ hx dX9_note_71 m1 (by omega) (by decide) (fun h_13 hs_14 hf_15 => ?_)
          have h_16 := hf_15.at (by omega) m0
          have h_17 := hf_15.at (by omega) m2
          have h_18 := hf_15.at (by omega) m3
          have h_19 := hf_15.at (by omega) m4
          have h_20 := hf_15.at (by omega) m5
          have h_21 := hf_15.at (by omega) m6
          have h_22 := hf_15.at (by omega) m7
          have h_23 := hf_15.at (by omega) m8
          have fr_24 : Fr h h_13 b 9 := hf_15.wd (by omega) (by omega)
          refine z_aload_n hx dX9_note_72 rfl 0 rfl ?_
          refine z_get hx dX9_note_73 fl_X9_7 h_16 rfl ?_
          refine z_iload hx dX9_note_76 4 rfl ?_
          refine z_iconst hx dX9_note_78 ?_
          refine z_iadd hx dX9_note_79 ?_
          refine z_iload_n hx dX9_note_80 rfl 2 rfl ?_
          refine z_iastQ hx dX9_note_81 hs_14 (by omega) (by decide) (fun h_25 hs_26 hf_27 => ?_)
          have h_28 := hf_27.at (by omega) h_16
          have h_29 := hf_27.at (by omega) h_17
          have h_30 := hf_27.at (by omega) h_18
          have h_31 := hf_27.at (by omega) h_19
          have h_32 := hf_27.at (by omega) h_20
          have h_33 := hf_27.at (by omega) h_21
          have h_34 := hf_27.at (by omega) h_22
          have h_35 := hf_27.at (by omega) h_23
          have fr_36 := fr_24.tr (hf_27.wd (by omega) (by omega))
          refine z_aload_n hx dX9_note_82 rfl 0 rfl ?_
          refine z_get hx dX9_note_83 fl_X9_7 h_28 rfl ?_
          refine z_iload hx dX9_note_86 4 rfl ?_
          refine z_iconst hx dX9_note_88 ?_
          refine z_iadd hx dX9_note_89 ?_
          refine z_iload_n hx dX9_note_90 rfl 3 rfl ?_
          refine z_iastQ hx dX9_note_91 hs_26 (by omega) (by decide) (fun h_37 hs_38 hf_39 => ?_)
          have h_40 := hf_39.at (by omega) h_28
          have h_41 := hf_39.at (by omega) h_29
          have h_42 := hf_39.at (by omega) h_30
          have h_43 := hf_39.at (by omega) h_31
          have h_44 := hf_39.at (by omega) h_32
          have h_45 := hf_39.at (by omega) h_33
          have h_46 := hf_39.at (by omega) h_34
          have h_47 := hf_39.at (by omega) h_35
          have fr_48 := fr_36.tr (hf_39.wd (by omega) (by omega))
          refine z_aload_n hx dX9_note_92 rfl 0 rfl ?_
          refine z_get hx dX9_note_93 fl_X9_7 h_40 rfl ?_
          refine z_bipush hx dX9_note_96 (by decide) ?_
          refine z_dup2 hx dX9_note_98 rfl rfl ?_
          refine z_iald hx dX9_note_99 hs_38 (by decide) (by decide) ?_
          refine z_iconst hx dX9_note_100 ?_
          refine z_iadd hx dX9_note_101 ?_
          refine z_iastQ hx dX9_note_102 hs_38 (by decide) (by decide) (fun h_49 hs_50 hf_51 => ?_)
          have h_52 := hf_51.at (by omega) h_40
          have h_53 := hf_51.at (by omega) h_41
          have h_54 := hf_51.at (by omega) h_42
          have h_55 := hf_51.at (by omega) h_43
          have h_56 := hf_51.at (by omega) h_44
          have h_57 := hf_51.at (by omega) h_45
          have h_58 := hf_51.at (by omega) h_46
          have h_59 := hf_51.at (by omega) h_47
          have fr_60 := fr_48.tr (hf_51.wd (by omega) (by omega))
          have e_61 : (fup (fup (fup (fup (S 1) (40 + (3 * (S 1 39))) k) ((40 + (3 * (S 1 39))) + 1) w) ((40 + (3 * (S 1 39))) + 2) n) 39 (((fup (fup (fup (S 1) (40 + (3 * (S 1 39))) k) ((40 + (3 * (S 1 39))) + 1) w) ((40 + (3 * (S 1 39))) + 2) n) 39) + 1)) = ntF (S 1) k w n := by unfold ntF; rw [fup_n (i := 40 + 3 * S 1 39 + 2) (by omega), fup_n (i := 40 + 3 * S 1 39 + 1) (by omega), fup_n (i := 40 + 3 * S 1 39) (by omega)]
          rw [e_61] at hs_50
          have e39 : ntF (S 1) k w n 39 = S 1 39 + 1 := fup_s _ _ _
          refine z_aload_n hx dX9_note_103 rfl 0 rfl ?_
          refine z_get hx dX9_note_104 fl_X9_7 h_52 rfl ?_
          refine z_bipush hx dX9_note_107 (by decide) ?_
          refine z_iald hx dX9_note_109 hs_50 (by decide) (by decide) ?_
          refine z_iret hx hr dX9_note_110 rfl rfl (q_j (by unfold noteA; (repeat (first | rw [if_pos (by omega)] | rw [if_neg (by omega)])); (try exact e39); (try rfl)) (by unfold noteA; (repeat (first | rw [if_pos (by omega)] | rw [if_neg (by omega)])); exact ⟨⟨h_52, hs_50, h_53, h_54, h_55, h_56, h_57, h_58, h_59⟩, fr_60⟩))
        ·
          refine z_aload_n hx dX9_note_45 rfl 0 rfl ?_
          refine z_cVJ (as := []) (rest := []) hx dX9_note_46 lk_X9_59 wm_X9_full wv_X9_full (rcv_obj hx m0 rfl) mo_X9_full (kX9_full g  ⟨m0, m1, m2, m3, m4, m5, m6, m7, m8⟩) (by decide) rfl rfl (Nat.le_of_ble_eq_true rfl) (fun h_62 q_63 => ?_)
          have fr_64 : Fr h h_62 b 9 := q_63.2.wd (by omega) (by omega)
          refine z_iret hx hr dX9_note_49 rfl rfl (q_j (by unfold noteA; (repeat (first | rw [if_pos (by omega)] | rw [if_neg (by omega)])); (try exact e39); (try rfl)) (by unfold noteA; (repeat (first | rw [if_pos (by omega)] | rw [if_neg (by omega)])); exact ⟨q_63.1, fr_64⟩))
      ·
        refine z_aload_n hx dX9_note_28 rfl 0 rfl ?_
        refine z_cVJ (as := []) (rest := []) hx dX9_note_29 lk_X9_55 wm_X9_bad wv_X9_bad (rcv_obj hx m0 rfl) mo_X9_bad (kX9_bad g  ⟨m0, m1, m2, m3, m4, m5, m6, m7, m8⟩) (by decide) rfl rfl (Nat.le_of_ble_eq_true rfl) (fun h_65 q_66 => ?_)
        have fr_67 : Fr h h_65 b 9 := q_66.2.wd (by omega) (by omega)
        refine z_iret hx hr dX9_note_32 rfl rfl (q_j (by unfold noteA; (repeat (first | rw [if_pos (by omega)] | rw [if_neg (by omega)])); (try exact e39); (try rfl)) (by unfold noteA; (repeat (first | rw [if_pos (by omega)] | rw [if_neg (by omega)])); exact ⟨q_66.1, fr_67⟩))

set_option maxHeartbeats 4000000 in
set_option maxRecDepth 20000 in
theorem kX9_forget (g : Gt) {h : AH} {b : Nat} {S : Nat → Int → Int}  (hM : RM h b S) (hV : invM S)  : CnJ g mX9_forget 1 [.ref b] h (forgetA S).1 (QM h b (forgetA S).2) := by
  refine Cn.mk (by decide +kernel) (Nat.le_of_ble_eq_true rfl) ?_
  intro x sz hx hr
  show Zj g x (sz, 0, 0) h 0 [(0, .ref b)] []
  obtain ⟨m0, m1, m2, m3, m4, m5, m6, m7, m8⟩ := hM
  have hN := hV.1
  have hI := hN.1
  have hn := hI.n
  refine z_aload_n hx dX9_forget_0 rfl 0 rfl ?_
  refine z_get hx dX9_forget_1 fl_X9_7 m0 rfl ?_
  refine z_bipush hx dX9_forget_4 (by decide) ?_
  refine z_iald hx dX9_forget_6 m1 (by decide) (by decide) ?_
  have rg_1 := hI.rg (39) (by decide)
  refine z_istore_n hx dX9_forget_7 rfl (by decide) [1, 0] (lv' := [(0, .ref b), (1, .int (iI (S 1 39)))]) rfl ?_
  refine z_aload_n hx dX9_forget_8 rfl 0 rfl ?_
  refine z_get hx dX9_forget_9 fl_X9_7 m0 rfl ?_
  refine z_bipush hx dX9_forget_12 (by decide) ?_
  refine z_iconst hx dX9_forget_14 ?_
  refine z_iastQ hx dX9_forget_15 m1 (by decide) (by decide) (fun h_2 hs_3 hf_4 => ?_)
  have h_5 := hf_4.at (by omega) m0
  have h_6 := hf_4.at (by omega) m2
  have h_7 := hf_4.at (by omega) m3
  have h_8 := hf_4.at (by omega) m4
  have h_9 := hf_4.at (by omega) m5
  have h_10 := hf_4.at (by omega) m6
  have h_11 := hf_4.at (by omega) m7
  have h_12 := hf_4.at (by omega) m8
  have fr_13 : Fr h h_2 b 9 := hf_4.wd (by omega) (by omega)
  refine z_iload_n hx dX9_forget_16 rfl 1 rfl ?_
  refine z_iret hx hr dX9_forget_17 rfl rfl (q_j (by subst_vars; rfl) (by subst_vars; exact ⟨⟨h_5, hs_3, h_6, h_7, h_8, h_9, h_10, h_11, h_12⟩, fr_13⟩))

set_option maxHeartbeats 4000000 in
set_option maxRecDepth 20000 in
theorem kX9_image (g : Gt) {h : AH} {b : Nat} {S : Nat → Int → Int} {i : Int} (hM : RM h b S) (hV : invM S) (g_i : rgI i) : CnJ g mX9_image 3 [.ref b, .int (iI i)] h (imageA S i).1 (QM h b (imageA S i).2) := by
  refine Cn.mk (by decide +kernel) (Nat.le_of_ble_eq_true rfl) ?_
  intro x sz hx hr
  show Zj g x (sz, 0, 0) h 0 [(0, .ref b), (1, .int (iI i))] []
  obtain ⟨m0, m1, m2, m3, m4, m5, m6, m7, m8⟩ := hM
  have hN := hV.1
  have hI := hN.1
  have hn := hI.n
  refine z_iload_n hx dX9_image_0 rfl 1 rfl ?_
  refine z_iconst hx dX9_image_1 ?_
  refine z_iconst hx dX9_image_2 ?_
  refine z_cSI (as := [.int (iI i), .int (iI 0), .int (iI 1)]) (rest := []) hx dX9_image_3 lk_X9_43 wt_X9_in mo_X9_in (kX9_in g (a := i) (b := 0) (c := 1) (by omega) (by omega) (by omega)) (by decide) rfl rfl (Nat.le_of_ble_eq_true rfl) ?_
  refine z_ifne_b (tgt := 14) hx dX9_image_6 (by decide)  (fun c_1 => ?_) (fun c_1 => ?_)
  ·
    refine z_aload_n hx dX9_image_14 rfl 0 rfl ?_
    refine z_get hx dX9_image_15 fl_X9_7 m0 rfl ?_
    refine z_iconst hx dX9_image_18 ?_
    refine z_aload_n hx dX9_image_19 rfl 0 rfl ?_
    refine z_get hx dX9_image_20 fl_X9_19 m0 rfl ?_
    refine z_sipush hx dX9_image_23 (by decide) ?_
    refine z_iload_n hx dX9_image_26 rfl 1 rfl ?_
    refine z_imul hx dX9_image_27 ?_
    refine z_sipush hx dX9_image_28 (by decide) ?_
    refine z_cSV (as := [.ref (b + 1), .int (iI 0), .ref (b + 4), .int (iI (267 * i)), .int (iI 267)]) (rest := []) hx dX9_image_31 lk_X9_138 wt_X9_bring mo_X9_bring (kX9_bring_ne g m1 m4 (by omega) (by decide) (by omega) (by omega) (by decide)) (by decide) rfl rfl (Nat.le_of_ble_eq_true rfl) (fun h_2 q_3 => ?_)
    obtain ⟨hs_4, hf_5⟩ := q_3
    obtain ⟨f_6, ef_6⟩ : ∃ F : Int → Int, F = fcp (S 1) (S 4) 0 (267 * i) 267 := ⟨_, rfl⟩
    rw [← ef_6] at hs_4
    have h_7 := hf_5.at (by omega) m0
    have h_8 := hf_5.at (by omega) m1
    have h_9 := hf_5.at (by omega) m2
    have h_10 := hf_5.at (by omega) m3
    have h_11 := hf_5.at (by omega) m5
    have h_12 := hf_5.at (by omega) m6
    have h_13 := hf_5.at (by omega) m7
    have h_14 := hf_5.at (by omega) m8
    have fr_15 : Fr h h_2 b 9 := hf_5.wd (by omega) (by omega)
    refine z_aload_n hx dX9_image_34 rfl 0 rfl ?_
    refine z_get hx dX9_image_35 fl_X9_22 h_7 rfl ?_
    refine z_iload_n hx dX9_image_38 rfl 1 rfl ?_
    refine z_iconst hx dX9_image_39 ?_
    refine z_zast hx dX9_image_40 h_11 (by omega) (by decide) (rfl) ?_
    obtain ⟨h_16, eh_16⟩ : ∃ hh, hh = hup h_2 (b + 5) (.inl (2, 2, fup (S 5) i 1)) := ⟨_, rfl⟩
    have hs_17 : h_16 (b + 5) = some (.inl (2, 2, fup (S 5) i 1)) := by rw [eh_16]; exact hup_s _ _ _
    have hf_18 : Fr h_2 h_16 (b + 5) 1 := by rw [eh_16]; exact hup_Fr _ _ _
    rw [← eh_16]
    have h_19 := hf_18.at (by omega) h_7
    have h_20 := hf_18.at (by omega) h_8
    have h_21 := hf_18.at (by omega) h_9
    have h_22 := hf_18.at (by omega) h_10
    have h_23 := hf_18.at (by omega) hs_4
    have h_24 := hf_18.at (by omega) h_12
    have h_25 := hf_18.at (by omega) h_13
    have h_26 := hf_18.at (by omega) h_14
    have fr_27 := fr_15.tr (hf_18.wd (by omega) (by omega))
    refine z_iconst hx dX9_image_41 ?_
    refine z_iret hx hr dX9_image_42 rfl rfl (q_j (by unfold imageA; subst_vars; (repeat (first | rw [if_pos (by omega)] | rw [if_neg (by omega)])); (try rfl)) (by unfold imageA; subst_vars; (repeat (first | rw [if_pos (by omega)] | rw [if_neg (by omega)])); exact ⟨⟨h_19, h_20, h_21, h_22, h_23, hs_17, h_24, h_25, h_26⟩, fr_27⟩))
  ·
    refine z_aload_n hx dX9_image_9 rfl 0 rfl ?_
    refine z_cVJ (as := []) (rest := []) hx dX9_image_10 lk_X9_55 wm_X9_bad wv_X9_bad (rcv_obj hx m0 rfl) mo_X9_bad (kX9_bad g  ⟨m0, m1, m2, m3, m4, m5, m6, m7, m8⟩) (by decide) rfl rfl (Nat.le_of_ble_eq_true rfl) (fun h_28 q_29 => ?_)
    have fr_30 : Fr h h_28 b 9 := q_29.2.wd (by omega) (by omega)
    refine z_iret hx hr dX9_image_13 rfl rfl (q_j (by unfold imageA; subst_vars; (repeat (first | rw [if_pos (by omega)] | rw [if_neg (by omega)])); (try rfl)) (by unfold imageA; subst_vars; (repeat (first | rw [if_pos (by omega)] | rw [if_neg (by omega)])); exact ⟨q_29.1, fr_30⟩))

set_option maxHeartbeats 4000000 in
set_option maxRecDepth 20000 in
theorem kX9_from (g : Gt) {h : AH} {b : Nat} {S : Nat → Int → Int} {i : Int} (hM : RM h b S) (hV : invM S) (g_i : rgI i) : CnJ g mX9_from 3 [.ref b, .int (iI i)] h (fromA S i).1 (QM h b (fromA S i).2) := by
  refine Cn.mk (by decide +kernel) (Nat.le_of_ble_eq_true rfl) ?_
  intro x sz hx hr
  show Zj g x (sz, 0, 0) h 0 [(0, .ref b), (1, .int (iI i))] []
  obtain ⟨m0, m1, m2, m3, m4, m5, m6, m7, m8⟩ := hM
  have hN := hV.1
  have hI := hN.1
  have hn := hI.n
  refine z_iload_n hx dX9_from_0 rfl 1 rfl ?_
  refine z_iconst hx dX9_from_1 ?_
  refine z_iconst hx dX9_from_2 ?_
  refine z_cSI (as := [.int (iI i), .int (iI 0), .int (iI 1)]) (rest := []) hx dX9_from_3 lk_X9_43 wt_X9_in mo_X9_in (kX9_in g (a := i) (b := 0) (c := 1) (by omega) (by omega) (by omega)) (by decide) rfl rfl (Nat.le_of_ble_eq_true rfl) ?_
  refine z_ifne_b (tgt := 14) hx dX9_from_6 (by decide)  (fun c_1 => ?_) (fun c_1 => ?_)
  ·
    refine z_aload_n hx dX9_from_14 rfl 0 rfl ?_
    refine z_get hx dX9_from_15 fl_X9_22 m0 rfl ?_
    refine z_iload_n hx dX9_from_18 rfl 1 rfl ?_
    have h5 : S 5 i = 0 ∨ S 5 i = 1 := by rcases hV.2.2.2.2.2 i (by omega) with q | q; exact Or.inl q; exact Or.inr q.1
    refine z_zald hx dX9_from_19 m5 (by omega) (by decide) ?_
    refine z_if_ne (tgt := 28) hx dX9_from_20 (by decide) (by omega) (fun c_2 => ?_) (fun c_2 => ?_)
    ·
      refine z_aload_n hx dX9_from_28 rfl 0 rfl ?_
      refine z_get hx dX9_from_29 fl_X9_19 m0 rfl ?_
      refine z_sipush hx dX9_from_32 (by decide) ?_
      refine z_iload_n hx dX9_from_35 rfl 1 rfl ?_
      refine z_imul hx dX9_from_36 ?_
      refine z_aload_n hx dX9_from_37 rfl 0 rfl ?_
      refine z_get hx dX9_from_38 fl_X9_7 m0 rfl ?_
      refine z_iconst hx dX9_from_41 ?_
      refine z_sipush hx dX9_from_42 (by decide) ?_
      refine z_cSV (as := [.ref (b + 4), .int (iI (267 * i)), .ref (b + 1), .int (iI 0), .int (iI 267)]) (rest := []) hx dX9_from_45 lk_X9_138 wt_X9_bring mo_X9_bring (kX9_bring_ne g m4 m1 (by omega) (by omega) (by decide) (by omega) (by decide)) (by decide) rfl rfl (Nat.le_of_ble_eq_true rfl) (fun h_3 q_4 => ?_)
      obtain ⟨hs_5, hf_6⟩ := q_4
      obtain ⟨f_7, ef_7⟩ : ∃ F : Int → Int, F = fcp (S 4) (S 1) (267 * i) 0 267 := ⟨_, rfl⟩
      rw [← ef_7] at hs_5
      have h_8 := hf_6.at (by omega) m0
      have h_9 := hf_6.at (by omega) m2
      have h_10 := hf_6.at (by omega) m3
      have h_11 := hf_6.at (by omega) m4
      have h_12 := hf_6.at (by omega) m5
      have h_13 := hf_6.at (by omega) m6
      have h_14 := hf_6.at (by omega) m7
      have h_15 := hf_6.at (by omega) m8
      have fr_16 : Fr h h_3 b 9 := hf_6.wd (by omega) (by omega)
      refine z_iconst hx dX9_from_48 ?_
      refine z_iret hx hr dX9_from_49 rfl rfl (q_j (by unfold fromA; subst_vars; (repeat (first | rw [if_pos (by omega)] | rw [if_neg (by omega)])); (try rfl)) (by unfold fromA; subst_vars; (repeat (first | rw [if_pos (by omega)] | rw [if_neg (by omega)])); exact ⟨⟨h_8, hs_5, h_9, h_10, h_11, h_12, h_13, h_14, h_15⟩, fr_16⟩))
    ·
      refine z_aload_n hx dX9_from_23 rfl 0 rfl ?_
      refine z_cVJ (as := []) (rest := []) hx dX9_from_24 lk_X9_201 wm_X9_no wv_X9_no (rcv_obj hx m0 rfl) mo_X9_no (kX9_no g  ⟨m0, m1, m2, m3, m4, m5, m6, m7, m8⟩) (by decide) rfl rfl (Nat.le_of_ble_eq_true rfl) (fun h_17 q_18 => ?_)
      have fr_19 : Fr h h_17 b 9 := q_18.2.wd (by omega) (by omega)
      refine z_iret hx hr dX9_from_27 rfl rfl (q_j (by unfold fromA; subst_vars; (repeat (first | rw [if_pos (by omega)] | rw [if_neg (by omega)])); (try rfl)) (by unfold fromA; subst_vars; (repeat (first | rw [if_pos (by omega)] | rw [if_neg (by omega)])); exact ⟨q_18.1, fr_19⟩))
  ·
    refine z_aload_n hx dX9_from_9 rfl 0 rfl ?_
    refine z_cVJ (as := []) (rest := []) hx dX9_from_10 lk_X9_55 wm_X9_bad wv_X9_bad (rcv_obj hx m0 rfl) mo_X9_bad (kX9_bad g  ⟨m0, m1, m2, m3, m4, m5, m6, m7, m8⟩) (by decide) rfl rfl (Nat.le_of_ble_eq_true rfl) (fun h_20 q_21 => ?_)
    have fr_22 : Fr h h_20 b 9 := q_21.2.wd (by omega) (by omega)
    refine z_iret hx hr dX9_from_13 rfl rfl (q_j (by unfold fromA; subst_vars; (repeat (first | rw [if_pos (by omega)] | rw [if_neg (by omega)])); (try rfl)) (by unfold fromA; subst_vars; (repeat (first | rw [if_pos (by omega)] | rw [if_neg (by omega)])); exact ⟨q_21.1, fr_22⟩))

set_option maxHeartbeats 4000000 in
set_option maxRecDepth 20000 in
theorem kX9_status (g : Gt) {h : AH} {b : Nat} {S : Nat → Int → Int} {w : Int} (hM : RM h b S) (hV : invM S) (g_w : rgI w) : CnJ g mX9_status 3 [.ref b, .int (iI w)] h (statusA S w).1 (QM h b (statusA S w).2) := by
  refine Cn.mk (by decide +kernel) (Nat.le_of_ble_eq_true rfl) ?_
  intro x sz hx hr
  show Zj g x (sz, 0, 0) h 0 [(0, .ref b), (1, .int (iI w))] []
  obtain ⟨m0, m1, m2, m3, m4, m5, m6, m7, m8⟩ := hM
  have hN := hV.1
  have hI := hN.1
  have hn := hI.n
  refine z_iload_n hx dX9_status_0 rfl 1 rfl ?_
  refine z_iconst hx dX9_status_1 ?_
  refine z_iconst hx dX9_status_2 ?_
  refine z_cSI (as := [.int (iI w), .int (iI 0), .int (iI 2)]) (rest := []) hx dX9_status_3 lk_X9_43 wt_X9_in mo_X9_in (kX9_in g (a := w) (b := 0) (c := 2) (by omega) (by omega) (by omega)) (by decide) rfl rfl (Nat.le_of_ble_eq_true rfl) ?_
  refine z_ifeq_b (tgt := 18) hx dX9_status_6 (by decide)  (fun c_1 => ?_) (fun c_1 => ?_)
  ·
    refine z_aload_n hx dX9_status_18 rfl 0 rfl ?_
    refine z_iconst hx dX9_status_19 ?_
    refine z_cVJ (as := [.int (iI (-1))]) (rest := []) hx dX9_status_20 lk_X9_39 wm_X9_badBy wv_X9_badBy (rcv_obj hx m0 rfl) mo_X9_badBy (kX9_badBy g (v := (-1)) ⟨m0, m1, m2, m3, m4, m5, m6, m7, m8⟩) (by decide) rfl rfl (Nat.le_of_ble_eq_true rfl) (fun h_2 q_3 => ?_)
    have fr_4 : Fr h h_2 b 9 := q_3.2.wd (by omega) (by omega)
    refine z_iret hx hr dX9_status_23 rfl rfl (q_j (by unfold statusA; subst_vars; (repeat (first | rw [if_pos (by omega)] | rw [if_neg (by omega)])); (try rfl)) (by unfold statusA; subst_vars; (repeat (first | rw [if_pos (by omega)] | rw [if_neg (by omega)])); exact ⟨q_3.1, fr_4⟩))
  ·
    refine z_aload_n hx dX9_status_9 rfl 0 rfl ?_
    refine z_get hx dX9_status_10 fl_X9_26 m0 rfl ?_
    refine z_iload_n hx dX9_status_13 rfl 1 rfl ?_
    refine z_iald hx dX9_status_14 m6 (by omega) (by decide) ?_
    refine z_goto (tgt := 23) hx dX9_status_15 (by decide) ?_
    refine z_iret hx hr dX9_status_23 rfl rfl (q_j (by unfold statusA; subst_vars; (repeat (first | rw [if_pos (by omega)] | rw [if_neg (by omega)])); (try rfl)) (by unfold statusA; subst_vars; (repeat (first | rw [if_pos (by omega)] | rw [if_neg (by omega)])); exact ⟨⟨m0, m1, m2, m3, m4, m5, m6, m7, m8⟩, Fr.rf⟩))

set_option maxHeartbeats 4000000 in
set_option maxRecDepth 20000 in
theorem kX9_counted (g : Gt) {h : AH} {b : Nat} {S : Nat → Int → Int} {w : Int} (hM : RM h b S) (hI : inv (S 1)) (g_w : rgI w) : CnI g mX9_counted 3 [.ref b, .int (iI w)] h (cntV S w) := by
  refine Cn.mk (by decide +kernel) (Nat.le_of_ble_eq_true rfl) ?_
  intro x sz hx hr
  show Zj g x (sz, 0, 0) h 0 [(0, .ref b), (1, .int (iI w))] []
  obtain ⟨m0, m1, m2, m3, m4, m5, m6, m7, m8⟩ := hM
  have hn := hI.n
  refine z_iload_n hx dX9_counted_0 rfl 1 rfl ?_
  by_cases c_1 : w = 0
  ·
    refine z_tblIn (off := 47) (tgt := 48) hx dX9_counted_1 (by omega) 0 c_1 (by decide) rfl (by decide) ?_
    refine z_aload_n hx dX9_counted_48 rfl 0 rfl ?_
    refine z_get hx dX9_counted_49 fl_X9_7 m0 rfl ?_
    refine z_bipush hx dX9_counted_52 (by decide) ?_
    refine z_iald hx dX9_counted_54 m1 (by decide) (by decide) ?_
    have rg_2 := hI.rg (26) (by decide)
    refine z_iret hx hr dX9_counted_55 rfl rfl (q_i (by unfold cntV; (repeat (first | rw [if_pos (by omega)] | rw [if_neg (by omega)]))))
  by_cases c_3 : w = 1
  ·
    refine z_tblIn (off := 55) (tgt := 56) hx dX9_counted_1 (by omega) 1 c_3 (by decide) rfl (by decide) ?_
    refine z_aload_n hx dX9_counted_56 rfl 0 rfl ?_
    refine z_get hx dX9_counted_57 fl_X9_7 m0 rfl ?_
    refine z_bipush hx dX9_counted_60 (by decide) ?_
    refine z_iald hx dX9_counted_62 m1 (by decide) (by decide) ?_
    have rg_4 := hI.rg (37) (by decide)
    refine z_iret hx hr dX9_counted_63 rfl rfl (q_i (by unfold cntV; (repeat (first | rw [if_pos (by omega)] | rw [if_neg (by omega)]))))
  by_cases c_5 : w = 2
  ·
    refine z_tblIn (off := 63) (tgt := 64) hx dX9_counted_1 (by omega) 2 c_5 (by decide) rfl (by decide) ?_
    refine z_aload_n hx dX9_counted_64 rfl 0 rfl ?_
    refine z_get hx dX9_counted_65 fl_X9_7 m0 rfl ?_
    refine z_bipush hx dX9_counted_68 (by decide) ?_
    refine z_iald hx dX9_counted_70 m1 (by decide) (by decide) ?_
    have rg_6 := hI.rg (38) (by decide)
    refine z_iret hx hr dX9_counted_71 rfl rfl (q_i (by unfold cntV; (repeat (first | rw [if_pos (by omega)] | rw [if_neg (by omega)]))))
  by_cases c_7 : w = 3
  ·
    refine z_tblIn (off := 71) (tgt := 72) hx dX9_counted_1 (by omega) 3 c_7 (by decide) rfl (by decide) ?_
    refine z_aload_n hx dX9_counted_72 rfl 0 rfl ?_
    refine z_get hx dX9_counted_73 fl_X9_7 m0 rfl ?_
    refine z_iconst hx dX9_counted_76 ?_
    refine z_iald hx dX9_counted_77 m1 (by decide) (by decide) ?_
    refine z_iret hx hr dX9_counted_78 rfl rfl (q_i (by unfold cntV; (repeat (first | rw [if_pos (by omega)] | rw [if_neg (by omega)]))))
  by_cases c_8 : w = 4
  ·
    refine z_tblIn (off := 78) (tgt := 79) hx dX9_counted_1 (by omega) 4 c_8 (by decide) rfl (by decide) ?_
    refine z_aload_n hx dX9_counted_79 rfl 0 rfl ?_
    refine z_get hx dX9_counted_80 fl_X9_7 m0 rfl ?_
    refine z_cSI (as := [.ref (b + 1)]) (rest := []) hx dX9_counted_83 lk_X9_190 wt_X9_takenIn mo_X9_takenIn (kX9_takenIn g  m1 hI ) (by decide) rfl rfl (Nat.le_of_ble_eq_true rfl) ?_
    have f_9 := tkn_rg hI
    refine z_cSI (as := [.int (iI (tkn (S 1)))]) (rest := []) hx dX9_counted_86 lk_X9_155 wt_X9_bits mo_X9_bits (kX9_bits g (v := (tkn (S 1))) (by omega)) (by decide) rfl rfl (Nat.le_of_ble_eq_true rfl) ?_
    have f_10 := popc_rg (v := (tkn (S 1)))
    refine z_iret hx hr dX9_counted_89 rfl rfl (q_i (by unfold cntV; (repeat (first | rw [if_pos (by omega)] | rw [if_neg (by omega)]))))
  by_cases c_11 : w = 5
  ·
    refine z_tblIn (off := 89) (tgt := 90) hx dX9_counted_1 (by omega) 5 c_11 (by decide) rfl (by decide) ?_
    refine z_aload_n hx dX9_counted_90 rfl 0 rfl ?_
    refine z_get hx dX9_counted_91 fl_X9_7 m0 rfl ?_
    refine z_cSI (as := [.ref (b + 1)]) (rest := []) hx dX9_counted_94 lk_X9_218 wt_X9_underAll mo_X9_underAll (kX9_underAll g  m1 hI ) (by decide) rfl rfl (Nat.le_of_ble_eq_true rfl) ?_
    have f_12 := una_rg hI
    refine z_iret hx hr dX9_counted_97 rfl rfl (q_i (by unfold cntV; (repeat (first | rw [if_pos (by omega)] | rw [if_neg (by omega)]))))
  by_cases c_13 : w = 6
  ·
    refine z_tblIn (off := 97) (tgt := 98) hx dX9_counted_1 (by omega) 6 c_13 (by decide) rfl (by decide) ?_
    refine z_aload_n hx dX9_counted_98 rfl 0 rfl ?_
    refine z_get hx dX9_counted_99 fl_X9_7 m0 rfl ?_
    refine z_bipush hx dX9_counted_102 (by decide) ?_
    refine z_iald hx dX9_counted_104 m1 (by decide) (by decide) ?_
    have rg_14 := hI.rg (39) (by decide)
    refine z_iret hx hr dX9_counted_105 rfl rfl (q_i (by unfold cntV; (repeat (first | rw [if_pos (by omega)] | rw [if_neg (by omega)]))))
  by_cases c_15 : w = 7
  ·
    refine z_tblIn (off := 105) (tgt := 106) hx dX9_counted_1 (by omega) 7 c_15 (by decide) rfl (by decide) ?_
    refine z_aload_n hx dX9_counted_106 rfl 0 rfl ?_
    refine z_get hx dX9_counted_107 fl_X9_7 m0 rfl ?_
    refine z_bipush hx dX9_counted_110 (by decide) ?_
    refine z_iald hx dX9_counted_112 m1 (by decide) (by decide) ?_
    have rg_16 := hI.rg (58) (by decide)
    refine z_iret hx hr dX9_counted_113 rfl rfl (q_i (by unfold cntV; (repeat (first | rw [if_pos (by omega)] | rw [if_neg (by omega)]))))
  refine z_tblOut (tgt := 114) hx dX9_counted_1 (by omega) (by omega) (by decide) ?_
  refine z_aload_n hx dX9_counted_114 rfl 0 rfl ?_
  refine z_get hx dX9_counted_115 fl_X9_73 m0 rfl ?_
  refine z_iret hx hr dX9_counted_118 rfl rfl (q_i (by unfold cntV; (repeat (first | rw [if_pos (by omega)] | rw [if_neg (by omega)]))))

set_option maxHeartbeats 4000000 in
set_option maxRecDepth 20000 in
theorem kX9_count (g : Gt) {h : AH} {b : Nat} {S : Nat → Int → Int} {w : Int} (hM : RM h b S) (hV : invM S) (g_w : rgI w) : CnJ g mX9_count 4 [.ref b, .int (iI w)] h (countA S w).1 (QM h b (countA S w).2) := by
  refine Cn.mk (by decide +kernel) (Nat.le_of_ble_eq_true rfl) ?_
  intro x sz hx hr
  show Zj g x (sz, 0, 0) h 0 [(0, .ref b), (1, .int (iI w))] []
  obtain ⟨m0, m1, m2, m3, m4, m5, m6, m7, m8⟩ := hM
  have hN := hV.1
  have hI := hN.1
  have hn := hI.n
  refine z_iload_n hx dX9_count_0 rfl 1 rfl ?_
  refine z_iconst hx dX9_count_1 ?_
  refine z_bipush hx dX9_count_2 (by decide) ?_
  refine z_cSI (as := [.int (iI w), .int (iI 0), .int (iI 8)]) (rest := []) hx dX9_count_4 lk_X9_43 wt_X9_in mo_X9_in (kX9_in g (a := w) (b := 0) (c := 8) (by omega) (by omega) (by omega)) (by decide) rfl rfl (Nat.le_of_ble_eq_true rfl) ?_
  refine z_ifeq_b (tgt := 18) hx dX9_count_7 (by decide)  (fun c_1 => ?_) (fun c_1 => ?_)
  ·
    refine z_aload_n hx dX9_count_18 rfl 0 rfl ?_
    refine z_cVJ (as := []) (rest := []) hx dX9_count_19 lk_X9_55 wm_X9_bad wv_X9_bad (rcv_obj hx m0 rfl) mo_X9_bad (kX9_bad g  ⟨m0, m1, m2, m3, m4, m5, m6, m7, m8⟩) (by decide) rfl rfl (Nat.le_of_ble_eq_true rfl) (fun h_2 q_3 => ?_)
    have fr_4 : Fr h h_2 b 9 := q_3.2.wd (by omega) (by omega)
    refine z_iret hx hr dX9_count_22 rfl rfl (q_j (by unfold countA; subst_vars; (repeat (first | rw [if_pos (by omega)] | rw [if_neg (by omega)])); (try rfl)) (by unfold countA; subst_vars; (repeat (first | rw [if_pos (by omega)] | rw [if_neg (by omega)])); exact ⟨q_3.1, fr_4⟩))
  ·
    refine z_aload_n hx dX9_count_10 rfl 0 rfl ?_
    refine z_iload_n hx dX9_count_11 rfl 1 rfl ?_
    refine z_cVI (as := [.int (iI w)]) (rest := []) hx dX9_count_12 lk_X9_258 wm_X9_counted wv_X9_counted (rcv_obj hx m0 rfl) mo_X9_counted (kX9_counted g (S := S) (w := w) ⟨m0, m1, m2, m3, m4, m5, m6, m7, m8⟩ hI (by first | exact g_w | decide | omega)) (by decide) rfl rfl (Nat.le_of_ble_eq_true rfl) ?_
    refine z_goto (tgt := 22) hx dX9_count_15 (by decide) ?_
    refine z_iret hx hr dX9_count_22 rfl rfl (q_j (by unfold countA; subst_vars; (repeat (first | rw [if_pos (by omega)] | rw [if_neg (by omega)])); (try rfl)) (by unfold countA; subst_vars; (repeat (first | rw [if_pos (by omega)] | rw [if_neg (by omega)])); exact ⟨⟨m0, m1, m2, m3, m4, m5, m6, m7, m8⟩, Fr.rf⟩))

set_option maxHeartbeats 4000000 in
set_option maxRecDepth 20000 in
theorem kX9_part (g : Gt) {h : AH} {b : Nat} {S : Nat → Int → Int} {w : Int} (hM : RM h b S) (g_w : rgI w) : CnM g mX9_part 3 [.ref b, .int (iI w)] h (partA S w).1 (QM h b (partA S w).2) := by
  refine Cn.mk (by decide +kernel) (Nat.le_of_ble_eq_true rfl) ?_
  intro x sz hx hr
  show Zj g x (sz, 0, 0) h 0 [(0, .ref b), (1, .int (iI w))] []
  obtain ⟨m0, m1, m2, m3, m4, m5, m6, m7, m8⟩ := hM
  refine z_iload_n hx dX9_part_0 rfl 1 rfl ?_
  refine z_if_ne (tgt := 11) hx dX9_part_1 (by decide) (by omega) (fun c_1 => ?_) (fun c_1 => ?_)
  ·
    refine z_iload_n hx dX9_part_11 rfl 1 rfl ?_
    refine z_iconst hx dX9_part_12 ?_
    refine z_icmp_ne (tgt := 23) hx dX9_part_13 (by decide) (by omega) (by decide) (fun c_2 => ?_) (fun c_2 => ?_)
    ·
      refine z_aload_n hx dX9_part_23 rfl 0 rfl ?_
      refine z_cVJ (as := []) (rest := []) hx dX9_part_24 lk_X9_55 wm_X9_bad wv_X9_bad (rcv_obj hx m0 rfl) mo_X9_bad (kX9_bad g  ⟨m0, m1, m2, m3, m4, m5, m6, m7, m8⟩) (by decide) rfl rfl (Nat.le_of_ble_eq_true rfl) (fun h_3 q_4 => ?_)
      have fr_5 : Fr h h_3 b 9 := q_4.2.wd (by omega) (by omega)
      refine z_i2l hx dX9_part_27 (by decide) ?_
      refine z_lret hx hr dX9_part_28 rfl (q_m (by unfold partA; (repeat (first | rw [if_pos (by omega)] | rw [if_neg (by omega)]))) (by unfold partA; (repeat (first | rw [if_pos (by omega)] | rw [if_neg (by omega)])); exact ⟨q_4.1, fr_5⟩))
    ·
      refine z_aload_n hx dX9_part_16 rfl 0 rfl ?_
      refine z_get hx dX9_part_17 fl_X9_29 m0 rfl ?_
      refine z_goto (tgt := 28) hx dX9_part_20 (by decide) ?_
      refine z_lret hx hr dX9_part_28 rfl (q_m (by unfold partA; (repeat (first | rw [if_pos (by omega)] | rw [if_neg (by omega)]))) (by unfold partA; (repeat (first | rw [if_pos (by omega)] | rw [if_neg (by omega)])); exact ⟨⟨m0, m1, m2, m3, m4, m5, m6, m7, m8⟩, Fr.rf⟩))
  ·
    refine z_aload_n hx dX9_part_4 rfl 0 rfl ?_
    refine z_get hx dX9_part_5 fl_X9_244 m0 rfl ?_
    refine z_goto (tgt := 28) hx dX9_part_8 (by decide) ?_
    refine z_lret hx hr dX9_part_28 rfl (q_m (by unfold partA; (repeat (first | rw [if_pos (by omega)] | rw [if_neg (by omega)]))) (by unfold partA; (repeat (first | rw [if_pos (by omega)] | rw [if_neg (by omega)])); exact ⟨⟨m0, m1, m2, m3, m4, m5, m6, m7, m8⟩, Fr.rf⟩))

set_option maxHeartbeats 4000000 in
set_option maxRecDepth 20000 in
theorem kX9_gets (g : Gt) {h : AH} {b : Nat} {S : Nat → Int → Int} {p : Int} {i : Int} {o : Int} {j : Int} (hM : RM h b S) (hI : inv (S 1)) (hp : 0 ≤ p ∧ p < 6) (hi : 0 ≤ i ∧ i < 5) (ho : 0 ≤ o ∧ o < 6) (hj : 0 ≤ j ∧ j < 5) : CnI g mX9_gets 4 [.ref b, .int (iI p), .int (iI i), .int (iI o), .int (iI j)] h (gts (S 1) p i o j) := by
  refine Cn.mk (by decide +kernel) (Nat.le_of_ble_eq_true rfl) ?_
  intro x sz hx hr
  show Zj g x (sz, 0, 0) h 0 [(0, .ref b), (1, .int (iI p)), (2, .int (iI i)), (3, .int (iI o)), (4, .int (iI j))] []
  obtain ⟨m0, m1, m2, m3, m4, m5, m6, m7, m8⟩ := hM
  have hn := hI.n
  have hp1 := hI.p p (by omega)
  have hi1 := hI.k i (by omega)
  have hfr := far_rg hp1.1 hi1.1
  have hhl := hlf_rg hI (k := i) (by omega)
  have hpc := pcu_rg hI i
  refine z_bipush hx dX9_gets_0 (by decide) ?_
  refine z_aload_n hx dX9_gets_2 rfl 0 rfl ?_
  refine z_get hx dX9_gets_3 fl_X9_7 m0 rfl ?_
  refine z_bipush hx dX9_gets_6 (by decide) ?_
  refine z_iload_n hx dX9_gets_8 rfl 1 rfl ?_
  refine z_iadd hx dX9_gets_9 ?_
  refine z_iald hx dX9_gets_10 m1 (by omega) (by decide) ?_
  have rg_1 := hI.rg ((11 + p)) (by omega)
  refine z_aload_n hx dX9_gets_11 rfl 0 rfl ?_
  refine z_get hx dX9_gets_12 fl_X9_7 m0 rfl ?_
  refine z_iconst hx dX9_gets_15 ?_
  refine z_iload_n hx dX9_gets_16 rfl 2 rfl ?_
  refine z_iadd hx dX9_gets_17 ?_
  refine z_iald hx dX9_gets_18 m1 (by omega) (by decide) ?_
  have rg_2 := hI.rg ((1 + i)) (by omega)
  refine z_cSI (as := [.int (iI (S 1 (11 + p))), .int (iI (S 1 (1 + i)))]) (rest := [.int (iI 9)]) hx dX9_gets_19 lk_X9_158 wt_X9_far mo_X9_far (kX9_far g (a := (S 1 (11 + p))) (b := (S 1 (1 + i))) (by omega) (by omega)) (by decide) rfl rfl (Nat.le_of_ble_eq_true rfl) ?_
  refine z_isub hx dX9_gets_22 ?_
  refine z_istore hx dX9_gets_23 (by decide) [1, 2, 3, 4, 5, 0] (lv' := [(0, .ref b), (1, .int (iI p)), (2, .int (iI i)), (3, .int (iI o)), (4, .int (iI j)), (5, .int (iI (9 - (far (S 1 (11 + p)) (S 1 (1 + i))))))]) rfl ?_
  refine z_aload_n hx dX9_gets_25 rfl 0 rfl ?_
  refine z_get hx dX9_gets_26 fl_X9_7 m0 rfl ?_
  refine z_iload_n hx dX9_gets_29 rfl 2 rfl ?_
  refine z_cSI (as := [.ref (b + 1), .int (iI i)]) (rest := []) hx dX9_gets_30 lk_X9_149 wt_X9_holds mo_X9_holds (kX9_holds g (k := i) m1 hI (by omega)) (by decide) rfl rfl (Nat.le_of_ble_eq_true rfl) ?_
  have f_3 := hlf_rg hI (k := i) (by omega)
  refine z_aload_n hx dX9_gets_33 rfl 0 rfl ?_
  refine z_get hx dX9_gets_34 fl_X9_7 m0 rfl ?_
  refine z_iload_n hx dX9_gets_37 rfl 2 rfl ?_
  refine z_cSI (as := [.ref (b + 1), .int (iI i)]) (rest := [.int (iI (hlf (S 1) i))]) hx dX9_gets_38 lk_X9_152 wt_X9_underIn mo_X9_underIn (kX9_underIn g (k := i) m1 hI (by omega)) (by decide) rfl rfl (Nat.le_of_ble_eq_true rfl) ?_
  have f_4 := und_rg hI i
  refine z_cSI (as := [.int (iI (und (S 1) i))]) (rest := [.int (iI (hlf (S 1) i))]) hx dX9_gets_41 lk_X9_155 wt_X9_bits mo_X9_bits (kX9_bits g (v := (und (S 1) i)) (by have := und_rg hI i; omega)) (by decide) rfl rfl (Nat.le_of_ble_eq_true rfl) ?_
  have f_5 := popc_rg (v := (und (S 1) i))
  refine z_isub hx dX9_gets_44 ?_
  refine z_istore hx dX9_gets_45 (by decide) [1, 2, 3, 4, 5, 6, 0] (lv' := [(0, .ref b), (1, .int (iI p)), (2, .int (iI i)), (3, .int (iI o)), (4, .int (iI j)), (5, .int (iI (9 - (far (S 1 (11 + p)) (S 1 (1 + i)))))), (6, .int (iI ((hlf (S 1) i) - (popc (und (S 1) i)))))]) rfl ?_
  refine z_iload hx dX9_gets_47 6 rfl ?_
  refine z_if_le (tgt := 69) hx dX9_gets_49 (by decide) (by omega) (fun c_6 => ?_) (fun c_6 => ?_)
  ·
    refine z_iload hx dX9_gets_69 5 rfl ?_
    refine z_ineg hx dX9_gets_71 ?_
    refine z_goto (tgt := 77) hx dX9_gets_72 (by decide) ?_
    refine z_iret hx hr dX9_gets_77 rfl rfl (q_i (by unfold gts; (first | rw [if_pos (by omega)] | rw [if_neg (by omega)])))
  ·
    refine z_iload hx dX9_gets_52 6 rfl ?_
    refine z_iconst hx dX9_gets_54 ?_
    refine z_icmp_ne (tgt := 75) hx dX9_gets_55 (by decide) (by omega) (by decide) (fun c_7 => ?_) (fun c_7 => ?_)
    ·
      refine z_iload hx dX9_gets_75 5 rfl ?_
      refine z_iret hx hr dX9_gets_77 rfl rfl (q_i (by unfold gts; (first | rw [if_pos (by omega)] | rw [if_neg (by omega)])))
    ·
      refine z_iload_n hx dX9_gets_58 rfl 2 rfl ?_
      refine z_iload hx dX9_gets_59 4 rfl ?_
      refine z_icmp_ne (tgt := 75) hx dX9_gets_61 (by decide) (by omega) (by omega) (fun c_8 => ?_) (fun c_8 => ?_)
      ·
        refine z_iload hx dX9_gets_75 5 rfl ?_
        refine z_iret hx hr dX9_gets_77 rfl rfl (q_i (by unfold gts; (first | rw [if_pos (by omega)] | rw [if_neg (by omega)])))
      ·
        refine z_iload_n hx dX9_gets_64 rfl 1 rfl ?_
        refine z_iload_n hx dX9_gets_65 rfl 3 rfl ?_
        refine z_icmp_le (tgt := 75) hx dX9_gets_66 (by decide) (by omega) (by omega) (fun c_9 => ?_) (fun c_9 => ?_)
        ·
          refine z_iload hx dX9_gets_75 5 rfl ?_
          refine z_iret hx hr dX9_gets_77 rfl rfl (q_i (by unfold gts; (first | rw [if_pos (by omega)] | rw [if_neg (by omega)])))
        ·
          refine z_iload hx dX9_gets_69 5 rfl ?_
          refine z_ineg hx dX9_gets_71 ?_
          refine z_goto (tgt := 77) hx dX9_gets_72 (by decide) ?_
          refine z_iret hx hr dX9_gets_77 rfl rfl (q_i (by unfold gts; (first | rw [if_pos (by omega)] | rw [if_neg (by omega)])))

set_option maxHeartbeats 4000000 in
set_option maxRecDepth 20000 in
theorem kX9_rests (g : Gt) {h : AH} {b : Nat} {S : Nat → Int → Int} {a : Int} {i : Int} {c : Int} {j : Int} (hM : RM h b S) (hI : inv (S 1)) (ha : 0 ≤ a ∧ a < 6) (hi : 0 ≤ i ∧ i < 5) (hc : 0 ≤ c ∧ c < 6) (hj : 0 ≤ j ∧ j < 5) : CnI g mX9_rests 5 [.ref b, .int (iI a), .int (iI i), .int (iI c), .int (iI j)] h (rst (S 1) a i c j) := by
  refine Cn.mk (by decide +kernel) (Nat.le_of_ble_eq_true rfl) ?_
  intro x sz hx hr
  show Zj g x (sz, 0, 0) h 0 [(0, .ref b), (1, .int (iI a)), (2, .int (iI i)), (3, .int (iI c)), (4, .int (iI j))] []
  obtain ⟨m0, m1, m2, m3, m4, m5, m6, m7, m8⟩ := hM
  have hn := hI.n
  refine z_iconst hx dX9_rests_0 ?_
  refine z_istore hx dX9_rests_1 (by decide) [1, 2, 3, 4, 5, 0] (lv' := [(0, .ref b), (1, .int (iI a)), (2, .int (iI i)), (3, .int (iI c)), (4, .int (iI j)), (5, .int (iI 1))]) rfl ?_
  refine z_iconst hx dX9_rests_3 ?_
  refine z_istore hx dX9_rests_4 (by decide) [1, 2, 3, 4, 5, 6, 0] (lv' := [(0, .ref b), (1, .int (iI a)), (2, .int (iI i)), (3, .int (iI c)), (4, .int (iI j)), (5, .int (iI 1)), (6, .int (iI 0))]) rfl ?_
  have hL_1 : ∀ (mm : Nat) (v5 : Int) (v6 : Int), (0 ≤ v6 ∧ v6 ≤ S 1 26) → (v5 = itI v6 (rstG (S 1) a i c j) 1) → S 1 26 - v6 < (mm : Int) → Zj g x (sz, 0, 0) h 6 [(0, .ref b), (1, .int (iI a)), (2, .int (iI i)), (3, .int (iI c)), (4, .int (iI j)), (5, .int (iI v5)), (6, .int (iI v6))] [] := by
    intro mm
    induction mm with
    | zero => intro v5 v6 kv eg hm; exfalso; omega
    | succ mm ih =>
      intro v5 v6 kv eg hm
      have ih_2 := ih; clear ih
      have h01 := rst_01 (S 1) a i c j (n := v6) (by omega)
      refine z_iload hx dX9_rests_6 6 rfl ?_
      refine z_aload_n hx dX9_rests_8 rfl 0 rfl ?_
      refine z_get hx dX9_rests_9 fl_X9_7 m0 rfl ?_
      refine z_bipush hx dX9_rests_12 (by decide) ?_
      refine z_iald hx dX9_rests_14 m1 (by decide) (by decide) ?_
      have rg_3 := hI.rg (26) (by decide)
      refine z_icmp_ge (tgt := 79) hx dX9_rests_15 (by decide) (by omega) (by omega) (fun c_4 => ?_) (fun c_4 => ?_)
      ·
        refine z_iload hx dX9_rests_79 5 rfl ?_
        refine z_iret hx hr dX9_rests_81 rfl (nar_b (by have := rst_01 (S 1) a i c j (n := v6) (by omega); omega)) (q_i (by rw [eg, show v6 = S 1 26 by omega]; rfl))
      ·
        refine z_iload hx dX9_rests_18 5 rfl ?_
        refine z_if_eq (tgt := 70) hx dX9_rests_20 (by decide) (by omega) (fun c_5 => ?_) (fun c_5 => ?_)
        ·
          refine z_iconst hx dX9_rests_70 ?_
          refine z_istore hx dX9_rests_71 (by decide) [1, 2, 3, 4, 5, 0, 6] (lv' := [(0, .ref b), (1, .int (iI a)), (2, .int (iI i)), (3, .int (iI c)), (4, .int (iI j)), (5, .int (iI 0)), (6, .int (iI v6))]) rfl ?_
          refine z_iinc hx dX9_rests_73 (by decide) 6 rfl [1, 2, 3, 4, 5, 6, 0] (lv' := [(0, .ref b), (1, .int (iI a)), (2, .int (iI i)), (3, .int (iI c)), (4, .int (iI j)), (5, .int (iI 0)), (6, .int (iI (v6 + 1)))]) rfl ?_
          refine z_goto (tgt := 6) hx dX9_rests_76 (by decide) ?_
          exact ih_2 _ _ (by omega) (by rw [itI_s _ _ (by omega), ← eg]; unfold rstG; (first | rw [if_pos (by omega)] | rw [if_neg (by omega)]))  (by omega)
        ·
          refine z_aload_n hx dX9_rests_23 rfl 0 rfl ?_
          refine z_iload_n hx dX9_rests_24 rfl 1 rfl ?_
          refine z_iload hx dX9_rests_25 6 rfl ?_
          refine z_iload_n hx dX9_rests_27 rfl 3 rfl ?_
          refine z_iload hx dX9_rests_28 4 rfl ?_
          refine z_cVI (as := [.int (iI a), .int (iI v6), .int (iI c), .int (iI j)]) (rest := []) hx dX9_rests_30 lk_X9_234 wm_X9_gets wv_X9_gets (rcv_obj hx m0 rfl) mo_X9_gets (kX9_gets g (S := S) (p := a) (i := v6) (o := c) (j := j) ⟨m0, m1, m2, m3, m4, m5, m6, m7, m8⟩ hI (by omega) (by omega) (by omega) (by omega)) (by decide) rfl rfl (Nat.le_of_ble_eq_true rfl) ?_
          have f_6 := gts_rg hI (p := a) (i := v6) (o := c) (j := j) (by omega) (by omega)
          refine z_aload_n hx dX9_rests_33 rfl 0 rfl ?_
          refine z_iload_n hx dX9_rests_34 rfl 1 rfl ?_
          refine z_iload_n hx dX9_rests_35 rfl 2 rfl ?_
          refine z_iload_n hx dX9_rests_36 rfl 3 rfl ?_
          refine z_iload hx dX9_rests_37 4 rfl ?_
          refine z_cVI (as := [.int (iI a), .int (iI i), .int (iI c), .int (iI j)]) (rest := [.int (iI (gts (S 1) a v6 c j))]) hx dX9_rests_39 lk_X9_234 wm_X9_gets wv_X9_gets (rcv_obj hx m0 rfl) mo_X9_gets (kX9_gets g (S := S) (p := a) (i := i) (o := c) (j := j) ⟨m0, m1, m2, m3, m4, m5, m6, m7, m8⟩ hI (by omega) (by omega) (by omega) (by omega)) (by decide) rfl rfl (Nat.le_of_ble_eq_true rfl) ?_
          have f_7 := gts_rg hI (p := a) (i := i) (o := c) (j := j) (by omega) (by omega)
          refine z_icmp_gt (tgt := 70) hx dX9_rests_42 (by decide) (by omega) (by omega) (fun c_8 => ?_) (fun c_8 => ?_)
          ·
            refine z_iconst hx dX9_rests_70 ?_
            refine z_istore hx dX9_rests_71 (by decide) [1, 2, 3, 4, 5, 0, 6] (lv' := [(0, .ref b), (1, .int (iI a)), (2, .int (iI i)), (3, .int (iI c)), (4, .int (iI j)), (5, .int (iI 0)), (6, .int (iI v6))]) rfl ?_
            refine z_iinc hx dX9_rests_73 (by decide) 6 rfl [1, 2, 3, 4, 5, 6, 0] (lv' := [(0, .ref b), (1, .int (iI a)), (2, .int (iI i)), (3, .int (iI c)), (4, .int (iI j)), (5, .int (iI 0)), (6, .int (iI (v6 + 1)))]) rfl ?_
            refine z_goto (tgt := 6) hx dX9_rests_76 (by decide) ?_
            exact ih_2 _ _ (by omega) (by rw [itI_s _ _ (by omega), ← eg]; unfold rstG; (first | rw [if_pos (by omega)] | rw [if_neg (by omega)]))  (by omega)
          ·
            refine z_aload_n hx dX9_rests_45 rfl 0 rfl ?_
            refine z_iload_n hx dX9_rests_46 rfl 3 rfl ?_
            refine z_iload hx dX9_rests_47 6 rfl ?_
            refine z_iload_n hx dX9_rests_49 rfl 1 rfl ?_
            refine z_iload_n hx dX9_rests_50 rfl 2 rfl ?_
            refine z_cVI (as := [.int (iI c), .int (iI v6), .int (iI a), .int (iI i)]) (rest := []) hx dX9_rests_51 lk_X9_234 wm_X9_gets wv_X9_gets (rcv_obj hx m0 rfl) mo_X9_gets (kX9_gets g (S := S) (p := c) (i := v6) (o := a) (j := i) ⟨m0, m1, m2, m3, m4, m5, m6, m7, m8⟩ hI (by omega) (by omega) (by omega) (by omega)) (by decide) rfl rfl (Nat.le_of_ble_eq_true rfl) ?_
            have f_9 := gts_rg hI (p := c) (i := v6) (o := a) (j := i) (by omega) (by omega)
            refine z_aload_n hx dX9_rests_54 rfl 0 rfl ?_
            refine z_iload_n hx dX9_rests_55 rfl 3 rfl ?_
            refine z_iload hx dX9_rests_56 4 rfl ?_
            refine z_iload_n hx dX9_rests_58 rfl 1 rfl ?_
            refine z_iload_n hx dX9_rests_59 rfl 2 rfl ?_
            refine z_cVI (as := [.int (iI c), .int (iI j), .int (iI a), .int (iI i)]) (rest := [.int (iI (gts (S 1) c v6 a i))]) hx dX9_rests_60 lk_X9_234 wm_X9_gets wv_X9_gets (rcv_obj hx m0 rfl) mo_X9_gets (kX9_gets g (S := S) (p := c) (i := j) (o := a) (j := i) ⟨m0, m1, m2, m3, m4, m5, m6, m7, m8⟩ hI (by omega) (by omega) (by omega) (by omega)) (by decide) rfl rfl (Nat.le_of_ble_eq_true rfl) ?_
            have f_10 := gts_rg hI (p := c) (i := j) (o := a) (j := i) (by omega) (by omega)
            refine z_icmp_gt (tgt := 70) hx dX9_rests_63 (by decide) (by omega) (by omega) (fun c_11 => ?_) (fun c_11 => ?_)
            ·
              refine z_iconst hx dX9_rests_70 ?_
              refine z_istore hx dX9_rests_71 (by decide) [1, 2, 3, 4, 5, 0, 6] (lv' := [(0, .ref b), (1, .int (iI a)), (2, .int (iI i)), (3, .int (iI c)), (4, .int (iI j)), (5, .int (iI 0)), (6, .int (iI v6))]) rfl ?_
              refine z_iinc hx dX9_rests_73 (by decide) 6 rfl [1, 2, 3, 4, 5, 6, 0] (lv' := [(0, .ref b), (1, .int (iI a)), (2, .int (iI i)), (3, .int (iI c)), (4, .int (iI j)), (5, .int (iI 0)), (6, .int (iI (v6 + 1)))]) rfl ?_
              refine z_goto (tgt := 6) hx dX9_rests_76 (by decide) ?_
              exact ih_2 _ _ (by omega) (by rw [itI_s _ _ (by omega), ← eg]; unfold rstG; (first | rw [if_pos (by omega)] | rw [if_neg (by omega)]))  (by omega)
            ·
              refine z_iconst hx dX9_rests_66 ?_
              refine z_goto (tgt := 71) hx dX9_rests_67 (by decide) ?_
              refine z_istore hx dX9_rests_71 (by decide) [1, 2, 3, 4, 5, 0, 6] (lv' := [(0, .ref b), (1, .int (iI a)), (2, .int (iI i)), (3, .int (iI c)), (4, .int (iI j)), (5, .int (iI 1)), (6, .int (iI v6))]) rfl ?_
              refine z_iinc hx dX9_rests_73 (by decide) 6 rfl [1, 2, 3, 4, 5, 6, 0] (lv' := [(0, .ref b), (1, .int (iI a)), (2, .int (iI i)), (3, .int (iI c)), (4, .int (iI j)), (5, .int (iI 1)), (6, .int (iI (v6 + 1)))]) rfl ?_
              refine z_goto (tgt := 6) hx dX9_rests_76 (by decide) ?_
              exact ih_2 _ _ (by omega) (by rw [itI_s _ _ (by omega), ← eg]; unfold rstG; (first | rw [if_pos (by omega)] | rw [if_neg (by omega)]))  (by omega)
  exact hL_1 ((S 1 26 - 0) + 1).toNat _ _ (by omega) (by rw [itI_0 _ _ rfl])  (by omega)

set_option maxHeartbeats 4000000 in
set_option maxRecDepth 20000 in
theorem kX9_kindsOf (g : Gt) {h : AH} {b : Nat} {S : Nat → Int → Int} {k : Int} (hM : RM h b S) (hI : inv (S 1)) (hk : 0 ≤ k ∧ k < 5) (h39 : 0 ≤ S 1 39 ∧ S 1 39 ≤ 6) (hno : ∀ i, 0 ≤ i → i < S 1 39 → S 1 (40 + 3 * i) < 5 ∧ S 1 (41 + 3 * i) ≤ 40 ∧ S 1 (42 + 3 * i) ≤ 9) : CnI g mX9_kindsOf 2 [.ref b, .int (iI k)] h (kof (S 1) k) := by
  refine Cn.mk (by decide +kernel) (Nat.le_of_ble_eq_true rfl) ?_
  intro x sz hx hr
  show Zj g x (sz, 0, 0) h 0 [(0, .ref b), (1, .int (iI k))] []
  obtain ⟨m0, m1, m2, m3, m4, m5, m6, m7, m8⟩ := hM
  have hn := hI.n
  have hk1 := hI.k k (by omega)
  refine z_iconst hx dX9_kindsOf_0 ?_
  refine z_istore_n hx dX9_kindsOf_1 rfl (by decide) [1, 2, 0] (lv' := [(0, .ref b), (1, .int (iI k)), (2, .int (iI 0))]) rfl ?_
  refine z_iconst hx dX9_kindsOf_2 ?_
  refine z_istore_n hx dX9_kindsOf_3 rfl (by decide) [1, 2, 3, 0] (lv' := [(0, .ref b), (1, .int (iI k)), (2, .int (iI 0)), (3, .int (iI 0))]) rfl ?_
  have hL_1 : ∀ (mm : Nat) (v2 : Int) (v3 : Int), (0 ≤ v3 ∧ v3 ≤ 6) → (v2 = msk (fun kd => fitI (S 1) k kd (S 1 39) = 1) v3) → (6 : Int) - v3 < (mm : Int) → Zj g x (sz, 0, 0) h 4 [(0, .ref b), (1, .int (iI k)), (2, .int (iI v2)), (3, .int (iI v3))] [] := by
    intro mm
    induction mm with
    | zero => intro v2 v3 kv eo hm; exfalso; omega
    | succ mm ih =>
      intro v2 v3 kv eo hm
      have ih_2 := ih; clear ih
      have hm := msk_rg (fun kd => fitI (S 1) k kd (S 1 39) = 1) (n := v3) (by omega)
      have hm2 := msk_64 (fun kd => fitI (S 1) k kd (S 1 39) = 1) (n := v3) (by omega)
      refine z_iload_n hx dX9_kindsOf_4 rfl 3 rfl ?_
      refine z_bipush hx dX9_kindsOf_5 (by decide) ?_
      refine z_icmp_ge (tgt := 121) hx dX9_kindsOf_7 (by decide) (by omega) (by decide) (fun c_3 => ?_) (fun c_3 => ?_)
      ·
        refine z_iload_n hx dX9_kindsOf_121 rfl 2 rfl ?_
        refine z_iret hx hr dX9_kindsOf_122 rfl rfl (q_i (by rw [eo, show v3 = 6 by omega]; rfl))
      ·
        refine z_iconst hx dX9_kindsOf_10 ?_
        refine z_istore hx dX9_kindsOf_11 (by decide) [1, 2, 3, 4, 0] (lv' := [(0, .ref b), (1, .int (iI k)), (2, .int (iI v2)), (3, .int (iI v3)), (4, .int (iI 1))]) rfl ?_
        refine z_iconst hx dX9_kindsOf_13 ?_
        refine z_istore hx dX9_kindsOf_14 (by decide) [1, 2, 3, 4, 5, 0] (lv' := [(0, .ref b), (1, .int (iI k)), (2, .int (iI v2)), (3, .int (iI v3)), (4, .int (iI 1)), (5, .int (iI 0))]) rfl ?_
        have hL_4 : ∀ (mm : Nat) (v4 : Int) (v5 : Int), (0 ≤ v5 ∧ v5 ≤ S 1 39) → (v4 = fitI (S 1) k v3 v5) → S 1 39 - v5 < (mm : Int) → Zj g x (sz, 0, 0) h 16 [(0, .ref b), (1, .int (iI k)), (2, .int (iI v2)), (3, .int (iI v3)), (4, .int (iI v4)), (5, .int (iI v5))] [] := by
          intro mm
          induction mm with
          | zero => intro v4 v5 kw ei hm; exfalso; omega
          | succ mm ih =>
            intro v4 v5 kw ei hm
            have ih_5 := ih; clear ih
            have h01 := fitI_01 (S 1) k v3 (n := v5) (by omega)
            rw [← ei] at h01
            refine z_iload hx dX9_kindsOf_16 5 rfl ?_
            refine z_aload_n hx dX9_kindsOf_18 rfl 0 rfl ?_
            refine z_get hx dX9_kindsOf_19 fl_X9_7 m0 rfl ?_
            refine z_bipush hx dX9_kindsOf_22 (by decide) ?_
            refine z_iald hx dX9_kindsOf_24 m1 (by decide) (by decide) ?_
            have rg_6 := hI.rg (39) (by decide)
            refine z_icmp_ge (tgt := 100) hx dX9_kindsOf_25 (by decide) (by omega) (by omega) (fun c_7 => ?_) (fun c_7 => ?_)
            ·
              have ev : v5 = S 1 39 := by omega
              rw [ev] at ei
              refine z_iload_n hx dX9_kindsOf_100 rfl 2 rfl ?_
              refine z_iload hx dX9_kindsOf_101 4 rfl ?_
              refine z_if_eq (tgt := 112) hx dX9_kindsOf_103 (by decide) (by omega) (fun c_8 => ?_) (fun c_8 => ?_)
              ·
                refine z_iconst hx dX9_kindsOf_112 ?_
                refine z_ior hx dX9_kindsOf_113 ?_
                rw [show orI v2 0 = v2 from by exact orI_0 (by omega)]
                refine z_istore_n hx dX9_kindsOf_114 rfl (by decide) [1, 2, 0, 3, 4, 5] (lv' := [(0, .ref b), (1, .int (iI k)), (2, .int (iI v2)), (3, .int (iI v3)), (4, .int (iI v4)), (5, .int (iI v5))]) rfl ?_
                refine z_iinc hx dX9_kindsOf_115 (by decide) 3 rfl [1, 2, 3, 0, 4, 5] (lv' := [(0, .ref b), (1, .int (iI k)), (2, .int (iI v2)), (3, .int (iI (v3 + 1))), (4, .int (iI v4)), (5, .int (iI v5))]) rfl ?_
                refine z_goto (tgt := 4) hx dX9_kindsOf_118 (by decide) ?_
                refine z_sub [0, 1, 2, 3] (lv' := [(0, .ref b), (1, .int (iI k)), (2, .int (iI v2)), (3, .int (iI (v3 + 1)))]) rfl ?_
                exact ih_2 _ _ (by omega) (by rw [msk_s _ (by omega), eo]; (first | rw [if_pos (by omega)] | rw [if_neg (by omega)]); (try rw [← eo]); (try rfl))  (by omega)
              ·
                have hpw := pw_rg (p := v3) (by omega)
                refine z_iconst hx dX9_kindsOf_106 ?_
                refine z_iload_n hx dX9_kindsOf_107 rfl 3 rfl ?_
                refine z_ishl hx dX9_kindsOf_108 ?_
                rw [show shlI 1 v3 = (pw v3) from by exact shlI_' (by omega)]
                refine z_goto (tgt := 113) hx dX9_kindsOf_109 (by decide) ?_
                refine z_ior hx dX9_kindsOf_113 ?_
                rw [show orI v2 (pw v3) = (v2 + (pw v3)) from by exact orI_pw (by omega) (by omega)]
                refine z_istore_n hx dX9_kindsOf_114 rfl (by decide) [1, 2, 0, 3, 4, 5] (lv' := [(0, .ref b), (1, .int (iI k)), (2, .int (iI (v2 + (pw v3)))), (3, .int (iI v3)), (4, .int (iI v4)), (5, .int (iI v5))]) rfl ?_
                refine z_iinc hx dX9_kindsOf_115 (by decide) 3 rfl [1, 2, 3, 0, 4, 5] (lv' := [(0, .ref b), (1, .int (iI k)), (2, .int (iI (v2 + (pw v3)))), (3, .int (iI (v3 + 1))), (4, .int (iI v4)), (5, .int (iI v5))]) rfl ?_
                refine z_goto (tgt := 4) hx dX9_kindsOf_118 (by decide) ?_
                refine z_sub [0, 1, 2, 3] (lv' := [(0, .ref b), (1, .int (iI k)), (2, .int (iI (v2 + (pw v3)))), (3, .int (iI (v3 + 1)))]) rfl ?_
                exact ih_2 _ _ (by omega) (by rw [msk_s _ (by omega), eo]; (first | rw [if_pos (by omega)] | rw [if_neg (by omega)]); (try rw [← eo]); (try rfl))  (by omega)
            ·
              refine z_bipush hx dX9_kindsOf_28 (by decide) ?_
              refine z_iconst hx dX9_kindsOf_30 ?_
              refine z_iload hx dX9_kindsOf_31 5 rfl ?_
              refine z_imul hx dX9_kindsOf_33 ?_
              refine z_iadd hx dX9_kindsOf_34 ?_
              refine z_istore hx dX9_kindsOf_35 (by decide) [1, 2, 3, 4, 5, 6, 0] (lv' := [(0, .ref b), (1, .int (iI k)), (2, .int (iI v2)), (3, .int (iI v3)), (4, .int (iI v4)), (5, .int (iI v5)), (6, .int (iI (40 + (3 * v5))))]) rfl ?_
              have hnv := hno v5 (by omega) (by omega)
              rw [show 41 + 3 * v5 = 40 + 3 * v5 + 1 by omega, show 42 + 3 * v5 = 40 + 3 * v5 + 2 by omega] at hnv
              refine z_iload hx dX9_kindsOf_37 4 rfl ?_
              refine z_if_eq (tgt := 91) hx dX9_kindsOf_39 (by decide) (by omega) (fun c_9 => ?_) (fun c_9 => ?_)
              ·
                refine z_iconst hx dX9_kindsOf_91 ?_
                refine z_istore hx dX9_kindsOf_92 (by decide) [1, 2, 3, 4, 0, 5, 6] (lv' := [(0, .ref b), (1, .int (iI k)), (2, .int (iI v2)), (3, .int (iI v3)), (4, .int (iI 0)), (5, .int (iI v5)), (6, .int (iI (40 + (3 * v5))))]) rfl ?_
                refine z_iinc hx dX9_kindsOf_94 (by decide) 5 rfl [1, 2, 3, 4, 5, 0, 6] (lv' := [(0, .ref b), (1, .int (iI k)), (2, .int (iI v2)), (3, .int (iI v3)), (4, .int (iI 0)), (5, .int (iI (v5 + 1))), (6, .int (iI (40 + (3 * v5))))]) rfl ?_
                refine z_goto (tgt := 16) hx dX9_kindsOf_97 (by decide) ?_
                refine z_sub [0, 1, 2, 3, 4, 5] (lv' := [(0, .ref b), (1, .int (iI k)), (2, .int (iI v2)), (3, .int (iI v3)), (4, .int (iI 0)), (5, .int (iI (v5 + 1)))]) rfl ?_
                exact ih_5 _ _ (by omega) (by rw [fitI_s _ _ _ (by omega), ← ei]; (first | rw [if_pos (by omega)] | rw [if_neg (by omega)]))  (by omega)
              ·
                refine z_aload_n hx dX9_kindsOf_42 rfl 0 rfl ?_
                refine z_get hx dX9_kindsOf_43 fl_X9_7 m0 rfl ?_
                refine z_iload hx dX9_kindsOf_46 6 rfl ?_
                refine z_iald hx dX9_kindsOf_48 m1 (by omega) (by decide) ?_
                have rg_10 := hI.rg ((40 + (3 * v5))) (by omega)
                refine z_iload_n hx dX9_kindsOf_49 rfl 1 rfl ?_
                refine z_icmp_ne (tgt := 87) hx dX9_kindsOf_50 (by decide) (by omega) (by omega) (fun c_11 => ?_) (fun c_11 => ?_)
                ·
                  refine z_iconst hx dX9_kindsOf_87 ?_
                  refine z_goto (tgt := 92) hx dX9_kindsOf_88 (by decide) ?_
                  refine z_istore hx dX9_kindsOf_92 (by decide) [1, 2, 3, 4, 0, 5, 6] (lv' := [(0, .ref b), (1, .int (iI k)), (2, .int (iI v2)), (3, .int (iI v3)), (4, .int (iI 1)), (5, .int (iI v5)), (6, .int (iI (40 + (3 * v5))))]) rfl ?_
                  refine z_iinc hx dX9_kindsOf_94 (by decide) 5 rfl [1, 2, 3, 4, 5, 0, 6] (lv' := [(0, .ref b), (1, .int (iI k)), (2, .int (iI v2)), (3, .int (iI v3)), (4, .int (iI 1)), (5, .int (iI (v5 + 1))), (6, .int (iI (40 + (3 * v5))))]) rfl ?_
                  refine z_goto (tgt := 16) hx dX9_kindsOf_97 (by decide) ?_
                  refine z_sub [0, 1, 2, 3, 4, 5] (lv' := [(0, .ref b), (1, .int (iI k)), (2, .int (iI v2)), (3, .int (iI v3)), (4, .int (iI 1)), (5, .int (iI (v5 + 1)))]) rfl ?_
                  exact ih_5 _ _ (by omega) (by rw [fitI_s _ _ _ (by omega), ← ei]; (first | rw [if_pos (by omega)] | rw [if_neg (by omega)]))  (by omega)
                ·
                  refine z_iload_n hx dX9_kindsOf_53 rfl 3 rfl ?_
                  refine z_aload_n hx dX9_kindsOf_54 rfl 0 rfl ?_
                  refine z_get hx dX9_kindsOf_55 fl_X9_7 m0 rfl ?_
                  refine z_bipush hx dX9_kindsOf_58 (by decide) ?_
                  refine z_iload_n hx dX9_kindsOf_60 rfl 1 rfl ?_
                  refine z_iadd hx dX9_kindsOf_61 ?_
                  refine z_iald hx dX9_kindsOf_62 m1 (by omega) (by decide) ?_
                  have rg_12 := hI.rg ((32 + k)) (by omega)
                  refine z_aload_n hx dX9_kindsOf_63 rfl 0 rfl ?_
                  refine z_get hx dX9_kindsOf_64 fl_X9_7 m0 rfl ?_
                  refine z_iload hx dX9_kindsOf_67 6 rfl ?_
                  refine z_iconst hx dX9_kindsOf_69 ?_
                  refine z_iadd hx dX9_kindsOf_70 ?_
                  refine z_iald hx dX9_kindsOf_71 m1 (by omega) (by decide) ?_
                  have rg_13 := hI.rg (((40 + (3 * v5)) + 1)) (by omega)
                  refine z_cSI (as := [.int (iI v3), .int (iI (S 1 (32 + k))), .int (iI (S 1 ((40 + (3 * v5)) + 1)))]) (rest := []) hx dX9_kindsOf_72 lk_X9_142 wt_X9_holdsBy mo_X9_holdsBy (kX9_holdsBy g (k := v3) (s := (S 1 (32 + k))) (w := (S 1 ((40 + (3 * v5)) + 1))) (by omega) (by omega) (by omega)) (by decide) rfl rfl (Nat.le_of_ble_eq_true rfl) ?_
                  refine z_aload_n hx dX9_kindsOf_75 rfl 0 rfl ?_
                  refine z_get hx dX9_kindsOf_76 fl_X9_7 m0 rfl ?_
                  refine z_iload hx dX9_kindsOf_79 6 rfl ?_
                  refine z_iconst hx dX9_kindsOf_81 ?_
                  refine z_iadd hx dX9_kindsOf_82 ?_
                  refine z_iald hx dX9_kindsOf_83 m1 (by omega) (by decide) ?_
                  have rg_14 := hI.rg (((40 + (3 * v5)) + 2)) (by omega)
                  have hhv := hol_rg (k := v3) (s := S 1 (32 + k)) (w := S 1 (40 + 3 * v5 + 1)) (by omega) (by omega) (by omega)
                  refine z_icmp_ne (tgt := 91) hx dX9_kindsOf_84 (by decide) (by omega) (by omega) (fun c_15 => ?_) (fun c_15 => ?_)
                  ·
                    refine z_iconst hx dX9_kindsOf_91 ?_
                    refine z_istore hx dX9_kindsOf_92 (by decide) [1, 2, 3, 4, 0, 5, 6] (lv' := [(0, .ref b), (1, .int (iI k)), (2, .int (iI v2)), (3, .int (iI v3)), (4, .int (iI 0)), (5, .int (iI v5)), (6, .int (iI (40 + (3 * v5))))]) rfl ?_
                    refine z_iinc hx dX9_kindsOf_94 (by decide) 5 rfl [1, 2, 3, 4, 5, 0, 6] (lv' := [(0, .ref b), (1, .int (iI k)), (2, .int (iI v2)), (3, .int (iI v3)), (4, .int (iI 0)), (5, .int (iI (v5 + 1))), (6, .int (iI (40 + (3 * v5))))]) rfl ?_
                    refine z_goto (tgt := 16) hx dX9_kindsOf_97 (by decide) ?_
                    refine z_sub [0, 1, 2, 3, 4, 5] (lv' := [(0, .ref b), (1, .int (iI k)), (2, .int (iI v2)), (3, .int (iI v3)), (4, .int (iI 0)), (5, .int (iI (v5 + 1)))]) rfl ?_
                    exact ih_5 _ _ (by omega) (by rw [fitI_s _ _ _ (by omega), ← ei]; (first | rw [if_pos (by omega)] | rw [if_neg (by omega)]))  (by omega)
                  ·
                    refine z_iconst hx dX9_kindsOf_87 ?_
                    refine z_goto (tgt := 92) hx dX9_kindsOf_88 (by decide) ?_
                    refine z_istore hx dX9_kindsOf_92 (by decide) [1, 2, 3, 4, 0, 5, 6] (lv' := [(0, .ref b), (1, .int (iI k)), (2, .int (iI v2)), (3, .int (iI v3)), (4, .int (iI 1)), (5, .int (iI v5)), (6, .int (iI (40 + (3 * v5))))]) rfl ?_
                    refine z_iinc hx dX9_kindsOf_94 (by decide) 5 rfl [1, 2, 3, 4, 5, 0, 6] (lv' := [(0, .ref b), (1, .int (iI k)), (2, .int (iI v2)), (3, .int (iI v3)), (4, .int (iI 1)), (5, .int (iI (v5 + 1))), (6, .int (iI (40 + (3 * v5))))]) rfl ?_
                    refine z_goto (tgt := 16) hx dX9_kindsOf_97 (by decide) ?_
                    refine z_sub [0, 1, 2, 3, 4, 5] (lv' := [(0, .ref b), (1, .int (iI k)), (2, .int (iI v2)), (3, .int (iI v3)), (4, .int (iI 1)), (5, .int (iI (v5 + 1)))]) rfl ?_
                    exact ih_5 _ _ (by omega) (by rw [fitI_s _ _ _ (by omega), ← ei]; (first | rw [if_pos (by omega)] | rw [if_neg (by omega)]))  (by omega)
        exact hL_4 ((S 1 39 - 0) + 1).toNat _ _ (by omega) (by rfl)  (by omega)
  exact hL_1 (((6 : Int) - 0) + 1).toNat _ _ (by omega) (by rfl)  (by omega)

set_option maxHeartbeats 4000000 in
set_option maxRecDepth 20000 in
theorem kX9_is (g : Gt) {h : AH} {b : Nat} {S : Nat → Int → Int} {k : Int} (hM : RM h b S) (hV : invM S) (g_k : rgI k) : CnJ g mX9_is 3 [.ref b, .int (iI k)] h (isA S k).1 (QM h b (isA S k).2) := by
  refine Cn.mk (by decide +kernel) (Nat.le_of_ble_eq_true rfl) ?_
  intro x sz hx hr
  show Zj g x (sz, 0, 0) h 0 [(0, .ref b), (1, .int (iI k))] []
  obtain ⟨m0, m1, m2, m3, m4, m5, m6, m7, m8⟩ := hM
  have hN := hV.1
  have hI := hN.1
  have hn := hI.n
  have h58 : 0 ≤ S 1 58 ∧ S 1 58 ≤ 8 := ⟨(hI.rg 58 (by decide)).1, hN.2.2.2.1⟩
  have h39 : 0 ≤ S 1 39 ∧ S 1 39 ≤ 6 := ⟨(hI.rg 39 (by decide)).1, hN.2.2.1⟩
  have h0 : 0 ≤ S 1 0 ∧ S 1 0 ≤ 999 := ⟨hN.2.1.2, hN.2.1.1⟩
  refine z_aload_n hx dX9_is_0 rfl 0 rfl ?_
  refine z_iload_n hx dX9_is_1 rfl 1 rfl ?_
  refine z_cVI (as := [.int (iI k)]) (rest := []) hx dX9_is_2 lk_X9_194 wm_X9_isCosy wv_X9_isCosy (rcv_obj hx m0 rfl) mo_X9_isCosy (kX9_isCosy g (S := S) ⟨m0, m1, m2, m3, m4, m5, m6, m7, m8⟩ hI (by first | exact g_k | omega)) (by decide) rfl rfl (Nat.le_of_ble_eq_true rfl) ?_
  refine z_ifeq_b (tgt := 16) hx dX9_is_5 (by decide)  (fun c_1 => ?_) (fun c_1 => ?_)
  ·
    refine z_aload_n hx dX9_is_16 rfl 0 rfl ?_
    refine z_cVJ (as := []) (rest := []) hx dX9_is_17 lk_X9_55 wm_X9_bad wv_X9_bad (rcv_obj hx m0 rfl) mo_X9_bad (kX9_bad g  ⟨m0, m1, m2, m3, m4, m5, m6, m7, m8⟩) (by decide) rfl rfl (Nat.le_of_ble_eq_true rfl) (fun h_2 q_3 => ?_)
    have fr_4 : Fr h h_2 b 9 := q_3.2.wd (by omega) (by omega)
    refine z_iret hx hr dX9_is_20 rfl rfl (q_j (by unfold isA; subst_vars; (repeat (first | rw [if_pos (by omega)] | rw [if_neg (by omega)])); (try rfl)) (by unfold isA; subst_vars; (repeat (first | rw [if_pos (by omega)] | rw [if_neg (by omega)])); exact ⟨q_3.1, fr_4⟩))
  ·
    refine z_aload_n hx dX9_is_8 rfl 0 rfl ?_
    refine z_iload_n hx dX9_is_9 rfl 1 rfl ?_
    refine z_cVI (as := [.int (iI k)]) (rest := []) hx dX9_is_10 lk_X9_231 wm_X9_kindsOf wv_X9_kindsOf (rcv_obj hx m0 rfl) mo_X9_kindsOf (kX9_kindsOf g (S := S) (k := k) ⟨m0, m1, m2, m3, m4, m5, m6, m7, m8⟩ hI (by omega) (by exact h39) (by exact hN.2.2.2.2.2)) (by decide) rfl rfl (Nat.le_of_ble_eq_true rfl) ?_
    have f_5 := kof_rg (S 1) k
    refine z_goto (tgt := 20) hx dX9_is_13 (by decide) ?_
    refine z_iret hx hr dX9_is_20 rfl rfl (q_j (by unfold isA; subst_vars; (repeat (first | rw [if_pos (by omega)] | rw [if_neg (by omega)])); (try rfl)) (by unfold isA; subst_vars; (repeat (first | rw [if_pos (by omega)] | rw [if_neg (by omega)])); exact ⟨⟨m0, m1, m2, m3, m4, m5, m6, m7, m8⟩, Fr.rf⟩))

set_option maxHeartbeats 4000000 in
set_option maxRecDepth 20000 in
theorem kX9_two (g : Gt) {h : AH} {b : Nat} {S : Nat → Int → Int} {a : Int} {c : Int} {k : Int} (hM : RM h b S) (hV : invM S) (g_a : rgI a) (g_c : rgI c) (g_k : rgI k) : CnJ g mX9_two 6 [.ref b, .int (iI a), .int (iI c), .int (iI k)] h (twoA S a c k).1 (QM h b (twoA S a c k).2) := by
  refine Cn.mk (by decide +kernel) (Nat.le_of_ble_eq_true rfl) ?_
  intro x sz hx hr
  show Zj g x (sz, 0, 0) h 0 [(0, .ref b), (1, .int (iI a)), (2, .int (iI c)), (3, .int (iI k))] []
  obtain ⟨m0, m1, m2, m3, m4, m5, m6, m7, m8⟩ := hM
  have hN := hV.1
  have hI := hN.1
  have hn := hI.n
  refine z_aload_n hx dX9_two_0 rfl 0 rfl ?_
  refine z_iload_n hx dX9_two_1 rfl 1 rfl ?_
  refine z_cVI (as := [.int (iI a)]) (rest := []) hx dX9_two_2 lk_X9_204 wm_X9_isHunted wv_X9_isHunted (rcv_obj hx m0 rfl) mo_X9_isHunted (kX9_isHunted g (S := S) ⟨m0, m1, m2, m3, m4, m5, m6, m7, m8⟩ hI (by first | exact g_a | omega)) (by decide) rfl rfl (Nat.le_of_ble_eq_true rfl) ?_
  refine z_ifeq_b (tgt := 26) hx dX9_two_5 (by decide)  (fun c_1 => ?_) (fun c_1 => ?_)
  ·
    refine z_aload_n hx dX9_two_26 rfl 0 rfl ?_
    refine z_bipush hx dX9_two_27 (by decide) ?_
    refine z_cVJ (as := [.int (iI (-10))]) (rest := []) hx dX9_two_29 lk_X9_39 wm_X9_badBy wv_X9_badBy (rcv_obj hx m0 rfl) mo_X9_badBy (kX9_badBy g (v := (-10)) ⟨m0, m1, m2, m3, m4, m5, m6, m7, m8⟩) (by decide) rfl rfl (Nat.le_of_ble_eq_true rfl) (fun h_2 q_3 => ?_)
    have fr_4 : Fr h h_2 b 9 := q_3.2.wd (by omega) (by omega)
    refine z_iret hx hr dX9_two_32 rfl rfl (q_j (by unfold twoA; (repeat (first | rw [if_pos (by omega)] | rw [if_neg (by omega)])); (try rw [← eg]); (try rw [if_pos (by omega)]); (try rw [if_neg (by omega)]); (try rfl)) (by unfold twoA; (repeat (first | rw [if_pos (by omega)] | rw [if_neg (by omega)])); exact ⟨q_3.1, fr_4⟩))
  ·
    refine z_aload_n hx dX9_two_8 rfl 0 rfl ?_
    refine z_iload_n hx dX9_two_9 rfl 2 rfl ?_
    refine z_cVI (as := [.int (iI c)]) (rest := []) hx dX9_two_10 lk_X9_204 wm_X9_isHunted wv_X9_isHunted (rcv_obj hx m0 rfl) mo_X9_isHunted (kX9_isHunted g (S := S) ⟨m0, m1, m2, m3, m4, m5, m6, m7, m8⟩ hI (by first | exact g_c | omega)) (by decide) rfl rfl (Nat.le_of_ble_eq_true rfl) ?_
    refine z_ifeq_b (tgt := 26) hx dX9_two_13 (by decide)  (fun c_5 => ?_) (fun c_5 => ?_)
    ·
      refine z_aload_n hx dX9_two_26 rfl 0 rfl ?_
      refine z_bipush hx dX9_two_27 (by decide) ?_
      refine z_cVJ (as := [.int (iI (-10))]) (rest := []) hx dX9_two_29 lk_X9_39 wm_X9_badBy wv_X9_badBy (rcv_obj hx m0 rfl) mo_X9_badBy (kX9_badBy g (v := (-10)) ⟨m0, m1, m2, m3, m4, m5, m6, m7, m8⟩) (by decide) rfl rfl (Nat.le_of_ble_eq_true rfl) (fun h_6 q_7 => ?_)
      have fr_8 : Fr h h_6 b 9 := q_7.2.wd (by omega) (by omega)
      refine z_iret hx hr dX9_two_32 rfl rfl (q_j (by unfold twoA; (repeat (first | rw [if_pos (by omega)] | rw [if_neg (by omega)])); (try rw [← eg]); (try rw [if_pos (by omega)]); (try rw [if_neg (by omega)]); (try rfl)) (by unfold twoA; (repeat (first | rw [if_pos (by omega)] | rw [if_neg (by omega)])); exact ⟨q_7.1, fr_8⟩))
    ·
      refine z_iload_n hx dX9_two_16 rfl 1 rfl ?_
      refine z_iload_n hx dX9_two_17 rfl 2 rfl ?_
      refine z_icmp_eq (tgt := 26) hx dX9_two_18 (by decide) (by omega) (by omega) (fun c_9 => ?_) (fun c_9 => ?_)
      ·
        refine z_aload_n hx dX9_two_26 rfl 0 rfl ?_
        refine z_bipush hx dX9_two_27 (by decide) ?_
        refine z_cVJ (as := [.int (iI (-10))]) (rest := []) hx dX9_two_29 lk_X9_39 wm_X9_badBy wv_X9_badBy (rcv_obj hx m0 rfl) mo_X9_badBy (kX9_badBy g (v := (-10)) ⟨m0, m1, m2, m3, m4, m5, m6, m7, m8⟩) (by decide) rfl rfl (Nat.le_of_ble_eq_true rfl) (fun h_10 q_11 => ?_)
        have fr_12 : Fr h h_10 b 9 := q_11.2.wd (by omega) (by omega)
        refine z_iret hx hr dX9_two_32 rfl rfl (q_j (by unfold twoA; (repeat (first | rw [if_pos (by omega)] | rw [if_neg (by omega)])); (try rw [← eg]); (try rw [if_pos (by omega)]); (try rw [if_neg (by omega)]); (try rfl)) (by unfold twoA; (repeat (first | rw [if_pos (by omega)] | rw [if_neg (by omega)])); exact ⟨q_11.1, fr_12⟩))
      ·
        refine z_iload_n hx dX9_two_21 rfl 3 rfl ?_
        refine z_iconst hx dX9_two_22 ?_
        refine z_icmp_ge (tgt := 33) hx dX9_two_23 (by decide) (by omega) (by decide) (fun c_13 => ?_) (fun c_13 => ?_)
        ·
          refine z_aload_n hx dX9_two_33 rfl 0 rfl ?_
          refine z_get hx dX9_two_34 fl_X9_7 m0 rfl ?_
          refine z_bipush hx dX9_two_37 (by decide) ?_
          refine z_iload_n hx dX9_two_39 rfl 1 rfl ?_
          refine z_iadd hx dX9_two_40 ?_
          refine z_iald hx dX9_two_41 m1 (by omega) (by decide) ?_
          have rg_14 := hI.rg ((17 + a)) (by omega)
          refine z_if_ne (tgt := 57) hx dX9_two_42 (by decide) (by omega) (fun c_15 => ?_) (fun c_15 => ?_)
          ·
            refine z_aload_n hx dX9_two_57 rfl 0 rfl ?_
            refine z_cVJ (as := []) (rest := []) hx dX9_two_58 lk_X9_201 wm_X9_no wv_X9_no (rcv_obj hx m0 rfl) mo_X9_no (kX9_no g  ⟨m0, m1, m2, m3, m4, m5, m6, m7, m8⟩) (by decide) rfl rfl (Nat.le_of_ble_eq_true rfl) (fun h_16 q_17 => ?_)
            have fr_18 : Fr h h_16 b 9 := q_17.2.wd (by omega) (by omega)
            refine z_iret hx hr dX9_two_61 rfl rfl (q_j (by unfold twoA; (repeat (first | rw [if_pos (by omega)] | rw [if_neg (by omega)])); (try rw [← eg]); (try rw [if_pos (by omega)]); (try rw [if_neg (by omega)]); (try rfl)) (by unfold twoA; (repeat (first | rw [if_pos (by omega)] | rw [if_neg (by omega)])); exact ⟨q_17.1, fr_18⟩))
          ·
            refine z_aload_n hx dX9_two_45 rfl 0 rfl ?_
            refine z_get hx dX9_two_46 fl_X9_7 m0 rfl ?_
            refine z_bipush hx dX9_two_49 (by decide) ?_
            refine z_iload_n hx dX9_two_51 rfl 2 rfl ?_
            refine z_iadd hx dX9_two_52 ?_
            refine z_iald hx dX9_two_53 m1 (by omega) (by decide) ?_
            have rg_19 := hI.rg ((17 + c)) (by omega)
            refine z_if_eq (tgt := 62) hx dX9_two_54 (by decide) (by omega) (fun c_20 => ?_) (fun c_20 => ?_)
            ·
              refine z_iconst hx dX9_two_62 ?_
              refine z_istore hx dX9_two_63 (by decide) [1, 2, 3, 4, 0] (lv' := [(0, .ref b), (1, .int (iI a)), (2, .int (iI c)), (3, .int (iI k)), (4, .int (iI 0))]) rfl ?_
              refine z_iconst hx dX9_two_65 ?_
              refine z_istore hx dX9_two_66 (by decide) [1, 2, 3, 4, 5, 0] (lv' := [(0, .ref b), (1, .int (iI a)), (2, .int (iI c)), (3, .int (iI k)), (4, .int (iI 0)), (5, .int (iI 0))]) rfl ?_
              have hL_21 : ∀ (mm : Nat) (v4 : Int) (v5 : Int), (0 ≤ v5 ∧ v5 ≤ 25) → (0 ≤ v4 ∧ v4 ≤ v5) → (twN (S 1) a c k (25 - v5).toNat v5 v4 = twN (S 1) a c k 25 0 0) → (25 : Int) - v5 < (mm : Int) → Zj g x (sz, 0, 0) h 68 [(0, .ref b), (1, .int (iI a)), (2, .int (iI c)), (3, .int (iI k)), (4, .int (iI v4)), (5, .int (iI v5))] [] := by
                intro mm
                induction mm with
                | zero => intro v4 v5 kv k4 eg hm; exfalso; omega
                | succ mm ih =>
                  intro v4 v5 kv k4 eg hm
                  have ih_22 := ih; clear ih
                  refine z_iload hx dX9_two_68 5 rfl ?_
                  refine z_bipush hx dX9_two_70 (by decide) ?_
                  refine z_icmp_ge (tgt := 132) hx dX9_two_72 (by decide) (by omega) (by decide) (fun c_23 => ?_) (fun c_23 => ?_)
                  ·
                    rw [twN_e (by omega)] at eg
                    refine z_iload_n hx dX9_two_132 rfl 3 rfl ?_
                    refine z_iconst hx dX9_two_133 ?_
                    refine z_icmp_ne (tgt := 142) hx dX9_two_134 (by decide) (by omega) (by decide) (fun c_24 => ?_) (fun c_24 => ?_)
                    ·
                      refine z_bipush hx dX9_two_142 (by decide) ?_
                      refine z_iret hx hr dX9_two_144 rfl rfl (q_j (by unfold twoA; (repeat (first | rw [if_pos (by omega)] | rw [if_neg (by omega)])); (try rw [← eg]); (try rw [if_pos (by omega)]); (try rw [if_neg (by omega)]); (try rfl)) (by unfold twoA; (repeat (first | rw [if_pos (by omega)] | rw [if_neg (by omega)])); exact ⟨⟨m0, m1, m2, m3, m4, m5, m6, m7, m8⟩, Fr.rf⟩))
                    ·
                      refine z_iload hx dX9_two_137 4 rfl ?_
                      refine z_goto (tgt := 144) hx dX9_two_139 (by decide) ?_
                      refine z_iret hx hr dX9_two_144 rfl rfl (q_j (by unfold twoA; (repeat (first | rw [if_pos (by omega)] | rw [if_neg (by omega)])); (try rw [← eg]); (try rw [if_pos (by omega)]); (try rw [if_neg (by omega)]); (try rfl)) (by unfold twoA; (repeat (first | rw [if_pos (by omega)] | rw [if_neg (by omega)])); exact ⟨⟨m0, m1, m2, m3, m4, m5, m6, m7, m8⟩, Fr.rf⟩))
                  ·
                    refine z_aload_n hx dX9_two_75 rfl 0 rfl ?_
                    refine z_iload hx dX9_two_76 5 rfl ?_
                    refine z_iconst hx dX9_two_78 ?_
                    refine z_idiv hx dX9_two_79 (by omega) (by decide) ?_
                    refine z_cVI (as := [.int (iI (v5 / 5))]) (rest := []) hx dX9_two_80 lk_X9_194 wm_X9_isCosy wv_X9_isCosy (rcv_obj hx m0 rfl) mo_X9_isCosy (kX9_isCosy g (S := S) ⟨m0, m1, m2, m3, m4, m5, m6, m7, m8⟩ hI (by omega)) (by decide) rfl rfl (Nat.le_of_ble_eq_true rfl) ?_
                    refine z_ifeq_b (tgt := 126) hx dX9_two_83 (by decide)  (fun c_25 => ?_) (fun c_25 => ?_)
                    ·
                      refine z_iinc hx dX9_two_126 (by decide) 5 rfl [1, 2, 3, 4, 5, 0] (lv' := [(0, .ref b), (1, .int (iI a)), (2, .int (iI c)), (3, .int (iI k)), (4, .int (iI v4)), (5, .int (iI (v5 + 1)))]) rfl ?_
                      refine z_goto (tgt := 68) hx dX9_two_129 (by decide) ?_
                      exact ih_22 _ _ (by omega) (by omega) (by rw [← eg]; (first | exact (twN_n (by omega) (by omega) (by omega)).symm | exact (twN_o (by omega) (by omega)).symm))  (by omega)
                    ·
                      refine z_aload_n hx dX9_two_86 rfl 0 rfl ?_
                      refine z_iload hx dX9_two_87 5 rfl ?_
                      refine z_iconst hx dX9_two_89 ?_
                      refine z_irem hx dX9_two_90 (by omega) (by decide) ?_
                      refine z_cVI (as := [.int (iI (v5 % 5))]) (rest := []) hx dX9_two_91 lk_X9_194 wm_X9_isCosy wv_X9_isCosy (rcv_obj hx m0 rfl) mo_X9_isCosy (kX9_isCosy g (S := S) ⟨m0, m1, m2, m3, m4, m5, m6, m7, m8⟩ hI (by omega)) (by decide) rfl rfl (Nat.le_of_ble_eq_true rfl) ?_
                      refine z_ifeq_b (tgt := 126) hx dX9_two_94 (by decide)  (fun c_26 => ?_) (fun c_26 => ?_)
                      ·
                        refine z_iinc hx dX9_two_126 (by decide) 5 rfl [1, 2, 3, 4, 5, 0] (lv' := [(0, .ref b), (1, .int (iI a)), (2, .int (iI c)), (3, .int (iI k)), (4, .int (iI v4)), (5, .int (iI (v5 + 1)))]) rfl ?_
                        refine z_goto (tgt := 68) hx dX9_two_129 (by decide) ?_
                        exact ih_22 _ _ (by omega) (by omega) (by rw [← eg]; (first | exact (twN_n (by omega) (by omega) (by omega)).symm | exact (twN_o (by omega) (by omega)).symm))  (by omega)
                      ·
                        refine z_aload_n hx dX9_two_97 rfl 0 rfl ?_
                        refine z_iload_n hx dX9_two_98 rfl 1 rfl ?_
                        refine z_iload hx dX9_two_99 5 rfl ?_
                        refine z_iconst hx dX9_two_101 ?_
                        refine z_idiv hx dX9_two_102 (by omega) (by decide) ?_
                        refine z_iload_n hx dX9_two_103 rfl 2 rfl ?_
                        refine z_iload hx dX9_two_104 5 rfl ?_
                        refine z_iconst hx dX9_two_106 ?_
                        refine z_irem hx dX9_two_107 (by omega) (by decide) ?_
                        refine z_cVI (as := [.int (iI a), .int (iI (v5 / 5)), .int (iI c), .int (iI (v5 % 5))]) (rest := []) hx dX9_two_108 lk_X9_238 wm_X9_rests wv_X9_rests (rcv_obj hx m0 rfl) mo_X9_rests (kX9_rests g (S := S) (a := a) (i := (v5 / 5)) (c := c) (j := (v5 % 5)) ⟨m0, m1, m2, m3, m4, m5, m6, m7, m8⟩ hI (by omega) (by omega) (by omega) (by omega)) (by decide) rfl rfl (Nat.le_of_ble_eq_true rfl) ?_
                        have f_27 := rst_01 (S 1) a (v5 / 5) c (v5 % 5) (n := S 1 26) (by omega)
                        have f_28 : rst (S 1) a (v5 / 5) c (v5 % 5) = itI (S 1 26) (rstG (S 1) a (v5 / 5) c (v5 % 5)) 1 := rfl
                        refine z_if_eq (tgt := 126) hx dX9_two_111 (by decide) (by omega) (fun c_29 => ?_) (fun c_29 => ?_)
                        ·
                          refine z_iinc hx dX9_two_126 (by decide) 5 rfl [1, 2, 3, 4, 5, 0] (lv' := [(0, .ref b), (1, .int (iI a)), (2, .int (iI c)), (3, .int (iI k)), (4, .int (iI v4)), (5, .int (iI (v5 + 1)))]) rfl ?_
                          refine z_goto (tgt := 68) hx dX9_two_129 (by decide) ?_
                          exact ih_22 _ _ (by omega) (by omega) (by rw [← eg]; (first | exact (twN_n (by omega) (by omega) (by omega)).symm | exact (twN_o (by omega) (by omega)).symm))  (by omega)
                        ·
                          refine z_iload hx dX9_two_114 4 rfl ?_
                          refine z_iload_n hx dX9_two_116 rfl 3 rfl ?_
                          refine z_icmp_ne (tgt := 123) hx dX9_two_117 (by decide) (by omega) (by omega) (fun c_30 => ?_) (fun c_30 => ?_)
                          ·
                            refine z_iinc hx dX9_two_123 (by decide) 4 rfl [1, 2, 3, 4, 0, 5] (lv' := [(0, .ref b), (1, .int (iI a)), (2, .int (iI c)), (3, .int (iI k)), (4, .int (iI (v4 + 1))), (5, .int (iI v5))]) rfl ?_
                            refine z_iinc hx dX9_two_126 (by decide) 5 rfl [1, 2, 3, 4, 5, 0] (lv' := [(0, .ref b), (1, .int (iI a)), (2, .int (iI c)), (3, .int (iI k)), (4, .int (iI (v4 + 1))), (5, .int (iI (v5 + 1)))]) rfl ?_
                            refine z_goto (tgt := 68) hx dX9_two_129 (by decide) ?_
                            exact ih_22 _ _ (by omega) (by omega) (by rw [← eg]; (first | exact (twN_n (by omega) (by omega) (by omega)).symm | exact (twN_o (by omega) (by omega)).symm))  (by omega)
                          ·
                            have eW := twN_y (f := S 1) (a := a) (b := c) (k := k) (q := v5) (n := v4) (by omega) (by omega) (by omega)
                            rw [eW] at eg
                            refine z_iload hx dX9_two_120 5 rfl ?_
                            refine z_iret hx hr dX9_two_122 rfl rfl (q_j (by unfold twoA; (repeat (first | rw [if_pos (by omega)] | rw [if_neg (by omega)])); (try rw [← eg]); (try rw [if_pos (by omega)]); (try rw [if_neg (by omega)]); (try rfl)) (by unfold twoA; (repeat (first | rw [if_pos (by omega)] | rw [if_neg (by omega)])); exact ⟨⟨m0, m1, m2, m3, m4, m5, m6, m7, m8⟩, Fr.rf⟩))
              exact hL_21 (((25 : Int) - 0) + 1).toNat _ _ (by omega) (by omega) (by rfl)  (by omega)
            ·
              refine z_aload_n hx dX9_two_57 rfl 0 rfl ?_
              refine z_cVJ (as := []) (rest := []) hx dX9_two_58 lk_X9_201 wm_X9_no wv_X9_no (rcv_obj hx m0 rfl) mo_X9_no (kX9_no g  ⟨m0, m1, m2, m3, m4, m5, m6, m7, m8⟩) (by decide) rfl rfl (Nat.le_of_ble_eq_true rfl) (fun h_31 q_32 => ?_)
              have fr_33 : Fr h h_31 b 9 := q_32.2.wd (by omega) (by omega)
              refine z_iret hx hr dX9_two_61 rfl rfl (q_j (by unfold twoA; (repeat (first | rw [if_pos (by omega)] | rw [if_neg (by omega)])); (try rw [← eg]); (try rw [if_pos (by omega)]); (try rw [if_neg (by omega)]); (try rfl)) (by unfold twoA; (repeat (first | rw [if_pos (by omega)] | rw [if_neg (by omega)])); exact ⟨q_32.1, fr_33⟩))
        ·
          refine z_aload_n hx dX9_two_26 rfl 0 rfl ?_
          refine z_bipush hx dX9_two_27 (by decide) ?_
          refine z_cVJ (as := [.int (iI (-10))]) (rest := []) hx dX9_two_29 lk_X9_39 wm_X9_badBy wv_X9_badBy (rcv_obj hx m0 rfl) mo_X9_badBy (kX9_badBy g (v := (-10)) ⟨m0, m1, m2, m3, m4, m5, m6, m7, m8⟩) (by decide) rfl rfl (Nat.le_of_ble_eq_true rfl) (fun h_34 q_35 => ?_)
          have fr_36 : Fr h h_34 b 9 := q_35.2.wd (by omega) (by omega)
          refine z_iret hx hr dX9_two_32 rfl rfl (q_j (by unfold twoA; (repeat (first | rw [if_pos (by omega)] | rw [if_neg (by omega)])); (try rw [← eg]); (try rw [if_pos (by omega)]); (try rw [if_neg (by omega)]); (try rfl)) (by unfold twoA; (repeat (first | rw [if_pos (by omega)] | rw [if_neg (by omega)])); exact ⟨q_35.1, fr_36⟩))

