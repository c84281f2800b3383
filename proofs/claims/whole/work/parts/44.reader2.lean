/-! the class: its reader -/
theorem b2i_iff {P Q : Prop} [Decidable P] [Decidable Q] (h : P ↔ Q) : b2i P = b2i Q := by
  by_cases p : P
  · rw [b2i_t p, b2i_t (h.mp p)]
  · rw [b2i_f p, b2i_f (fun q => p (h.mpr q))]

set_option maxHeartbeats 4000000 in
set_option maxRecDepth 20000 in
theorem kX6_numbersOf (g : Gt) {w : Int} {h : AH} (hw : 0 ≤ w ∧ w ≤ 4) : CnI g mX6_numbersOf 1 [.int (iI w)] h (cn9 w) := by
  refine Cn.mk (by decide +kernel) (Nat.le_of_ble_eq_true rfl) ?_
  intro x sz hx hr
  show Zj g x (sz, 0, 0) h 0 [(0, .int (iI w))] []
  refine z_iload_n hx dX6_numbersOf_0 rfl 0 rfl ?_
  by_cases c_1 : w = 0
  ·
    refine z_tblIn (off := 35) (tgt := 36) hx dX6_numbersOf_1 (by omega) 0 c_1 (by decide) rfl (by decide) ?_
    refine z_iconst hx dX6_numbersOf_36 ?_
    refine z_iret hx hr dX6_numbersOf_37 rfl rfl (q_i (by unfold cn9; (repeat' split) <;> omega))
  by_cases c_2 : w = 1
  ·
    refine z_tblIn (off := 37) (tgt := 38) hx dX6_numbersOf_1 (by omega) 1 c_2 (by decide) rfl (by decide) ?_
    refine z_iconst hx dX6_numbersOf_38 ?_
    refine z_iret hx hr dX6_numbersOf_39 rfl rfl (q_i (by unfold cn9; (repeat' split) <;> omega))
  by_cases c_3 : w = 2
  ·
    refine z_tblIn (off := 41) (tgt := 42) hx dX6_numbersOf_1 (by omega) 2 c_3 (by decide) rfl (by decide) ?_
    refine z_iconst hx dX6_numbersOf_42 ?_
    refine z_iret hx hr dX6_numbersOf_43 rfl rfl (q_i (by unfold cn9; (repeat' split) <;> omega))
  by_cases c_4 : w = 3
  ·
    refine z_tblIn (off := 41) (tgt := 42) hx dX6_numbersOf_1 (by omega) 3 c_4 (by decide) rfl (by decide) ?_
    refine z_iconst hx dX6_numbersOf_42 ?_
    refine z_iret hx hr dX6_numbersOf_43 rfl rfl (q_i (by unfold cn9; (repeat' split) <;> omega))
  by_cases c_5 : w = 4
  ·
    refine z_tblIn (off := 39) (tgt := 40) hx dX6_numbersOf_1 (by omega) 4 c_5 (by decide) rfl (by decide) ?_
    refine z_iconst hx dX6_numbersOf_40 ?_
    refine z_iret hx hr dX6_numbersOf_41 rfl rfl (q_i (by unfold cn9; (repeat' split) <;> omega))
  refine z_tblOut (tgt := 42) hx dX6_numbersOf_1 (by omega) (by omega) (by decide) ?_
  refine z_iconst hx dX6_numbersOf_42 ?_
  refine z_iret hx hr dX6_numbersOf_43 rfl rfl (q_i (by unfold cn9; (repeat' split) <;> omega))

set_option maxHeartbeats 4000000 in
set_option maxRecDepth 20000 in
theorem kX6_mostOf (g : Gt) {h : AH} {rd : Nat} {F : Nat → Int → Int} {nb f : Int → Int} {c1 c2 c3 : Int} {w i : Int} (hD : DM h rd F nb c1 c2 c3) (hR : RLC F f) (hI : inv f) (g_w : rgI w) (g_i : rgI i) : CnI g mX6_mostOf 1 [.ref rd, .int (iI w), .int (iI i)] h (hi9 w i f) := by
  refine Cn.mk (by decide +kernel) (Nat.le_of_ble_eq_true rfl) ?_
  intro x sz hx hr
  show Zj g x (sz, 0, 0) h 0 [(0, .ref rd), (1, .int (iI w)), (2, .int (iI i))] []
  obtain ⟨d0, d1, d2⟩ := hD
  refine z_iload_n hx dX6_mostOf_0 rfl 1 rfl ?_
  by_cases c_1 : w = 1
  ·
    refine z_lookup (off := 27) (tgt := 28) hx dX6_mostOf_1 (by omega) (by decide) (by rw [c_1]; decide) (by decide) ?_
    refine z_iload_n hx dX6_mostOf_28 rfl 2 rfl ?_
    refine z_if_ne (tgt := 36) hx dX6_mostOf_29 (by decide) (by omega) (fun c_2 => ?_) (fun c_2 => ?_)
    ·
      refine z_iload_n hx dX6_mostOf_36 rfl 2 rfl ?_
      refine z_iconst hx dX6_mostOf_37 ?_
      refine z_icmp_ne (tgt := 46) hx dX6_mostOf_38 (by decide) (by omega) (by decide) (fun c_3 => ?_) (fun c_3 => ?_)
      ·
        refine z_iconst hx dX6_mostOf_46 ?_
        refine z_iret hx hr dX6_mostOf_47 rfl rfl (q_i (by unfold hi9; have rn := hR.n; (repeat' split) <;> omega))
      ·
        refine z_bipush hx dX6_mostOf_41 (by decide) ?_
        refine z_goto (tgt := 47) hx dX6_mostOf_43 (by decide) ?_
        refine z_iret hx hr dX6_mostOf_47 rfl rfl (q_i (by unfold hi9; have rn := hR.n; (repeat' split) <;> omega))
    ·
      refine z_iconst hx dX6_mostOf_32 ?_
      refine z_goto (tgt := 47) hx dX6_mostOf_33 (by decide) ?_
      refine z_iret hx hr dX6_mostOf_47 rfl rfl (q_i (by unfold hi9; have rn := hR.n; (repeat' split) <;> omega))
  by_cases c_4 : w = 4
  ·
    refine z_lookup (off := 47) (tgt := 48) hx dX6_mostOf_1 (by omega) (by decide) (by rw [c_4]; decide) (by decide) ?_
    refine z_iload_n hx dX6_mostOf_48 rfl 2 rfl ?_
    refine z_if_ne (tgt := 64) hx dX6_mostOf_49 (by decide) (by omega) (fun c_5 => ?_) (fun c_5 => ?_)
    ·
      refine z_bipush hx dX6_mostOf_64 (by decide) ?_
      refine z_iret hx hr dX6_mostOf_66 rfl rfl (q_i (by unfold hi9; have rn := hR.n; (repeat' split) <;> omega))
    ·
      refine z_aload_n hx dX6_mostOf_52 rfl 0 rfl ?_
      refine z_get hx dX6_mostOf_53 fl_X6_12 d0 rfl ?_
      refine z_get hx dX6_mostOf_56 fl_X6_69 d1.1 rfl ?_
      refine z_iconst hx dX6_mostOf_59 ?_
      refine z_isub hx dX6_mostOf_60 ?_
      refine z_goto (tgt := 66) hx dX6_mostOf_61 (by decide) ?_
      refine z_iret hx hr dX6_mostOf_66 rfl rfl (q_i (by unfold hi9; have rn := hR.n; (repeat' split) <;> omega))
  refine z_lookup (off := 66) (tgt := 67) hx dX6_mostOf_1 (by omega) (by decide) (by simp [Op.lookupswitch.offset, c_1, Ne.symm c_1, c_4, Ne.symm c_4]) (by decide) ?_
  refine z_bipush hx dX6_mostOf_67 (by decide) ?_
  refine z_iret hx hr dX6_mostOf_69 rfl rfl (q_i (by unfold hi9; have rn := hR.n; (repeat' split) <;> omega))

set_option maxHeartbeats 4000000 in
set_option maxRecDepth 20000 in
theorem kX6_takesWord (g : Gt) {h : AH} {rd q : Nat} {F : Nat → Int → Int} {nb T f : Int → Int} {c1 c2 c3 L b1 b2 b3 b4 : Int} (hD : DM h rd F nb c1 c2 c3) (hM : TM h q T L b1 b2 b3 b4) (hR : RLC F f) (hI : inv f) (hbv : b3 = 3 → 0 ≤ b4 ∧ b4 ≤ 4) (hbn : b3 = 2 → 0 ≤ b4 ∧ b4 ≤ 900) (hrg : rgI b3 ∧ rgI c1 ∧ rgI c2) (hq : rd = q + 12) : CnJ g mX6_takesWord 1 [.ref rd, .ref q] h (b2i (b3 = 3 ∧ (c1 = 0 ↔ b4 = 0) ∧ rm9 b4 f)) (fun h' => ∃ e2 e3, DM h' rd F nb c1 e2 e3 ∧ (b3 = 3 ∧ (c1 = 0 ↔ b4 = 0) ∧ rm9 b4 f → e2 = b4 ∧ e3 = 0) ∧ Fr h h' rd 12) := by
  refine Cn.mk (by decide +kernel) (Nat.le_of_ble_eq_true rfl) ?_
  intro x sz hx hr
  show Zj g x (sz, 0, 0) h 0 [(0, .ref rd), (1, .ref q)] []
  obtain ⟨d0, d1, d2⟩ := hD
  obtain ⟨t0, t1⟩ := hM
  have rn := hR.n
  have hn := hI.n
  refine z_aload_n hx dX6_takesWord_0 rfl 1 rfl ?_
  refine z_get hx dX6_takesWord_1 fl_X6_43 t0 rfl ?_
  refine z_iconst hx dX6_takesWord_4 ?_
  refine z_icmp_ne (tgt := 35) hx dX6_takesWord_5 (by decide) (by omega) (by decide) (fun c_1 => ?_) (fun c_1 => ?_)
  ·
    refine z_iconst hx dX6_takesWord_35 ?_
    refine z_iret hx hr dX6_takesWord_36 rfl rfl (q_j (Q := (fun h' => ∃ e2 e3, DM h' rd F nb c1 e2 e3 ∧ (b3 = 3 ∧ (c1 = 0 ↔ b4 = 0) ∧ rm9 b4 f → e2 = b4 ∧ e3 = 0) ∧ Fr h h' rd 12)) (by first | exact (b2i_t ⟨by omega, by omega, by omega, by omega, by omega⟩).symm | exact (b2i_f (fun z => by obtain ⟨z1, z2, z3, z4, z5⟩ := z; omega)).symm) ⟨c2, c3, ⟨d0, d1, d2⟩, (fun z => by obtain ⟨z1, z2, z3, z4, z5⟩ := z; exfalso; omega), Fr.rf⟩)
  ·
    refine z_aload_n hx dX6_takesWord_8 rfl 0 rfl ?_
    refine z_get hx dX6_takesWord_9 fl_X6_22 d0 rfl ?_
    refine z_if_ne (tgt := 19) hx dX6_takesWord_12 (by decide) (by omega) (fun c_2 => ?_) (fun c_2 => ?_)
    ·
      refine z_iconst hx dX6_takesWord_19 ?_
      refine z_aload_n hx dX6_takesWord_20 rfl 1 rfl ?_
      refine z_get hx dX6_takesWord_21 fl_X6_66 t0 rfl ?_
      refine z_if_ne (tgt := 31) hx dX6_takesWord_24 (by decide) (by omega) (fun c_3 => ?_) (fun c_3 => ?_)
      ·
        refine z_iconst hx dX6_takesWord_31 ?_
        refine z_icmp_eq (tgt := 37) hx dX6_takesWord_32 (by decide) (by decide) (by decide) (fun _ => ?_) (fun q => absurd q (by decide))
        refine z_aload_n hx dX6_takesWord_37 rfl 0 rfl ?_
        refine z_aload_n hx dX6_takesWord_38 rfl 1 rfl ?_
        refine z_get hx dX6_takesWord_39 fl_X6_66 t0 rfl ?_
        refine z_putQ hx dX6_takesWord_42 fl_X6_26 d0 ⟨rfl, rfl⟩ (Nat.le_of_ble_eq_true rfl) (fun h_5 hs_6 hf_7 => ?_)
        have h_8 := CM.fr d1 hf_7 (by omega)
        have h_9 := hf_7.at (by omega) d2
        have h_10 := hf_7.at (by omega) t0
        have h_11 := hf_7.at (by omega) t1
        have fr_12 : Fr h h_5 rd 12 := hf_7.wd (by omega) (by omega)
        refine z_aload_n hx dX6_takesWord_45 rfl 0 rfl ?_
        refine z_iconst hx dX6_takesWord_46 ?_
        refine z_putQ hx dX6_takesWord_47 fl_X6_29 hs_6 ⟨rfl, rfl⟩ (Nat.le_of_ble_eq_true rfl) (fun h_13 hs_14 hf_15 => ?_)
        have h_16 := CM.fr h_8 hf_15 (by omega)
        have h_17 := hf_15.at (by omega) h_9
        have h_18 := hf_15.at (by omega) h_10
        have h_19 := hf_15.at (by omega) h_11
        have fr_20 := fr_12.tr (hf_15.wd (by omega) (by omega))
        refine z_aload_n hx dX6_takesWord_50 rfl 0 rfl ?_
        refine z_get hx dX6_takesWord_51 fl_X6_26 hs_14 rfl ?_
        by_cases c_21 : b4 = 1
        ·
          refine z_tblIn (off := 26) (tgt := 80) hx dX6_takesWord_54 (by omega) 1 c_21 (by decide) rfl (by decide) ?_
          refine z_aload_n hx dX6_takesWord_80 rfl 0 rfl ?_
          refine z_get hx dX6_takesWord_81 fl_X6_12 hs_14 rfl ?_
          refine z_get hx dX6_takesWord_84 fl_X6_69 h_16.1 rfl ?_
          refine z_iconst hx dX6_takesWord_87 ?_
          refine z_icmp_ge (tgt := 95) hx dX6_takesWord_88 (by decide) (by omega) (by decide) (fun c_22 => ?_) (fun c_22 => ?_)
          ·
            refine z_iconst hx dX6_takesWord_95 ?_
            refine z_iret hx hr dX6_takesWord_96 rfl rfl (q_j (Q := (fun h' => ∃ e2 e3, DM h' rd F nb c1 e2 e3 ∧ (b3 = 3 ∧ (c1 = 0 ↔ b4 = 0) ∧ rm9 b4 f → e2 = b4 ∧ e3 = 0) ∧ Fr h h' rd 12)) (by first | exact (b2i_t ⟨by omega, by omega, by omega, by omega, by omega⟩).symm | exact (b2i_f (fun z => by obtain ⟨z1, z2, z3, z4, z5⟩ := z; omega)).symm) ⟨b4, 0, ⟨hs_14, h_16, h_17⟩, (fun _ => ⟨rfl, rfl⟩), fr_20⟩)
          ·
            refine z_iconst hx dX6_takesWord_91 ?_
            refine z_goto (tgt := 96) hx dX6_takesWord_92 (by decide) ?_
            refine z_iret hx hr dX6_takesWord_96 rfl rfl (q_j (Q := (fun h' => ∃ e2 e3, DM h' rd F nb c1 e2 e3 ∧ (b3 = 3 ∧ (c1 = 0 ↔ b4 = 0) ∧ rm9 b4 f → e2 = b4 ∧ e3 = 0) ∧ Fr h h' rd 12)) (by first | exact (b2i_t ⟨by omega, by omega, by omega, by omega, by omega⟩).symm | exact (b2i_f (fun z => by obtain ⟨z1, z2, z3, z4, z5⟩ := z; omega)).symm) ⟨b4, 0, ⟨hs_14, h_16, h_17⟩, (fun _ => ⟨rfl, rfl⟩), fr_20⟩)
        by_cases c_23 : b4 = 2
        ·
          refine z_tblIn (off := 43) (tgt := 97) hx dX6_takesWord_54 (by omega) 2 c_23 (by decide) rfl (by decide) ?_
          refine z_aload_n hx dX6_takesWord_97 rfl 0 rfl ?_
          refine z_get hx dX6_takesWord_98 fl_X6_12 hs_14 rfl ?_
          refine z_get hx dX6_takesWord_101 fl_X6_72 h_16.1 rfl ?_
          refine z_bipush hx dX6_takesWord_104 (by decide) ?_
          refine z_icmp_ge (tgt := 113) hx dX6_takesWord_106 (by decide) (by omega) (by decide) (fun c_24 => ?_) (fun c_24 => ?_)
          ·
            refine z_iconst hx dX6_takesWord_113 ?_
            refine z_iret hx hr dX6_takesWord_114 rfl rfl (q_j (Q := (fun h' => ∃ e2 e3, DM h' rd F nb c1 e2 e3 ∧ (b3 = 3 ∧ (c1 = 0 ↔ b4 = 0) ∧ rm9 b4 f → e2 = b4 ∧ e3 = 0) ∧ Fr h h' rd 12)) (by first | exact (b2i_t ⟨by omega, by omega, by omega, by omega, by omega⟩).symm | exact (b2i_f (fun z => by obtain ⟨z1, z2, z3, z4, z5⟩ := z; omega)).symm) ⟨b4, 0, ⟨hs_14, h_16, h_17⟩, (fun _ => ⟨rfl, rfl⟩), fr_20⟩)
          ·
            refine z_iconst hx dX6_takesWord_109 ?_
            refine z_goto (tgt := 114) hx dX6_takesWord_110 (by decide) ?_
            refine z_iret hx hr dX6_takesWord_114 rfl rfl (q_j (Q := (fun h' => ∃ e2 e3, DM h' rd F nb c1 e2 e3 ∧ (b3 = 3 ∧ (c1 = 0 ↔ b4 = 0) ∧ rm9 b4 f → e2 = b4 ∧ e3 = 0) ∧ Fr h h' rd 12)) (by first | exact (b2i_t ⟨by omega, by omega, by omega, by omega, by omega⟩).symm | exact (b2i_f (fun z => by obtain ⟨z1, z2, z3, z4, z5⟩ := z; omega)).symm) ⟨b4, 0, ⟨hs_14, h_16, h_17⟩, (fun _ => ⟨rfl, rfl⟩), fr_20⟩)
        by_cases c_25 : b4 = 3
        ·
          refine z_tblIn (off := 61) (tgt := 115) hx dX6_takesWord_54 (by omega) 3 c_25 (by decide) rfl (by decide) ?_
          refine z_aload_n hx dX6_takesWord_115 rfl 0 rfl ?_
          refine z_get hx dX6_takesWord_116 fl_X6_12 hs_14 rfl ?_
          refine z_get hx dX6_takesWord_119 fl_X6_75 h_16.1 rfl ?_
          refine z_iconst hx dX6_takesWord_122 ?_
          refine z_icmp_ge (tgt := 130) hx dX6_takesWord_123 (by decide) (by omega) (by decide) (fun c_26 => ?_) (fun c_26 => ?_)
          ·
            refine z_iconst hx dX6_takesWord_130 ?_
            refine z_iret hx hr dX6_takesWord_131 rfl rfl (q_j (Q := (fun h' => ∃ e2 e3, DM h' rd F nb c1 e2 e3 ∧ (b3 = 3 ∧ (c1 = 0 ↔ b4 = 0) ∧ rm9 b4 f → e2 = b4 ∧ e3 = 0) ∧ Fr h h' rd 12)) (by first | exact (b2i_t ⟨by omega, by omega, by omega, by omega, by omega⟩).symm | exact (b2i_f (fun z => by obtain ⟨z1, z2, z3, z4, z5⟩ := z; omega)).symm) ⟨b4, 0, ⟨hs_14, h_16, h_17⟩, (fun _ => ⟨rfl, rfl⟩), fr_20⟩)
          ·
            refine z_iconst hx dX6_takesWord_126 ?_
            refine z_goto (tgt := 131) hx dX6_takesWord_127 (by decide) ?_
            refine z_iret hx hr dX6_takesWord_131 rfl rfl (q_j (Q := (fun h' => ∃ e2 e3, DM h' rd F nb c1 e2 e3 ∧ (b3 = 3 ∧ (c1 = 0 ↔ b4 = 0) ∧ rm9 b4 f → e2 = b4 ∧ e3 = 0) ∧ Fr h h' rd 12)) (by first | exact (b2i_t ⟨by omega, by omega, by omega, by omega, by omega⟩).symm | exact (b2i_f (fun z => by obtain ⟨z1, z2, z3, z4, z5⟩ := z; omega)).symm) ⟨b4, 0, ⟨hs_14, h_16, h_17⟩, (fun _ => ⟨rfl, rfl⟩), fr_20⟩)
        refine z_tblOut (tgt := 132) hx dX6_takesWord_54 (by omega) (by omega) (by decide) ?_
        refine z_iconst hx dX6_takesWord_132 ?_
        refine z_iret hx hr dX6_takesWord_133 rfl rfl (q_j (Q := (fun h' => ∃ e2 e3, DM h' rd F nb c1 e2 e3 ∧ (b3 = 3 ∧ (c1 = 0 ↔ b4 = 0) ∧ rm9 b4 f → e2 = b4 ∧ e3 = 0) ∧ Fr h h' rd 12)) (by first | exact (b2i_t ⟨by omega, by omega, by omega, by omega, by omega⟩).symm | exact (b2i_f (fun z => by obtain ⟨z1, z2, z3, z4, z5⟩ := z; omega)).symm) ⟨b4, 0, ⟨hs_14, h_16, h_17⟩, (fun _ => ⟨rfl, rfl⟩), fr_20⟩)
      ·
        refine z_iconst hx dX6_takesWord_27 ?_
        refine z_goto (tgt := 32) hx dX6_takesWord_28 (by decide) ?_
        refine z_icmp_eq (tgt := 37) hx dX6_takesWord_32 (by decide) (by decide) (by decide) (fun q => absurd q (by decide)) (fun _ => ?_)
        refine z_iconst hx dX6_takesWord_35 ?_
        refine z_iret hx hr dX6_takesWord_36 rfl rfl (q_j (Q := (fun h' => ∃ e2 e3, DM h' rd F nb c1 e2 e3 ∧ (b3 = 3 ∧ (c1 = 0 ↔ b4 = 0) ∧ rm9 b4 f → e2 = b4 ∧ e3 = 0) ∧ Fr h h' rd 12)) (by first | exact (b2i_t ⟨by omega, by omega, by omega, by omega, by omega⟩).symm | exact (b2i_f (fun z => by obtain ⟨z1, z2, z3, z4, z5⟩ := z; omega)).symm) ⟨c2, c3, ⟨d0, d1, d2⟩, (fun z => by obtain ⟨z1, z2, z3, z4, z5⟩ := z; exfalso; omega), Fr.rf⟩)
    ·
      refine z_iconst hx dX6_takesWord_15 ?_
      refine z_goto (tgt := 20) hx dX6_takesWord_16 (by decide) ?_
      refine z_aload_n hx dX6_takesWord_20 rfl 1 rfl ?_
      refine z_get hx dX6_takesWord_21 fl_X6_66 t0 rfl ?_
      refine z_if_ne (tgt := 31) hx dX6_takesWord_24 (by decide) (by omega) (fun c_28 => ?_) (fun c_28 => ?_)
      ·
        refine z_iconst hx dX6_takesWord_31 ?_
        refine z_icmp_eq (tgt := 37) hx dX6_takesWord_32 (by decide) (by decide) (by decide) (fun q => absurd q (by decide)) (fun _ => ?_)
        refine z_iconst hx dX6_takesWord_35 ?_
        refine z_iret hx hr dX6_takesWord_36 rfl rfl (q_j (Q := (fun h' => ∃ e2 e3, DM h' rd F nb c1 e2 e3 ∧ (b3 = 3 ∧ (c1 = 0 ↔ b4 = 0) ∧ rm9 b4 f → e2 = b4 ∧ e3 = 0) ∧ Fr h h' rd 12)) (by first | exact (b2i_t ⟨by omega, by omega, by omega, by omega, by omega⟩).symm | exact (b2i_f (fun z => by obtain ⟨z1, z2, z3, z4, z5⟩ := z; omega)).symm) ⟨c2, c3, ⟨d0, d1, d2⟩, (fun z => by obtain ⟨z1, z2, z3, z4, z5⟩ := z; exfalso; omega), Fr.rf⟩)
      ·
        refine z_iconst hx dX6_takesWord_27 ?_
        refine z_goto (tgt := 32) hx dX6_takesWord_28 (by decide) ?_
        refine z_icmp_eq (tgt := 37) hx dX6_takesWord_32 (by decide) (by decide) (by decide) (fun _ => ?_) (fun q => absurd q (by decide))
        refine z_aload_n hx dX6_takesWord_37 rfl 0 rfl ?_
        refine z_aload_n hx dX6_takesWord_38 rfl 1 rfl ?_
        refine z_get hx dX6_takesWord_39 fl_X6_66 t0 rfl ?_
        refine z_putQ hx dX6_takesWord_42 fl_X6_26 d0 ⟨rfl, rfl⟩ (Nat.le_of_ble_eq_true rfl) (fun h_31 hs_32 hf_33 => ?_)
        have h_34 := CM.fr d1 hf_33 (by omega)
        have h_35 := hf_33.at (by omega) d2
        have h_36 := hf_33.at (by omega) t0
        have h_37 := hf_33.at (by omega) t1
        have fr_38 : Fr h h_31 rd 12 := hf_33.wd (by omega) (by omega)
        refine z_aload_n hx dX6_takesWord_45 rfl 0 rfl ?_
        refine z_iconst hx dX6_takesWord_46 ?_
        refine z_putQ hx dX6_takesWord_47 fl_X6_29 hs_32 ⟨rfl, rfl⟩ (Nat.le_of_ble_eq_true rfl) (fun h_39 hs_40 hf_41 => ?_)
        have h_42 := CM.fr h_34 hf_41 (by omega)
        have h_43 := hf_41.at (by omega) h_35
        have h_44 := hf_41.at (by omega) h_36
        have h_45 := hf_41.at (by omega) h_37
        have fr_46 := fr_38.tr (hf_41.wd (by omega) (by omega))
        refine z_aload_n hx dX6_takesWord_50 rfl 0 rfl ?_
        refine z_get hx dX6_takesWord_51 fl_X6_26 hs_40 rfl ?_
        by_cases c_47 : b4 = 1
        ·
          refine z_tblIn (off := 26) (tgt := 80) hx dX6_takesWord_54 (by omega) 1 c_47 (by decide) rfl (by decide) ?_
          refine z_aload_n hx dX6_takesWord_80 rfl 0 rfl ?_
          refine z_get hx dX6_takesWord_81 fl_X6_12 hs_40 rfl ?_
          refine z_get hx dX6_takesWord_84 fl_X6_69 h_42.1 rfl ?_
          refine z_iconst hx dX6_takesWord_87 ?_
          refine z_icmp_ge (tgt := 95) hx dX6_takesWord_88 (by decide) (by omega) (by decide) (fun c_48 => ?_) (fun c_48 => ?_)
          ·
            refine z_iconst hx dX6_takesWord_95 ?_
            refine z_iret hx hr dX6_takesWord_96 rfl rfl (q_j (Q := (fun h' => ∃ e2 e3, DM h' rd F nb c1 e2 e3 ∧ (b3 = 3 ∧ (c1 = 0 ↔ b4 = 0) ∧ rm9 b4 f → e2 = b4 ∧ e3 = 0) ∧ Fr h h' rd 12)) (by first | exact (b2i_t ⟨by omega, by omega, by omega, by omega, by omega⟩).symm | exact (b2i_f (fun z => by obtain ⟨z1, z2, z3, z4, z5⟩ := z; omega)).symm) ⟨b4, 0, ⟨hs_40, h_42, h_43⟩, (fun _ => ⟨rfl, rfl⟩), fr_46⟩)
          ·
            refine z_iconst hx dX6_takesWord_91 ?_
            refine z_goto (tgt := 96) hx dX6_takesWord_92 (by decide) ?_
            refine z_iret hx hr dX6_takesWord_96 rfl rfl (q_j (Q := (fun h' => ∃ e2 e3, DM h' rd F nb c1 e2 e3 ∧ (b3 = 3 ∧ (c1 = 0 ↔ b4 = 0) ∧ rm9 b4 f → e2 = b4 ∧ e3 = 0) ∧ Fr h h' rd 12)) (by first | exact (b2i_t ⟨by omega, by omega, by omega, by omega, by omega⟩).symm | exact (b2i_f (fun z => by obtain ⟨z1, z2, z3, z4, z5⟩ := z; omega)).symm) ⟨b4, 0, ⟨hs_40, h_42, h_43⟩, (fun _ => ⟨rfl, rfl⟩), fr_46⟩)
        by_cases c_49 : b4 = 2
        ·
          refine z_tblIn (off := 43) (tgt := 97) hx dX6_takesWord_54 (by omega) 2 c_49 (by decide) rfl (by decide) ?_
          refine z_aload_n hx dX6_takesWord_97 rfl 0 rfl ?_
          refine z_get hx dX6_takesWord_98 fl_X6_12 hs_40 rfl ?_
          refine z_get hx dX6_takesWord_101 fl_X6_72 h_42.1 rfl ?_
          refine z_bipush hx dX6_takesWord_104 (by decide) ?_
          refine z_icmp_ge (tgt := 113) hx dX6_takesWord_106 (by decide) (by omega) (by decide) (fun c_50 => ?_) (fun c_50 => ?_)
          ·
            refine z_iconst hx dX6_takesWord_113 ?_
            refine z_iret hx hr dX6_takesWord_114 rfl rfl (q_j (Q := (fun h' => ∃ e2 e3, DM h' rd F nb c1 e2 e3 ∧ (b3 = 3 ∧ (c1 = 0 ↔ b4 = 0) ∧ rm9 b4 f → e2 = b4 ∧ e3 = 0) ∧ Fr h h' rd 12)) (by first | exact (b2i_t ⟨by omega, by omega, by omega, by omega, by omega⟩).symm | exact (b2i_f (fun z => by obtain ⟨z1, z2, z3, z4, z5⟩ := z; omega)).symm) ⟨b4, 0, ⟨hs_40, h_42, h_43⟩, (fun _ => ⟨rfl, rfl⟩), fr_46⟩)
          ·
            refine z_iconst hx dX6_takesWord_109 ?_
            refine z_goto (tgt := 114) hx dX6_takesWord_110 (by decide) ?_
            refine z_iret hx hr dX6_takesWord_114 rfl rfl (q_j (Q := (fun h' => ∃ e2 e3, DM h' rd F nb c1 e2 e3 ∧ (b3 = 3 ∧ (c1 = 0 ↔ b4 = 0) ∧ rm9 b4 f → e2 = b4 ∧ e3 = 0) ∧ Fr h h' rd 12)) (by first | exact (b2i_t ⟨by omega, by omega, by omega, by omega, by omega⟩).symm | exact (b2i_f (fun z => by obtain ⟨z1, z2, z3, z4, z5⟩ := z; omega)).symm) ⟨b4, 0, ⟨hs_40, h_42, h_43⟩, (fun _ => ⟨rfl, rfl⟩), fr_46⟩)
        by_cases c_51 : b4 = 3
        ·
          refine z_tblIn (off := 61) (tgt := 115) hx dX6_takesWord_54 (by omega) 3 c_51 (by decide) rfl (by decide) ?_
          refine z_aload_n hx dX6_takesWord_115 rfl 0 rfl ?_
          refine z_get hx dX6_takesWord_116 fl_X6_12 hs_40 rfl ?_
          refine z_get hx dX6_takesWord_119 fl_X6_75 h_42.1 rfl ?_
          refine z_iconst hx dX6_takesWord_122 ?_
          refine z_icmp_ge (tgt := 130) hx dX6_takesWord_123 (by decide) (by omega) (by decide) (fun c_52 => ?_) (fun c_52 => ?_)
          ·
            refine z_iconst hx dX6_takesWord_130 ?_
            refine z_iret hx hr dX6_takesWord_131 rfl rfl (q_j (Q := (fun h' => ∃ e2 e3, DM h' rd F nb c1 e2 e3 ∧ (b3 = 3 ∧ (c1 = 0 ↔ b4 = 0) ∧ rm9 b4 f → e2 = b4 ∧ e3 = 0) ∧ Fr h h' rd 12)) (by first | exact (b2i_t ⟨by omega, by omega, by omega, by omega, by omega⟩).symm | exact (b2i_f (fun z => by obtain ⟨z1, z2, z3, z4, z5⟩ := z; omega)).symm) ⟨b4, 0, ⟨hs_40, h_42, h_43⟩, (fun _ => ⟨rfl, rfl⟩), fr_46⟩)
          ·
            refine z_iconst hx dX6_takesWord_126 ?_
            refine z_goto (tgt := 131) hx dX6_takesWord_127 (by decide) ?_
            refine z_iret hx hr dX6_takesWord_131 rfl rfl (q_j (Q := (fun h' => ∃ e2 e3, DM h' rd F nb c1 e2 e3 ∧ (b3 = 3 ∧ (c1 = 0 ↔ b4 = 0) ∧ rm9 b4 f → e2 = b4 ∧ e3 = 0) ∧ Fr h h' rd 12)) (by first | exact (b2i_t ⟨by omega, by omega, by omega, by omega, by omega⟩).symm | exact (b2i_f (fun z => by obtain ⟨z1, z2, z3, z4, z5⟩ := z; omega)).symm) ⟨b4, 0, ⟨hs_40, h_42, h_43⟩, (fun _ => ⟨rfl, rfl⟩), fr_46⟩)
        refine z_tblOut (tgt := 132) hx dX6_takesWord_54 (by omega) (by omega) (by decide) ?_
        refine z_iconst hx dX6_takesWord_132 ?_
        refine z_iret hx hr dX6_takesWord_133 rfl rfl (q_j (Q := (fun h' => ∃ e2 e3, DM h' rd F nb c1 e2 e3 ∧ (b3 = 3 ∧ (c1 = 0 ↔ b4 = 0) ∧ rm9 b4 f → e2 = b4 ∧ e3 = 0) ∧ Fr h h' rd 12)) (by first | exact (b2i_t ⟨by omega, by omega, by omega, by omega, by omega⟩).symm | exact (b2i_f (fun z => by obtain ⟨z1, z2, z3, z4, z5⟩ := z; omega)).symm) ⟨b4, 0, ⟨hs_40, h_42, h_43⟩, (fun _ => ⟨rfl, rfl⟩), fr_46⟩)

set_option maxHeartbeats 4000000 in
set_option maxRecDepth 20000 in
theorem kX6_takesNumber (g : Gt) {h : AH} {rd q : Nat} {F : Nat → Int → Int} {nb T f : Int → Int} {c1 c2 c3 L b1 b2 b3 b4 : Int} (hD : DM h rd F nb c1 c2 c3) (hM : TM h q T L b1 b2 b3 b4) (hR : RLC F f) (hI : inv f) (hbv : b3 = 3 → 0 ≤ b4 ∧ b4 ≤ 4) (hbn : b3 = 2 → 0 ≤ b4 ∧ b4 ≤ 900) (hrg : rgI b3 ∧ rgI c1 ∧ rgI c2) (hq : rd = q + 12) (h3 : 0 ≤ c3 ∧ c3 < 3) : CnJ g mX6_takesNumber 2 [.ref rd, .ref q] h (b2i (b3 = 2 ∧ lo9 c2 c3 ≤ b4 ∧ b4 ≤ hi9 c2 c3 f)) (fun h' => ∃ nb' e3, DM h' rd F nb' c1 c2 e3 ∧ (b3 = 2 ∧ lo9 c2 c3 ≤ b4 ∧ b4 ≤ hi9 c2 c3 f → nb' = fup nb c3 b4 ∧ e3 = c3 + 1) ∧ Fr h h' rd 12) := by
  refine Cn.mk (by decide +kernel) (Nat.le_of_ble_eq_true rfl) ?_
  intro x sz hx hr
  show Zj g x (sz, 0, 0) h 0 [(0, .ref rd), (1, .ref q)] []
  obtain ⟨d0, d1, d2⟩ := hD
  obtain ⟨t0, t1⟩ := hM
  have hlo := lo9_c c2 c3
  refine z_aload_n hx dX6_takesNumber_0 rfl 0 rfl ?_
  refine z_get hx dX6_takesNumber_1 fl_X6_29 d0 rfl ?_
  refine z_istore_n hx dX6_takesNumber_4 rfl (by decide) [1, 2, 0] (lv' := [(0, .ref rd), (1, .ref q), (2, .int (iI c3))]) rfl ?_
  refine z_aload_n hx dX6_takesNumber_5 rfl 0 rfl ?_
  refine z_get hx dX6_takesNumber_6 fl_X6_26 d0 rfl ?_
  refine z_iconst hx dX6_takesNumber_9 ?_
  refine z_icmp_ne (tgt := 22) hx dX6_takesNumber_10 (by decide) (by omega) (by decide) (fun c_1 => ?_) (fun c_1 => ?_)
  ·
    refine z_iconst hx dX6_takesNumber_22 ?_
    refine z_istore_n hx dX6_takesNumber_23 rfl (by decide) [1, 2, 3, 0] (lv' := [(0, .ref rd), (1, .ref q), (2, .int (iI c3)), (3, .int (iI 0))]) rfl ?_
    refine z_iload_n hx dX6_takesNumber_24 rfl 2 rfl ?_
    refine z_iconst hx dX6_takesNumber_25 ?_
    refine z_icmp_ge (tgt := 57) hx dX6_takesNumber_26 (by decide) (by omega) (by decide) (fun c_2 => by exfalso; omega) (fun c_2 => ?_)
    refine z_aload_n hx dX6_takesNumber_29 rfl 1 rfl ?_
    refine z_get hx dX6_takesNumber_30 fl_X6_43 t0 rfl ?_
    refine z_iconst hx dX6_takesNumber_33 ?_
    refine z_icmp_ne (tgt := 57) hx dX6_takesNumber_34 (by decide) (by omega) (by decide) (fun c_3 => ?_) (fun c_3 => ?_)
    ·
      refine z_iconst hx dX6_takesNumber_57 ?_
      refine z_iret hx hr dX6_takesNumber_58 rfl rfl (q_j (Q := (fun h' => ∃ nb' e3, DM h' rd F nb' c1 c2 e3 ∧ (b3 = 2 ∧ lo9 c2 c3 ≤ b4 ∧ b4 ≤ hi9 c2 c3 f → nb' = fup nb c3 b4 ∧ e3 = c3 + 1) ∧ Fr h h' rd 12)) (by first | exact (b2i_t ⟨by omega, by omega, by omega⟩).symm | exact (b2i_f (fun z => by obtain ⟨z1, z2, z3⟩ := z; omega)).symm) ⟨nb, c3, ⟨d0, d1, d2⟩, (fun z => by obtain ⟨z1, z2, z3⟩ := z; exfalso; omega), Fr.rf⟩)
    ·
      refine z_aload_n hx dX6_takesNumber_37 rfl 1 rfl ?_
      refine z_get hx dX6_takesNumber_38 fl_X6_66 t0 rfl ?_
      refine z_iload_n hx dX6_takesNumber_41 rfl 3 rfl ?_
      refine z_aload_n hx dX6_takesNumber_42 rfl 0 rfl ?_
      refine z_aload_n hx dX6_takesNumber_43 rfl 0 rfl ?_
      refine z_get hx dX6_takesNumber_44 fl_X6_26 d0 rfl ?_
      refine z_iload_n hx dX6_takesNumber_47 rfl 2 rfl ?_
      refine z_cVI (as := [.int (iI c2), .int (iI c3)]) (rest := [.int (iI 0), .int (iI b4)]) hx dX6_takesNumber_48 lk_X6_78 wm_X6_mostOf wv_X6_mostOf (rcv_obj hx d0 rfl) mo_X6_mostOf (kX6_mostOf g (w := c2) (i := c3) ⟨d0, d1, d2⟩ hR hI (by omega) (by omega)) (by decide) rfl rfl (Nat.le_of_ble_eq_true rfl) ?_
      have f_4 : -1 ≤ hi9 c2 c3 f ∧ hi9 c2 c3 f ≤ 40 := by have := hI.n; unfold hi9; (repeat' split) <;> omega
      refine z_cSI (as := [.int (iI b4), .int (iI 0), .int (iI (hi9 c2 c3 f))]) (rest := []) hx dX6_takesNumber_51 lk_X6_82 wt_X8_isIn mo_X8_isIn (kX8_isIn g (a := b4) (b := 0) (c := (hi9 c2 c3 f)) (by omega) (by omega) (by omega)) (by decide) rfl rfl (Nat.le_of_ble_eq_true rfl) ?_
      refine z_ifne_b (tgt := 59) hx dX6_takesNumber_54 (by decide)  (fun c_5 => ?_) (fun c_5 => ?_)
      ·
        refine z_aload_n hx dX6_takesNumber_59 rfl 0 rfl ?_
        refine z_get hx dX6_takesNumber_60 fl_X6_18 d0 rfl ?_
        refine z_iload_n hx dX6_takesNumber_63 rfl 2 rfl ?_
        refine z_aload_n hx dX6_takesNumber_64 rfl 1 rfl ?_
        refine z_get hx dX6_takesNumber_65 fl_X6_66 t0 rfl ?_
        refine z_iastQ hx dX6_takesNumber_68 d2 (by omega) (by decide) (fun h_6 hs_7 hf_8 => ?_)
        have h_9 := hf_8.at (by omega) d0
        have h_10 := CM.fr d1 hf_8 (by omega)
        have h_11 := hf_8.at (by omega) t0
        have h_12 := hf_8.at (by omega) t1
        have fr_13 : Fr h h_6 rd 12 := hf_8.wd (by omega) (by omega)
        refine z_aload_n hx dX6_takesNumber_69 rfl 0 rfl ?_
        refine z_dup hx dX6_takesNumber_70 rfl ?_
        refine z_get hx dX6_takesNumber_71 fl_X6_29 h_9 rfl ?_
        refine z_iconst hx dX6_takesNumber_74 ?_
        refine z_iadd hx dX6_takesNumber_75 ?_
        refine z_putQ hx dX6_takesNumber_76 fl_X6_29 h_9 ⟨rfl, rfl⟩ (Nat.le_of_ble_eq_true rfl) (fun h_14 hs_15 hf_16 => ?_)
        have h_17 := CM.fr h_10 hf_16 (by omega)
        have h_18 := hf_16.at (by omega) hs_7
        have h_19 := hf_16.at (by omega) h_11
        have h_20 := hf_16.at (by omega) h_12
        have fr_21 := fr_13.tr (hf_16.wd (by omega) (by omega))
        refine z_iconst hx dX6_takesNumber_79 ?_
        refine z_iret hx hr dX6_takesNumber_80 rfl rfl (q_j (Q := (fun h' => ∃ nb' e3, DM h' rd F nb' c1 c2 e3 ∧ (b3 = 2 ∧ lo9 c2 c3 ≤ b4 ∧ b4 ≤ hi9 c2 c3 f → nb' = fup nb c3 b4 ∧ e3 = c3 + 1) ∧ Fr h h' rd 12)) (by first | exact (b2i_t ⟨by omega, by omega, by omega⟩).symm | exact (b2i_f (fun z => by obtain ⟨z1, z2, z3⟩ := z; omega)).symm) ⟨(fup nb c3 b4), (c3 + 1), ⟨hs_15, h_17, h_18⟩, (fun _ => ⟨rfl, rfl⟩), fr_21⟩)
      ·
        refine z_iconst hx dX6_takesNumber_57 ?_
        refine z_iret hx hr dX6_takesNumber_58 rfl rfl (q_j (Q := (fun h' => ∃ nb' e3, DM h' rd F nb' c1 c2 e3 ∧ (b3 = 2 ∧ lo9 c2 c3 ≤ b4 ∧ b4 ≤ hi9 c2 c3 f → nb' = fup nb c3 b4 ∧ e3 = c3 + 1) ∧ Fr h h' rd 12)) (by first | exact (b2i_t ⟨by omega, by omega, by omega⟩).symm | exact (b2i_f (fun z => by obtain ⟨z1, z2, z3⟩ := z; omega)).symm) ⟨nb, c3, ⟨d0, d1, d2⟩, (fun z => by obtain ⟨z1, z2, z3⟩ := z; exfalso; omega), Fr.rf⟩)
  ·
    refine z_iload_n hx dX6_takesNumber_13 rfl 2 rfl ?_
    refine z_iconst hx dX6_takesNumber_14 ?_
    refine z_icmp_ne (tgt := 22) hx dX6_takesNumber_15 (by decide) (by omega) (by decide) (fun c_22 => ?_) (fun c_22 => ?_)
    ·
      refine z_iconst hx dX6_takesNumber_22 ?_
      refine z_istore_n hx dX6_takesNumber_23 rfl (by decide) [1, 2, 3, 0] (lv' := [(0, .ref rd), (1, .ref q), (2, .int (iI c3)), (3, .int (iI 0))]) rfl ?_
      refine z_iload_n hx dX6_takesNumber_24 rfl 2 rfl ?_
      refine z_iconst hx dX6_takesNumber_25 ?_
      refine z_icmp_ge (tgt := 57) hx dX6_takesNumber_26 (by decide) (by omega) (by decide) (fun c_23 => by exfalso; omega) (fun c_23 => ?_)
      refine z_aload_n hx dX6_takesNumber_29 rfl 1 rfl ?_
      refine z_get hx dX6_takesNumber_30 fl_X6_43 t0 rfl ?_
      refine z_iconst hx dX6_takesNumber_33 ?_
      refine z_icmp_ne (tgt := 57) hx dX6_takesNumber_34 (by decide) (by omega) (by decide) (fun c_24 => ?_) (fun c_24 => ?_)
      ·
        refine z_iconst hx dX6_takesNumber_57 ?_
        refine z_iret hx hr dX6_takesNumber_58 rfl rfl (q_j (Q := (fun h' => ∃ nb' e3, DM h' rd F nb' c1 c2 e3 ∧ (b3 = 2 ∧ lo9 c2 c3 ≤ b4 ∧ b4 ≤ hi9 c2 c3 f → nb' = fup nb c3 b4 ∧ e3 = c3 + 1) ∧ Fr h h' rd 12)) (by first | exact (b2i_t ⟨by omega, by omega, by omega⟩).symm | exact (b2i_f (fun z => by obtain ⟨z1, z2, z3⟩ := z; omega)).symm) ⟨nb, c3, ⟨d0, d1, d2⟩, (fun z => by obtain ⟨z1, z2, z3⟩ := z; exfalso; omega), Fr.rf⟩)
      ·
        refine z_aload_n hx dX6_takesNumber_37 rfl 1 rfl ?_
        refine z_get hx dX6_takesNumber_38 fl_X6_66 t0 rfl ?_
        refine z_iload_n hx dX6_takesNumber_41 rfl 3 rfl ?_
        refine z_aload_n hx dX6_takesNumber_42 rfl 0 rfl ?_
        refine z_aload_n hx dX6_takesNumber_43 rfl 0 rfl ?_
        refine z_get hx dX6_takesNumber_44 fl_X6_26 d0 rfl ?_
        refine z_iload_n hx dX6_takesNumber_47 rfl 2 rfl ?_
        refine z_cVI (as := [.int (iI c2), .int (iI c3)]) (rest := [.int (iI 0), .int (iI b4)]) hx dX6_takesNumber_48 lk_X6_78 wm_X6_mostOf wv_X6_mostOf (rcv_obj hx d0 rfl) mo_X6_mostOf (kX6_mostOf g (w := c2) (i := c3) ⟨d0, d1, d2⟩ hR hI (by omega) (by omega)) (by decide) rfl rfl (Nat.le_of_ble_eq_true rfl) ?_
        have f_25 : -1 ≤ hi9 c2 c3 f ∧ hi9 c2 c3 f ≤ 40 := by have := hI.n; unfold hi9; (repeat' split) <;> omega
        refine z_cSI (as := [.int (iI b4), .int (iI 0), .int (iI (hi9 c2 c3 f))]) (rest := []) hx dX6_takesNumber_51 lk_X6_82 wt_X8_isIn mo_X8_isIn (kX8_isIn g (a := b4) (b := 0) (c := (hi9 c2 c3 f)) (by omega) (by omega) (by omega)) (by decide) rfl rfl (Nat.le_of_ble_eq_true rfl) ?_
        refine z_ifne_b (tgt := 59) hx dX6_takesNumber_54 (by decide)  (fun c_26 => ?_) (fun c_26 => ?_)
        ·
          refine z_aload_n hx dX6_takesNumber_59 rfl 0 rfl ?_
          refine z_get hx dX6_takesNumber_60 fl_X6_18 d0 rfl ?_
          refine z_iload_n hx dX6_takesNumber_63 rfl 2 rfl ?_
          refine z_aload_n hx dX6_takesNumber_64 rfl 1 rfl ?_
          refine z_get hx dX6_takesNumber_65 fl_X6_66 t0 rfl ?_
          refine z_iastQ hx dX6_takesNumber_68 d2 (by omega) (by decide) (fun h_27 hs_28 hf_29 => ?_)
          have h_30 := hf_29.at (by omega) d0
          have h_31 := CM.fr d1 hf_29 (by omega)
          have h_32 := hf_29.at (by omega) t0
          have h_33 := hf_29.at (by omega) t1
          have fr_34 : Fr h h_27 rd 12 := hf_29.wd (by omega) (by omega)
          refine z_aload_n hx dX6_takesNumber_69 rfl 0 rfl ?_
          refine z_dup hx dX6_takesNumber_70 rfl ?_
          refine z_get hx dX6_takesNumber_71 fl_X6_29 h_30 rfl ?_
          refine z_iconst hx dX6_takesNumber_74 ?_
          refine z_iadd hx dX6_takesNumber_75 ?_
          refine z_putQ hx dX6_takesNumber_76 fl_X6_29 h_30 ⟨rfl, rfl⟩ (Nat.le_of_ble_eq_true rfl) (fun h_35 hs_36 hf_37 => ?_)
          have h_38 := CM.fr h_31 hf_37 (by omega)
          have h_39 := hf_37.at (by omega) hs_28
          have h_40 := hf_37.at (by omega) h_32
          have h_41 := hf_37.at (by omega) h_33
          have fr_42 := fr_34.tr (hf_37.wd (by omega) (by omega))
          refine z_iconst hx dX6_takesNumber_79 ?_
          refine z_iret hx hr dX6_takesNumber_80 rfl rfl (q_j (Q := (fun h' => ∃ nb' e3, DM h' rd F nb' c1 c2 e3 ∧ (b3 = 2 ∧ lo9 c2 c3 ≤ b4 ∧ b4 ≤ hi9 c2 c3 f → nb' = fup nb c3 b4 ∧ e3 = c3 + 1) ∧ Fr h h' rd 12)) (by first | exact (b2i_t ⟨by omega, by omega, by omega⟩).symm | exact (b2i_f (fun z => by obtain ⟨z1, z2, z3⟩ := z; omega)).symm) ⟨(fup nb c3 b4), (c3 + 1), ⟨hs_36, h_38, h_39⟩, (fun _ => ⟨rfl, rfl⟩), fr_42⟩)
        ·
          refine z_iconst hx dX6_takesNumber_57 ?_
          refine z_iret hx hr dX6_takesNumber_58 rfl rfl (q_j (Q := (fun h' => ∃ nb' e3, DM h' rd F nb' c1 c2 e3 ∧ (b3 = 2 ∧ lo9 c2 c3 ≤ b4 ∧ b4 ≤ hi9 c2 c3 f → nb' = fup nb c3 b4 ∧ e3 = c3 + 1) ∧ Fr h h' rd 12)) (by first | exact (b2i_t ⟨by omega, by omega, by omega⟩).symm | exact (b2i_f (fun z => by obtain ⟨z1, z2, z3⟩ := z; omega)).symm) ⟨nb, c3, ⟨d0, d1, d2⟩, (fun z => by obtain ⟨z1, z2, z3⟩ := z; exfalso; omega), Fr.rf⟩)
    ·
      refine z_iconst hx dX6_takesNumber_18 ?_
      refine z_goto (tgt := 23) hx dX6_takesNumber_19 (by decide) ?_
      refine z_istore_n hx dX6_takesNumber_23 rfl (by decide) [1, 2, 3, 0] (lv' := [(0, .ref rd), (1, .ref q), (2, .int (iI c3)), (3, .int (iI 1))]) rfl ?_
      refine z_iload_n hx dX6_takesNumber_24 rfl 2 rfl ?_
      refine z_iconst hx dX6_takesNumber_25 ?_
      refine z_icmp_ge (tgt := 57) hx dX6_takesNumber_26 (by decide) (by omega) (by decide) (fun c_43 => by exfalso; omega) (fun c_43 => ?_)
      refine z_aload_n hx dX6_takesNumber_29 rfl 1 rfl ?_
      refine z_get hx dX6_takesNumber_30 fl_X6_43 t0 rfl ?_
      refine z_iconst hx dX6_takesNumber_33 ?_
      refine z_icmp_ne (tgt := 57) hx dX6_takesNumber_34 (by decide) (by omega) (by decide) (fun c_44 => ?_) (fun c_44 => ?_)
      ·
        refine z_iconst hx dX6_takesNumber_57 ?_
        refine z_iret hx hr dX6_takesNumber_58 rfl rfl (q_j (Q := (fun h' => ∃ nb' e3, DM h' rd F nb' c1 c2 e3 ∧ (b3 = 2 ∧ lo9 c2 c3 ≤ b4 ∧ b4 ≤ hi9 c2 c3 f → nb' = fup nb c3 b4 ∧ e3 = c3 + 1) ∧ Fr h h' rd 12)) (by first | exact (b2i_t ⟨by omega, by omega, by omega⟩).symm | exact (b2i_f (fun z => by obtain ⟨z1, z2, z3⟩ := z; omega)).symm) ⟨nb, c3, ⟨d0, d1, d2⟩, (fun z => by obtain ⟨z1, z2, z3⟩ := z; exfalso; omega), Fr.rf⟩)
      ·
        refine z_aload_n hx dX6_takesNumber_37 rfl 1 rfl ?_
        refine z_get hx dX6_takesNumber_38 fl_X6_66 t0 rfl ?_
        refine z_iload_n hx dX6_takesNumber_41 rfl 3 rfl ?_
        refine z_aload_n hx dX6_takesNumber_42 rfl 0 rfl ?_
        refine z_aload_n hx dX6_takesNumber_43 rfl 0 rfl ?_
        refine z_get hx dX6_takesNumber_44 fl_X6_26 d0 rfl ?_
        refine z_iload_n hx dX6_takesNumber_47 rfl 2 rfl ?_
        refine z_cVI (as := [.int (iI c2), .int (iI c3)]) (rest := [.int (iI 1), .int (iI b4)]) hx dX6_takesNumber_48 lk_X6_78 wm_X6_mostOf wv_X6_mostOf (rcv_obj hx d0 rfl) mo_X6_mostOf (kX6_mostOf g (w := c2) (i := c3) ⟨d0, d1, d2⟩ hR hI (by omega) (by omega)) (by decide) rfl rfl (Nat.le_of_ble_eq_true rfl) ?_
        have f_45 : -1 ≤ hi9 c2 c3 f ∧ hi9 c2 c3 f ≤ 40 := by have := hI.n; unfold hi9; (repeat' split) <;> omega
        refine z_cSI (as := [.int (iI b4), .int (iI 1), .int (iI (hi9 c2 c3 f))]) (rest := []) hx dX6_takesNumber_51 lk_X6_82 wt_X8_isIn mo_X8_isIn (kX8_isIn g (a := b4) (b := 1) (c := (hi9 c2 c3 f)) (by omega) (by omega) (by omega)) (by decide) rfl rfl (Nat.le_of_ble_eq_true rfl) ?_
        refine z_ifne_b (tgt := 59) hx dX6_takesNumber_54 (by decide)  (fun c_46 => ?_) (fun c_46 => ?_)
        ·
          refine z_aload_n hx dX6_takesNumber_59 rfl 0 rfl ?_
          refine z_get hx dX6_takesNumber_60 fl_X6_18 d0 rfl ?_
          refine z_iload_n hx dX6_takesNumber_63 rfl 2 rfl ?_
          refine z_aload_n hx dX6_takesNumber_64 rfl 1 rfl ?_
          refine z_get hx dX6_takesNumber_65 fl_X6_66 t0 rfl ?_
          refine z_iastQ hx dX6_takesNumber_68 d2 (by omega) (by decide) (fun h_47 hs_48 hf_49 => ?_)
          have h_50 := hf_49.at (by omega) d0
          have h_51 := CM.fr d1 hf_49 (by omega)
          have h_52 := hf_49.at (by omega) t0
          have h_53 := hf_49.at (by omega) t1
          have fr_54 : Fr h h_47 rd 12 := hf_49.wd (by omega) (by omega)
          refine z_aload_n hx dX6_takesNumber_69 rfl 0 rfl ?_
          refine z_dup hx dX6_takesNumber_70 rfl ?_
          refine z_get hx dX6_takesNumber_71 fl_X6_29 h_50 rfl ?_
          refine z_iconst hx dX6_takesNumber_74 ?_
          refine z_iadd hx dX6_takesNumber_75 ?_
          refine z_putQ hx dX6_takesNumber_76 fl_X6_29 h_50 ⟨rfl, rfl⟩ (Nat.le_of_ble_eq_true rfl) (fun h_55 hs_56 hf_57 => ?_)
          have h_58 := CM.fr h_51 hf_57 (by omega)
          have h_59 := hf_57.at (by omega) hs_48
          have h_60 := hf_57.at (by omega) h_52
          have h_61 := hf_57.at (by omega) h_53
          have fr_62 := fr_54.tr (hf_57.wd (by omega) (by omega))
          refine z_iconst hx dX6_takesNumber_79 ?_
          refine z_iret hx hr dX6_takesNumber_80 rfl rfl (q_j (Q := (fun h' => ∃ nb' e3, DM h' rd F nb' c1 c2 e3 ∧ (b3 = 2 ∧ lo9 c2 c3 ≤ b4 ∧ b4 ≤ hi9 c2 c3 f → nb' = fup nb c3 b4 ∧ e3 = c3 + 1) ∧ Fr h h' rd 12)) (by first | exact (b2i_t ⟨by omega, by omega, by omega⟩).symm | exact (b2i_f (fun z => by obtain ⟨z1, z2, z3⟩ := z; omega)).symm) ⟨(fup nb c3 b4), (c3 + 1), ⟨hs_56, h_58, h_59⟩, (fun _ => ⟨rfl, rfl⟩), fr_62⟩)
        ·
          refine z_iconst hx dX6_takesNumber_57 ?_
          refine z_iret hx hr dX6_takesNumber_58 rfl rfl (q_j (Q := (fun h' => ∃ nb' e3, DM h' rd F nb' c1 c2 e3 ∧ (b3 = 2 ∧ lo9 c2 c3 ≤ b4 ∧ b4 ≤ hi9 c2 c3 f → nb' = fup nb c3 b4 ∧ e3 = c3 + 1) ∧ Fr h h' rd 12)) (by first | exact (b2i_t ⟨by omega, by omega, by omega⟩).symm | exact (b2i_f (fun z => by obtain ⟨z1, z2, z3⟩ := z; omega)).symm) ⟨nb, c3, ⟨d0, d1, d2⟩, (fun z => by obtain ⟨z1, z2, z3⟩ := z; exfalso; omega), Fr.rf⟩)

set_option maxHeartbeats 4000000 in
set_option maxRecDepth 20000 in
theorem kX6_addItem (g : Gt) {h : AH} {rd : Nat} {F : Nat → Int → Int} {nb f : Int → Int} {c1 c2 c3 : Int} (hD : DM h rd F nb c1 c2 c3) (hR : RLC F f) (hI : inv f) (hc2 : 0 ≤ c2 ∧ c2 ≤ 4) (hrm : rm9 c2 f) (hv : ∀ i, 0 ≤ i → i < cn9 c2 → lo9 c2 i ≤ nb i ∧ nb i ≤ hi9 c2 i f) (hrg : rgI c1) : CnV g mX6_addItem 3 [.ref rd] h (fun h' => ∃ F', DM h' rd F' nb (c1 + 1) (-1) c3 ∧ RLC F' (ad9 c2 nb f) ∧ Fr h h' rd 12) := by
  refine Cn.mk (by decide +kernel) (Nat.le_of_ble_eq_true rfl) ?_
  intro x sz hx hr
  show Zj g x (sz, 0, 0) h 0 [(0, .ref rd)] []
  obtain ⟨d0, d1, d2⟩ := hD
  have rn := hR.n
  have hn := hI.n
  refine z_aload_n hx dX6_addItem_0 rfl 0 rfl ?_
  refine z_get hx dX6_addItem_1 fl_X6_26 d0 rfl ?_
  by_cases c_1 : c2 = 1
  ·
    refine z_tblIn (off := 32) (tgt := 36) hx dX6_addItem_4 (by omega) 1 c_1 (by decide) rfl (by decide) ?_
    have c2e : c2 = 1 := by assumption
    have v0 := hv 0 (by decide) (by rw [c2e]; decide)
    rw [c2e] at v0
    have v1 := hv 1 (by decide) (by rw [c2e]; decide)
    have v2 := hv 2 (by decide) (by rw [c2e]; decide)
    rw [c2e] at v1
    rw [c2e] at v2
    have w0 : 0 ≤ nb 0 ∧ nb 0 ≤ 5 := v0
    have w1 : 0 ≤ nb 1 ∧ nb 1 ≤ 23 := v1
    have w2 : 1 ≤ nb 2 ∧ nb 2 ≤ 4 := v2
    have wr := hrm.1 c2e
    have eA : ad9 c2 nb f = acs f (nb 0) (nb 1) (nb 2) := by rw [c2e]; rfl
    refine z_aload_n hx dX6_addItem_36 rfl 0 rfl ?_
    refine z_get hx dX6_addItem_37 fl_X6_12 d0 rfl ?_
    refine z_aload_n hx dX6_addItem_40 rfl 0 rfl ?_
    refine z_get hx dX6_addItem_41 fl_X6_18 d0 rfl ?_
    refine z_iconst hx dX6_addItem_44 ?_
    refine z_iald hx dX6_addItem_45 d2 (by decide) (by decide) ?_
    refine z_aload_n hx dX6_addItem_46 rfl 0 rfl ?_
    refine z_get hx dX6_addItem_47 fl_X6_18 d0 rfl ?_
    refine z_iconst hx dX6_addItem_50 ?_
    refine z_iald hx dX6_addItem_51 d2 (by decide) (by decide) ?_
    refine z_aload_n hx dX6_addItem_52 rfl 0 rfl ?_
    refine z_get hx dX6_addItem_53 fl_X6_18 d0 rfl ?_
    refine z_iconst hx dX6_addItem_56 ?_
    refine z_iald hx dX6_addItem_57 d2 (by decide) (by decide) ?_
    refine z_cVJ (as := [.int (iI (nb 0)), .int (iI (nb 1)), .int (iI (nb 2))]) (rest := []) hx dX6_addItem_58 lk_X6_86 wm_X1_addCosy wv_X1_addCosy (rcv_obj hx (And.left d1) rfl) mo_X1_addCosy (kX1_addCosy g (F := F) (f := f) (kd9 := (nb 0)) (ce9 := (nb 1)) (sz9 := (nb 2)) d1 hR hI  (show f 26 < 5 by omega)) (by decide) rfl rfl (Nat.le_of_ble_eq_true rfl) (fun h_2 q_3 => ?_)
    obtain ⟨F_6, hC_4, hR_7, hf_5⟩ := q_3
    obtain ⟨f_9, ef_9⟩ : ∃ G : Int → Int, G = acs f (nb 0) (nb 1) (nb 2) := ⟨_, rfl⟩
    rw [← ef_9] at hR_7
    have iv_10 := And.intro (inv_acs hI (k := (nb 0)) (c := (nb 1)) (s := (nb 2)) (by omega) (by omega) (by omega) (by omega)) True.intro
    rw [← ef_9] at iv_10
    have h_11 := hf_5.at (by omega) d0
    have h_12 := hf_5.at (by omega) d2
    have fr_13 : Fr h h_2 rd 12 := hf_5.wd (by omega) (by omega)
    refine z_pop hx dX6_addItem_61 rfl ?_
    refine z_goto (tgt := 121) hx dX6_addItem_62 (by decide) ?_
    refine z_aload_n hx dX6_addItem_121 rfl 0 rfl ?_
    refine z_dup hx dX6_addItem_122 rfl ?_
    refine z_get hx dX6_addItem_123 fl_X6_22 h_11 rfl ?_
    refine z_iconst hx dX6_addItem_126 ?_
    refine z_iadd hx dX6_addItem_127 ?_
    refine z_putQ hx dX6_addItem_128 fl_X6_22 h_11 ⟨rfl, rfl⟩ (Nat.le_of_ble_eq_true rfl) (fun h_14 hs_15 hf_16 => ?_)
    have h_17 := CM.fr hC_4 hf_16 (by omega)
    have h_18 := hf_16.at (by omega) h_12
    have fr_19 := fr_13.tr (hf_16.wd (by omega) (by omega))
    refine z_aload_n hx dX6_addItem_131 rfl 0 rfl ?_
    refine z_iconst hx dX6_addItem_132 ?_
    refine z_putQ hx dX6_addItem_133 fl_X6_26 hs_15 ⟨rfl, rfl⟩ (Nat.le_of_ble_eq_true rfl) (fun h_20 hs_21 hf_22 => ?_)
    have h_23 := CM.fr h_17 hf_22 (by omega)
    have h_24 := hf_22.at (by omega) h_18
    have fr_25 := fr_19.tr (hf_22.wd (by omega) (by omega))
    refine z_vret hx hr dX6_addItem_136 rfl (q_v (Q := (fun h' => ∃ F', DM h' rd F' nb (c1 + 1) (-1) c3 ∧ RLC F' (ad9 c2 nb f) ∧ Fr h h' rd 12)) ⟨_, ⟨hs_21, h_23, h_24⟩, (by rw [eA]; rw [← ef_9]; exact hR_7), fr_25⟩)
  by_cases c_26 : c2 = 2
  ·
    refine z_tblIn (off := 61) (tgt := 65) hx dX6_addItem_4 (by omega) 2 c_26 (by decide) rfl (by decide) ?_
    have c2e : c2 = 2 := by assumption
    have v0 := hv 0 (by decide) (by rw [c2e]; decide)
    rw [c2e] at v0
    have w0 : 0 ≤ nb 0 ∧ nb 0 ≤ 23 := v0
    have wr := hrm.2.1 c2e
    have eA : ad9 c2 nb f = ahu f (nb 0) := by rw [c2e]; rfl
    refine z_aload_n hx dX6_addItem_65 rfl 0 rfl ?_
    refine z_get hx dX6_addItem_66 fl_X6_12 d0 rfl ?_
    refine z_aload_n hx dX6_addItem_69 rfl 0 rfl ?_
    refine z_get hx dX6_addItem_70 fl_X6_18 d0 rfl ?_
    refine z_iconst hx dX6_addItem_73 ?_
    refine z_iald hx dX6_addItem_74 d2 (by decide) (by decide) ?_
    refine z_cVJ (as := [.int (iI (nb 0))]) (rest := []) hx dX6_addItem_75 lk_X6_90 wm_X1_addHunted wv_X1_addHunted (rcv_obj hx (And.left d1) rfl) mo_X1_addHunted (kX1_addHunted g (F := F) (f := f) (ce9 := (nb 0)) d1 hR hI  (show f 37 < 6 by omega) (show rgI (nb 0) by omega)) (by decide) rfl rfl (Nat.le_of_ble_eq_true rfl) (fun h_27 q_28 => ?_)
    obtain ⟨F_31, hC_29, hR_32, hf_30⟩ := q_28
    obtain ⟨f_34, ef_34⟩ : ∃ G : Int → Int, G = ahu f (nb 0) := ⟨_, rfl⟩
    rw [← ef_34] at hR_32
    have iv_35 := And.intro (inv_ahu hI (c := (nb 0)) (by omega) (by omega)) True.intro
    rw [← ef_34] at iv_35
    have h_36 := hf_30.at (by omega) d0
    have h_37 := hf_30.at (by omega) d2
    have fr_38 : Fr h h_27 rd 12 := hf_30.wd (by omega) (by omega)
    refine z_pop hx dX6_addItem_78 rfl ?_
    refine z_goto (tgt := 121) hx dX6_addItem_79 (by decide) ?_
    refine z_aload_n hx dX6_addItem_121 rfl 0 rfl ?_
    refine z_dup hx dX6_addItem_122 rfl ?_
    refine z_get hx dX6_addItem_123 fl_X6_22 h_36 rfl ?_
    refine z_iconst hx dX6_addItem_126 ?_
    refine z_iadd hx dX6_addItem_127 ?_
    refine z_putQ hx dX6_addItem_128 fl_X6_22 h_36 ⟨rfl, rfl⟩ (Nat.le_of_ble_eq_true rfl) (fun h_39 hs_40 hf_41 => ?_)
    have h_42 := CM.fr hC_29 hf_41 (by omega)
    have h_43 := hf_41.at (by omega) h_37
    have fr_44 := fr_38.tr (hf_41.wd (by omega) (by omega))
    refine z_aload_n hx dX6_addItem_131 rfl 0 rfl ?_
    refine z_iconst hx dX6_addItem_132 ?_
    refine z_putQ hx dX6_addItem_133 fl_X6_26 hs_40 ⟨rfl, rfl⟩ (Nat.le_of_ble_eq_true rfl) (fun h_45 hs_46 hf_47 => ?_)
    have h_48 := CM.fr h_42 hf_47 (by omega)
    have h_49 := hf_47.at (by omega) h_43
    have fr_50 := fr_44.tr (hf_47.wd (by omega) (by omega))
    refine z_vret hx hr dX6_addItem_136 rfl (q_v (Q := (fun h' => ∃ F', DM h' rd F' nb (c1 + 1) (-1) c3 ∧ RLC F' (ad9 c2 nb f) ∧ Fr h h' rd 12)) ⟨_, ⟨hs_46, h_48, h_49⟩, (by rw [eA]; rw [← ef_34]; exact hR_32), fr_50⟩)
  by_cases c_51 : c2 = 3
  ·
    refine z_tblIn (off := 78) (tgt := 82) hx dX6_addItem_4 (by omega) 3 c_51 (by decide) rfl (by decide) ?_
    have c2e : c2 = 3 := by assumption
    have v0 := hv 0 (by decide) (by rw [c2e]; decide)
    rw [c2e] at v0
    have w0 : 0 ≤ nb 0 ∧ nb 0 ≤ 23 := v0
    have wr := hrm.2.2 c2e
    have eA : ad9 c2 nb f = ash f (nb 0) := by rw [c2e]; rfl
    refine z_aload_n hx dX6_addItem_82 rfl 0 rfl ?_
    refine z_get hx dX6_addItem_83 fl_X6_12 d0 rfl ?_
    refine z_aload_n hx dX6_addItem_86 rfl 0 rfl ?_
    refine z_get hx dX6_addItem_87 fl_X6_18 d0 rfl ?_
    refine z_iconst hx dX6_addItem_90 ?_
    refine z_iald hx dX6_addItem_91 d2 (by decide) (by decide) ?_
    refine z_cVJ (as := [.int (iI (nb 0))]) (rest := []) hx dX6_addItem_92 lk_X6_93 wm_X1_addSheriff wv_X1_addSheriff (rcv_obj hx (And.left d1) rfl) mo_X1_addSheriff (kX1_addSheriff g (F := F) (f := f) (ce9 := (nb 0)) d1 hR hI  (show f 38 < 3 by omega)) (by decide) rfl rfl (Nat.le_of_ble_eq_true rfl) (fun h_52 q_53 => ?_)
    obtain ⟨F_56, hC_54, hR_57, hf_55⟩ := q_53
    obtain ⟨f_59, ef_59⟩ : ∃ G : Int → Int, G = ash f (nb 0) := ⟨_, rfl⟩
    rw [← ef_59] at hR_57
    have iv_60 := And.intro (inv_ash hI (c := (nb 0)) (by omega) (by omega)) True.intro
    rw [← ef_59] at iv_60
    have h_61 := hf_55.at (by omega) d0
    have h_62 := hf_55.at (by omega) d2
    have fr_63 : Fr h h_52 rd 12 := hf_55.wd (by omega) (by omega)
    refine z_pop hx dX6_addItem_95 rfl ?_
    refine z_goto (tgt := 121) hx dX6_addItem_96 (by decide) ?_
    refine z_aload_n hx dX6_addItem_121 rfl 0 rfl ?_
    refine z_dup hx dX6_addItem_122 rfl ?_
    refine z_get hx dX6_addItem_123 fl_X6_22 h_61 rfl ?_
    refine z_iconst hx dX6_addItem_126 ?_
    refine z_iadd hx dX6_addItem_127 ?_
    refine z_putQ hx dX6_addItem_128 fl_X6_22 h_61 ⟨rfl, rfl⟩ (Nat.le_of_ble_eq_true rfl) (fun h_64 hs_65 hf_66 => ?_)
    have h_67 := CM.fr hC_54 hf_66 (by omega)
    have h_68 := hf_66.at (by omega) h_62
    have fr_69 := fr_63.tr (hf_66.wd (by omega) (by omega))
    refine z_aload_n hx dX6_addItem_131 rfl 0 rfl ?_
    refine z_iconst hx dX6_addItem_132 ?_
    refine z_putQ hx dX6_addItem_133 fl_X6_26 hs_65 ⟨rfl, rfl⟩ (Nat.le_of_ble_eq_true rfl) (fun h_70 hs_71 hf_72 => ?_)
    have h_73 := CM.fr h_67 hf_72 (by omega)
    have h_74 := hf_72.at (by omega) h_68
    have fr_75 := fr_69.tr (hf_72.wd (by omega) (by omega))
    refine z_vret hx hr dX6_addItem_136 rfl (q_v (Q := (fun h' => ∃ F', DM h' rd F' nb (c1 + 1) (-1) c3 ∧ RLC F' (ad9 c2 nb f) ∧ Fr h h' rd 12)) ⟨_, ⟨hs_71, h_73, h_74⟩, (by rw [eA]; rw [← ef_59]; exact hR_57), fr_75⟩)
  by_cases c_76 : c2 = 4
  ·
    refine z_tblIn (off := 95) (tgt := 99) hx dX6_addItem_4 (by omega) 4 c_76 (by decide) rfl (by decide) ?_
    have c2e : c2 = 4 := by assumption
    have v0 := hv 0 (by decide) (by rw [c2e]; decide)
    rw [c2e] at v0
    have v1 := hv 1 (by decide) (by rw [c2e]; decide)
    rw [c2e] at v1
    have w0 : 0 ≤ nb 0 ∧ nb 0 ≤ f 26 - 1 := v0
    have w1 : 0 ≤ nb 1 ∧ nb 1 ≤ 40 := v1
    have eA : ad9 c2 nb f = fup f (6 + nb 0) (nb 1) := by rw [c2e]; rfl
    refine z_aload_n hx dX6_addItem_99 rfl 0 rfl ?_
    refine z_get hx dX6_addItem_100 fl_X6_12 d0 rfl ?_
    refine z_aload_n hx dX6_addItem_103 rfl 0 rfl ?_
    refine z_get hx dX6_addItem_104 fl_X6_18 d0 rfl ?_
    refine z_iconst hx dX6_addItem_107 ?_
    refine z_iald hx dX6_addItem_108 d2 (by decide) (by decide) ?_
    refine z_aload_n hx dX6_addItem_109 rfl 0 rfl ?_
    refine z_get hx dX6_addItem_110 fl_X6_18 d0 rfl ?_
    refine z_iconst hx dX6_addItem_113 ?_
    refine z_iald hx dX6_addItem_114 d2 (by decide) (by decide) ?_
    refine z_cVV (as := [.int (iI (nb 0)), .int (iI (nb 1))]) (rest := []) hx dX6_addItem_115 lk_X6_96 wm_X1_setWear wv_X1_setWear (rcv_obj hx (And.left d1) rfl) mo_X1_setWear (kX1_setWear g (F := F) (k := (nb 0)) (w := (nb 1)) d1 (show 0 ≤ (nb 0) ∧ (nb 0) < F 0 0 ∧ F 0 0 ≤ 5 by omega)) (by decide) rfl rfl (Nat.le_of_ble_eq_true rfl) (fun h_77 q_78 => ?_)
    obtain ⟨hC_79, hf_80⟩ := q_78
    obtain ⟨F_81, eF_81⟩ : ∃ G : Nat → Int → Int, G = sst F 4 (fup (F 4) (nb 0) (nb 1)) := ⟨_, rfl⟩
    rw [← eF_81] at hC_79
    have h_82 := hf_80.at (by omega) d0
    have h_83 := hf_80.at (by omega) d2
    have fr_84 : Fr h h_77 rd 12 := hf_80.wd (by omega) (by omega)
    have hRw : RLC F_81 (fup f (6 + nb 0) (nb 1)) := by rw [eF_81]; exact RLC_we hR hn (by omega)
    refine z_goto (tgt := 121) hx dX6_addItem_118 (by decide) ?_
    refine z_aload_n hx dX6_addItem_121 rfl 0 rfl ?_
    refine z_dup hx dX6_addItem_122 rfl ?_
    refine z_get hx dX6_addItem_123 fl_X6_22 h_82 rfl ?_
    refine z_iconst hx dX6_addItem_126 ?_
    refine z_iadd hx dX6_addItem_127 ?_
    refine z_putQ hx dX6_addItem_128 fl_X6_22 h_82 ⟨rfl, rfl⟩ (Nat.le_of_ble_eq_true rfl) (fun h_85 hs_86 hf_87 => ?_)
    have h_88 := CM.fr hC_79 hf_87 (by omega)
    have h_89 := hf_87.at (by omega) h_83
    have fr_90 := fr_84.tr (hf_87.wd (by omega) (by omega))
    refine z_aload_n hx dX6_addItem_131 rfl 0 rfl ?_
    refine z_iconst hx dX6_addItem_132 ?_
    refine z_putQ hx dX6_addItem_133 fl_X6_26 hs_86 ⟨rfl, rfl⟩ (Nat.le_of_ble_eq_true rfl) (fun h_91 hs_92 hf_93 => ?_)
    have h_94 := CM.fr h_88 hf_93 (by omega)
    have h_95 := hf_93.at (by omega) h_89
    have fr_96 := fr_90.tr (hf_93.wd (by omega) (by omega))
    refine z_vret hx hr dX6_addItem_136 rfl (q_v (Q := (fun h' => ∃ F', DM h' rd F' nb (c1 + 1) (-1) c3 ∧ RLC F' (ad9 c2 nb f) ∧ Fr h h' rd 12)) ⟨_, ⟨hs_92, h_94, h_95⟩, (by rw [eA]; exact hRw), fr_96⟩)
  refine z_tblOut (tgt := 121) hx dX6_addItem_4 (by omega) (by omega) (by decide) ?_
  have c2e : c2 = 0 := by omega
  have eA : ad9 c2 nb f = f := by rw [c2e]; rfl
  refine z_aload_n hx dX6_addItem_121 rfl 0 rfl ?_
  refine z_dup hx dX6_addItem_122 rfl ?_
  refine z_get hx dX6_addItem_123 fl_X6_22 d0 rfl ?_
  refine z_iconst hx dX6_addItem_126 ?_
  refine z_iadd hx dX6_addItem_127 ?_
  refine z_putQ hx dX6_addItem_128 fl_X6_22 d0 ⟨rfl, rfl⟩ (Nat.le_of_ble_eq_true rfl) (fun h_97 hs_98 hf_99 => ?_)
  have h_100 := CM.fr d1 hf_99 (by omega)
  have h_101 := hf_99.at (by omega) d2
  have fr_102 : Fr h h_97 rd 12 := hf_99.wd (by omega) (by omega)
  refine z_aload_n hx dX6_addItem_131 rfl 0 rfl ?_
  refine z_iconst hx dX6_addItem_132 ?_
  refine z_putQ hx dX6_addItem_133 fl_X6_26 hs_98 ⟨rfl, rfl⟩ (Nat.le_of_ble_eq_true rfl) (fun h_103 hs_104 hf_105 => ?_)
  have h_106 := CM.fr h_100 hf_105 (by omega)
  have h_107 := hf_105.at (by omega) h_101
  have fr_108 := fr_102.tr (hf_105.wd (by omega) (by omega))
  refine z_vret hx hr dX6_addItem_136 rfl (q_v (Q := (fun h' => ∃ F', DM h' rd F' nb (c1 + 1) (-1) c3 ∧ RLC F' (ad9 c2 nb f) ∧ Fr h h' rd 12)) ⟨_, ⟨hs_104, h_106, h_107⟩, (by rw [eA]; exact hR), fr_108⟩)

