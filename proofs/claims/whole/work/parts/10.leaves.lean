/-! leaves: static methods of numbers -/
set_option maxHeartbeats 4000000 in
set_option maxRecDepth 20000 in
theorem kX8_isIn (g : Gt) {a : Int} {b : Int} {c : Int} {h : AH} (ha : rgI a) (hb : rgI b) (hc : rgI c) : CnI g mX8_isIn 1 [.int (iI a), .int (iI b), .int (iI c)] h (b2i (b ≤ a ∧ a ≤ c)) := by
  refine Cn.mk (by decide +kernel) (Nat.le_of_ble_eq_true rfl) ?_
  intro x sz hx hr
  show Zj g x (sz, 0, 0) h 0 [(0, .int (iI a)), (1, .int (iI b)), (2, .int (iI c))] []
  refine z_iload_n hx dX8_isIn_0 rfl 0 rfl ?_
  refine z_iload_n hx dX8_isIn_1 rfl 1 rfl ?_
  refine z_icmp_lt (tgt := 14) hx dX8_isIn_2 (by decide) (by omega) (by omega) (fun c_1 => ?_) (fun c_1 => ?_)
  ·
    refine z_iconst hx dX8_isIn_14 ?_
    refine z_iret hx hr dX8_isIn_15 rfl rfl (q_i (by unfold b2i; split <;> omega))
  ·
    refine z_iload_n hx dX8_isIn_5 rfl 0 rfl ?_
    refine z_iload_n hx dX8_isIn_6 rfl 2 rfl ?_
    refine z_icmp_gt (tgt := 14) hx dX8_isIn_7 (by decide) (by omega) (by omega) (fun c_2 => ?_) (fun c_2 => ?_)
    ·
      refine z_iconst hx dX8_isIn_14 ?_
      refine z_iret hx hr dX8_isIn_15 rfl rfl (q_i (by unfold b2i; split <;> omega))
    ·
      refine z_iconst hx dX8_isIn_10 ?_
      refine z_goto (tgt := 15) hx dX8_isIn_11 (by decide) ?_
      refine z_iret hx hr dX8_isIn_15 rfl rfl (q_i (by unfold b2i; split <;> omega))

set_option maxHeartbeats 4000000 in
set_option maxRecDepth 20000 in
theorem kX9_in (g : Gt) {a : Int} {b : Int} {c : Int} {h : AH} (ha : rgI a) (hb : rgI b) (hc : rgI c) : CnI g mX9_in 1 [.int (iI a), .int (iI b), .int (iI c)] h (b2i (b ≤ a ∧ a ≤ c)) := by
  refine Cn.mk (by decide +kernel) (Nat.le_of_ble_eq_true rfl) ?_
  intro x sz hx hr
  show Zj g x (sz, 0, 0) h 0 [(0, .int (iI a)), (1, .int (iI b)), (2, .int (iI c))] []
  refine z_iload_n hx dX9_in_0 rfl 0 rfl ?_
  refine z_iload_n hx dX9_in_1 rfl 1 rfl ?_
  refine z_icmp_lt (tgt := 14) hx dX9_in_2 (by decide) (by omega) (by omega) (fun c_1 => ?_) (fun c_1 => ?_)
  ·
    refine z_iconst hx dX9_in_14 ?_
    refine z_iret hx hr dX9_in_15 rfl rfl (q_i (by unfold b2i; split <;> omega))
  ·
    refine z_iload_n hx dX9_in_5 rfl 0 rfl ?_
    refine z_iload_n hx dX9_in_6 rfl 2 rfl ?_
    refine z_icmp_gt (tgt := 14) hx dX9_in_7 (by decide) (by omega) (by omega) (fun c_2 => ?_) (fun c_2 => ?_)
    ·
      refine z_iconst hx dX9_in_14 ?_
      refine z_iret hx hr dX9_in_15 rfl rfl (q_i (by unfold b2i; split <;> omega))
    ·
      refine z_iconst hx dX9_in_10 ?_
      refine z_goto (tgt := 15) hx dX9_in_11 (by decide) ?_
      refine z_iret hx hr dX9_in_15 rfl rfl (q_i (by unfold b2i; split <;> omega))

set_option maxHeartbeats 4000000 in
set_option maxRecDepth 20000 in
theorem kX9_away (g : Gt) {a : Int} {h : AH} (ha : -2147483647 ≤ a ∧ a < 2147483648) : CnI g mX9_away 1 [.int (iI a)] h (ab a) := by
  refine Cn.mk (by decide +kernel) (Nat.le_of_ble_eq_true rfl) ?_
  intro x sz hx hr
  show Zj g x (sz, 0, 0) h 0 [(0, .int (iI a))] []
  refine z_iload_n hx dX9_away_0 rfl 0 rfl ?_
  refine z_if_ge (tgt := 9) hx dX9_away_1 (by decide) (by omega) (fun c_1 => ?_) (fun c_1 => ?_)
  ·
    refine z_iload_n hx dX9_away_9 rfl 0 rfl ?_
    refine z_iret hx hr dX9_away_10 rfl rfl (q_i (by unfold ab; split <;> omega))
  ·
    refine z_iload_n hx dX9_away_4 rfl 0 rfl ?_
    refine z_ineg hx dX9_away_5 ?_
    refine z_goto (tgt := 10) hx dX9_away_6 (by decide) ?_
    refine z_iret hx hr dX9_away_10 rfl rfl (q_i (by unfold ab; split <;> omega))

set_option maxHeartbeats 4000000 in
set_option maxRecDepth 20000 in
theorem kX0_far (g : Gt) {a : Int} {b : Int} {h : AH} (ha : 0 ≤ a ∧ a < 24) (hb : 0 ≤ b ∧ b < 24) : CnI g mX0_far 2 [.int (iI a), .int (iI b)] h (far a b) := by
  refine Cn.mk (by decide +kernel) (Nat.le_of_ble_eq_true rfl) ?_
  intro x sz hx hr
  show Zj g x (sz, 0, 0) h 0 [(0, .int (iI a)), (1, .int (iI b))] []
  refine z_iload_n hx dX0_far_0 rfl 0 rfl ?_
  refine z_bipush hx dX0_far_1 (by decide) ?_
  refine z_idiv hx dX0_far_3 (by omega) (by decide) ?_
  refine z_iload_n hx dX0_far_4 rfl 1 rfl ?_
  refine z_bipush hx dX0_far_5 (by decide) ?_
  refine z_idiv hx dX0_far_7 (by omega) (by decide) ?_
  refine z_isub hx dX0_far_8 ?_
  refine z_mabs hx dX0_far_9 wk_X0_9 (by omega) (by decide) (Nat.le_of_ble_eq_true rfl) ?_
  have f_1 := ab_c ((a / 6) - (b / 6))
  refine z_iload_n hx dX0_far_12 rfl 0 rfl ?_
  refine z_bipush hx dX0_far_13 (by decide) ?_
  refine z_irem hx dX0_far_15 (by omega) (by decide) ?_
  refine z_iload_n hx dX0_far_16 rfl 1 rfl ?_
  refine z_bipush hx dX0_far_17 (by decide) ?_
  refine z_irem hx dX0_far_19 (by omega) (by decide) ?_
  refine z_isub hx dX0_far_20 ?_
  refine z_mabs hx dX0_far_21 wk_X0_9 (by omega) (by decide) (Nat.le_of_ble_eq_true rfl) ?_
  have f_2 := ab_c ((a % 6) - (b % 6))
  refine z_iadd hx dX0_far_24 ?_
  refine z_iret hx hr dX0_far_25 rfl rfl (q_i (by rfl))

set_option maxHeartbeats 4000000 in
set_option maxRecDepth 20000 in
theorem kX9_far (g : Gt) {a : Int} {b : Int} {h : AH} (ha : 0 ≤ a ∧ a < 24) (hb : 0 ≤ b ∧ b < 24) : CnI g mX9_far 2 [.int (iI a), .int (iI b)] h (far a b) := by
  refine Cn.mk (by decide +kernel) (Nat.le_of_ble_eq_true rfl) ?_
  intro x sz hx hr
  show Zj g x (sz, 0, 0) h 0 [(0, .int (iI a)), (1, .int (iI b))] []
  refine z_iload_n hx dX9_far_0 rfl 0 rfl ?_
  refine z_bipush hx dX9_far_1 (by decide) ?_
  refine z_idiv hx dX9_far_3 (by omega) (by decide) ?_
  refine z_iload_n hx dX9_far_4 rfl 1 rfl ?_
  refine z_bipush hx dX9_far_5 (by decide) ?_
  refine z_idiv hx dX9_far_7 (by omega) (by decide) ?_
  refine z_isub hx dX9_far_8 ?_
  refine z_cSI (as := [.int (iI ((a / 6) - (b / 6)))]) (rest := []) hx dX9_far_9 lk_X9_146 wt_X9_away mo_X9_away (kX9_away g (a := ((a / 6) - (b / 6))) (by omega)) (by decide) rfl rfl (Nat.le_of_ble_eq_true rfl) ?_
  have f_1 := ab_c ((a / 6) - (b / 6))
  refine z_iload_n hx dX9_far_12 rfl 0 rfl ?_
  refine z_bipush hx dX9_far_13 (by decide) ?_
  refine z_irem hx dX9_far_15 (by omega) (by decide) ?_
  refine z_iload_n hx dX9_far_16 rfl 1 rfl ?_
  refine z_bipush hx dX9_far_17 (by decide) ?_
  refine z_irem hx dX9_far_19 (by omega) (by decide) ?_
  refine z_isub hx dX9_far_20 ?_
  refine z_cSI (as := [.int (iI ((a % 6) - (b % 6)))]) (rest := [.int (iI (ab ((a / 6) - (b / 6))))]) hx dX9_far_21 lk_X9_146 wt_X9_away mo_X9_away (kX9_away g (a := ((a % 6) - (b % 6))) (by omega)) (by decide) rfl rfl (Nat.le_of_ble_eq_true rfl) ?_
  have f_2 := ab_c ((a % 6) - (b % 6))
  refine z_iadd hx dX9_far_24 ?_
  refine z_iret hx hr dX9_far_25 rfl rfl (q_i (by rfl))

set_option maxHeartbeats 4000000 in
set_option maxRecDepth 20000 in
theorem kX9_step (g : Gt) {a : Int} {b : Int} {h : AH} (ha : 0 ≤ a ∧ a < 24) (hb : 0 ≤ b ∧ b < 24) : CnI g mX9_step 2 [.int (iI a), .int (iI b)] h (stp a b) := by
  refine Cn.mk (by decide +kernel) (Nat.le_of_ble_eq_true rfl) ?_
  intro x sz hx hr
  show Zj g x (sz, 0, 0) h 0 [(0, .int (iI a)), (1, .int (iI b))] []
  refine z_iload_n hx dX9_step_0 rfl 1 rfl ?_
  refine z_bipush hx dX9_step_1 (by decide) ?_
  refine z_idiv hx dX9_step_3 (by omega) (by decide) ?_
  refine z_iload_n hx dX9_step_4 rfl 0 rfl ?_
  refine z_bipush hx dX9_step_5 (by decide) ?_
  refine z_idiv hx dX9_step_7 (by omega) (by decide) ?_
  refine z_isub hx dX9_step_8 ?_
  refine z_istore_n hx dX9_step_9 rfl (by decide) [1, 2, 0] (lv' := [(0, .int (iI a)), (1, .int (iI b)), (2, .int (iI ((b / 6) - (a / 6))))]) rfl ?_
  refine z_iload_n hx dX9_step_10 rfl 1 rfl ?_
  refine z_bipush hx dX9_step_11 (by decide) ?_
  refine z_irem hx dX9_step_13 (by omega) (by decide) ?_
  refine z_iload_n hx dX9_step_14 rfl 0 rfl ?_
  refine z_bipush hx dX9_step_15 (by decide) ?_
  refine z_irem hx dX9_step_17 (by omega) (by decide) ?_
  refine z_isub hx dX9_step_18 ?_
  refine z_istore_n hx dX9_step_19 rfl (by decide) [1, 2, 3, 0] (lv' := [(0, .int (iI a)), (1, .int (iI b)), (2, .int (iI ((b / 6) - (a / 6)))), (3, .int (iI ((b % 6) - (a % 6))))]) rfl ?_
  refine z_iload_n hx dX9_step_20 rfl 2 rfl ?_
  refine z_if_ne (tgt := 30) hx dX9_step_21 (by decide) (by omega) (fun c_1 => ?_) (fun c_1 => ?_)
  ·
    refine z_iload_n hx dX9_step_30 rfl 3 rfl ?_
    refine z_cSI (as := [.int (iI ((b % 6) - (a % 6)))]) (rest := []) hx dX9_step_31 lk_X9_146 wt_X9_away mo_X9_away (kX9_away g (a := ((b % 6) - (a % 6))) (by omega)) (by decide) rfl rfl (Nat.le_of_ble_eq_true rfl) ?_
    have f_2 := ab_c ((b % 6) - (a % 6))
    refine z_iload_n hx dX9_step_34 rfl 2 rfl ?_
    refine z_cSI (as := [.int (iI ((b / 6) - (a / 6)))]) (rest := [.int (iI (ab ((b % 6) - (a % 6))))]) hx dX9_step_35 lk_X9_146 wt_X9_away mo_X9_away (kX9_away g (a := ((b / 6) - (a / 6))) (by omega)) (by decide) rfl rfl (Nat.le_of_ble_eq_true rfl) ?_
    have f_3 := ab_c ((b / 6) - (a / 6))
    refine z_icmp_lt (tgt := 55) hx dX9_step_38 (by decide) (by omega) (by omega) (fun c_4 => ?_) (fun c_4 => ?_)
    ·
      refine z_iload_n hx dX9_step_55 rfl 2 rfl ?_
      refine z_if_le (tgt := 66) hx dX9_step_56 (by decide) (by omega) (fun c_5 => ?_) (fun c_5 => ?_)
      ·
        refine z_iload_n hx dX9_step_66 rfl 0 rfl ?_
        refine z_bipush hx dX9_step_67 (by decide) ?_
        refine z_isub hx dX9_step_69 ?_
        refine z_iret hx hr dX9_step_70 rfl rfl (q_i (by unfold stp; (repeat' split) <;> omega))
      ·
        refine z_iload_n hx dX9_step_59 rfl 0 rfl ?_
        refine z_bipush hx dX9_step_60 (by decide) ?_
        refine z_iadd hx dX9_step_62 ?_
        refine z_goto (tgt := 70) hx dX9_step_63 (by decide) ?_
        refine z_iret hx hr dX9_step_70 rfl rfl (q_i (by unfold stp; (repeat' split) <;> omega))
    ·
      refine z_iload_n hx dX9_step_41 rfl 3 rfl ?_
      refine z_if_le (tgt := 51) hx dX9_step_42 (by decide) (by omega) (fun c_6 => ?_) (fun c_6 => ?_)
      ·
        refine z_iload_n hx dX9_step_51 rfl 0 rfl ?_
        refine z_iconst hx dX9_step_52 ?_
        refine z_isub hx dX9_step_53 ?_
        refine z_iret hx hr dX9_step_54 rfl rfl (q_i (by unfold stp; (repeat' split) <;> omega))
      ·
        refine z_iload_n hx dX9_step_45 rfl 0 rfl ?_
        refine z_iconst hx dX9_step_46 ?_
        refine z_iadd hx dX9_step_47 ?_
        refine z_goto (tgt := 54) hx dX9_step_48 (by decide) ?_
        refine z_iret hx hr dX9_step_54 rfl rfl (q_i (by unfold stp; (repeat' split) <;> omega))
  ·
    refine z_iload_n hx dX9_step_24 rfl 3 rfl ?_
    refine z_if_ne (tgt := 30) hx dX9_step_25 (by decide) (by omega) (fun c_7 => ?_) (fun c_7 => ?_)
    ·
      refine z_iload_n hx dX9_step_30 rfl 3 rfl ?_
      refine z_cSI (as := [.int (iI ((b % 6) - (a % 6)))]) (rest := []) hx dX9_step_31 lk_X9_146 wt_X9_away mo_X9_away (kX9_away g (a := ((b % 6) - (a % 6))) (by omega)) (by decide) rfl rfl (Nat.le_of_ble_eq_true rfl) ?_
      have f_8 := ab_c ((b % 6) - (a % 6))
      refine z_iload_n hx dX9_step_34 rfl 2 rfl ?_
      refine z_cSI (as := [.int (iI ((b / 6) - (a / 6)))]) (rest := [.int (iI (ab ((b % 6) - (a % 6))))]) hx dX9_step_35 lk_X9_146 wt_X9_away mo_X9_away (kX9_away g (a := ((b / 6) - (a / 6))) (by omega)) (by decide) rfl rfl (Nat.le_of_ble_eq_true rfl) ?_
      have f_9 := ab_c ((b / 6) - (a / 6))
      refine z_icmp_lt (tgt := 55) hx dX9_step_38 (by decide) (by omega) (by omega) (fun c_10 => ?_) (fun c_10 => ?_)
      ·
        refine z_iload_n hx dX9_step_55 rfl 2 rfl ?_
        refine z_if_le (tgt := 66) hx dX9_step_56 (by decide) (by omega) (fun c_11 => ?_) (fun c_11 => ?_)
        ·
          refine z_iload_n hx dX9_step_66 rfl 0 rfl ?_
          refine z_bipush hx dX9_step_67 (by decide) ?_
          refine z_isub hx dX9_step_69 ?_
          refine z_iret hx hr dX9_step_70 rfl rfl (q_i (by unfold stp; (repeat' split) <;> omega))
        ·
          refine z_iload_n hx dX9_step_59 rfl 0 rfl ?_
          refine z_bipush hx dX9_step_60 (by decide) ?_
          refine z_iadd hx dX9_step_62 ?_
          refine z_goto (tgt := 70) hx dX9_step_63 (by decide) ?_
          refine z_iret hx hr dX9_step_70 rfl rfl (q_i (by unfold stp; (repeat' split) <;> omega))
      ·
        refine z_iload_n hx dX9_step_41 rfl 3 rfl ?_
        refine z_if_le (tgt := 51) hx dX9_step_42 (by decide) (by omega) (fun c_12 => ?_) (fun c_12 => ?_)
        ·
          refine z_iload_n hx dX9_step_51 rfl 0 rfl ?_
          refine z_iconst hx dX9_step_52 ?_
          refine z_isub hx dX9_step_53 ?_
          refine z_iret hx hr dX9_step_54 rfl rfl (q_i (by unfold stp; (repeat' split) <;> omega))
        ·
          refine z_iload_n hx dX9_step_45 rfl 0 rfl ?_
          refine z_iconst hx dX9_step_46 ?_
          refine z_iadd hx dX9_step_47 ?_
          refine z_goto (tgt := 54) hx dX9_step_48 (by decide) ?_
          refine z_iret hx hr dX9_step_54 rfl rfl (q_i (by unfold stp; (repeat' split) <;> omega))
    ·
      refine z_iload_n hx dX9_step_28 rfl 0 rfl ?_
      refine z_iret hx hr dX9_step_29 rfl rfl (q_i (by unfold stp; (repeat' split) <;> omega))

set_option maxHeartbeats 4000000 in
set_option maxRecDepth 20000 in
theorem kX0_step (g : Gt) {a : Int} {b : Int} {h : AH} (ha : 0 ≤ a ∧ a < 24) (hb : 0 ≤ b ∧ b < 24) : CnI g mX0_step 2 [.int (iI a), .int (iI b)] h (stp a b) := by
  refine Cn.mk (by decide +kernel) (Nat.le_of_ble_eq_true rfl) ?_
  intro x sz hx hr
  show Zj g x (sz, 0, 0) h 0 [(0, .int (iI a)), (1, .int (iI b))] []
  refine z_iload_n hx dX0_step_0 rfl 1 rfl ?_
  refine z_bipush hx dX0_step_1 (by decide) ?_
  refine z_irem hx dX0_step_3 (by omega) (by decide) ?_
  refine z_iload_n hx dX0_step_4 rfl 0 rfl ?_
  refine z_bipush hx dX0_step_5 (by decide) ?_
  refine z_irem hx dX0_step_7 (by omega) (by decide) ?_
  refine z_isub hx dX0_step_8 ?_
  refine z_istore_n hx dX0_step_9 rfl (by decide) [1, 2, 0] (lv' := [(0, .int (iI a)), (1, .int (iI b)), (2, .int (iI ((b % 6) - (a % 6))))]) rfl ?_
  refine z_iload_n hx dX0_step_10 rfl 1 rfl ?_
  refine z_bipush hx dX0_step_11 (by decide) ?_
  refine z_idiv hx dX0_step_13 (by omega) (by decide) ?_
  refine z_iload_n hx dX0_step_14 rfl 0 rfl ?_
  refine z_bipush hx dX0_step_15 (by decide) ?_
  refine z_idiv hx dX0_step_17 (by omega) (by decide) ?_
  refine z_isub hx dX0_step_18 ?_
  refine z_istore_n hx dX0_step_19 rfl (by decide) [1, 2, 3, 0] (lv' := [(0, .int (iI a)), (1, .int (iI b)), (2, .int (iI ((b % 6) - (a % 6)))), (3, .int (iI ((b / 6) - (a / 6))))]) rfl ?_
  refine z_iload_n hx dX0_step_20 rfl 2 rfl ?_
  refine z_if_ne (tgt := 30) hx dX0_step_21 (by decide) (by omega) (fun c_1 => ?_) (fun c_1 => ?_)
  ·
    refine z_iload_n hx dX0_step_30 rfl 2 rfl ?_
    refine z_mabs hx dX0_step_31 wk_X0_9 (by omega) (by decide) (Nat.le_of_ble_eq_true rfl) ?_
    have f_2 := ab_c ((b % 6) - (a % 6))
    refine z_iload_n hx dX0_step_34 rfl 3 rfl ?_
    refine z_mabs hx dX0_step_35 wk_X0_9 (by omega) (by decide) (Nat.le_of_ble_eq_true rfl) ?_
    have f_3 := ab_c ((b / 6) - (a / 6))
    refine z_icmp_lt (tgt := 55) hx dX0_step_38 (by decide) (by omega) (by omega) (fun c_4 => ?_) (fun c_4 => ?_)
    ·
      refine z_iload_n hx dX0_step_55 rfl 3 rfl ?_
      refine z_if_le (tgt := 66) hx dX0_step_56 (by decide) (by omega) (fun c_5 => ?_) (fun c_5 => ?_)
      ·
        refine z_iload_n hx dX0_step_66 rfl 0 rfl ?_
        refine z_bipush hx dX0_step_67 (by decide) ?_
        refine z_isub hx dX0_step_69 ?_
        refine z_iret hx hr dX0_step_70 rfl rfl (q_i (by unfold stp; (repeat' split) <;> omega))
      ·
        refine z_iload_n hx dX0_step_59 rfl 0 rfl ?_
        refine z_bipush hx dX0_step_60 (by decide) ?_
        refine z_iadd hx dX0_step_62 ?_
        refine z_goto (tgt := 70) hx dX0_step_63 (by decide) ?_
        refine z_iret hx hr dX0_step_70 rfl rfl (q_i (by unfold stp; (repeat' split) <;> omega))
    ·
      refine z_iload_n hx dX0_step_41 rfl 2 rfl ?_
      refine z_if_le (tgt := 51) hx dX0_step_42 (by decide) (by omega) (fun c_6 => ?_) (fun c_6 => ?_)
      ·
        refine z_iload_n hx dX0_step_51 rfl 0 rfl ?_
        refine z_iconst hx dX0_step_52 ?_
        refine z_isub hx dX0_step_53 ?_
        refine z_iret hx hr dX0_step_54 rfl rfl (q_i (by unfold stp; (repeat' split) <;> omega))
      ·
        refine z_iload_n hx dX0_step_45 rfl 0 rfl ?_
        refine z_iconst hx dX0_step_46 ?_
        refine z_iadd hx dX0_step_47 ?_
        refine z_goto (tgt := 54) hx dX0_step_48 (by decide) ?_
        refine z_iret hx hr dX0_step_54 rfl rfl (q_i (by unfold stp; (repeat' split) <;> omega))
  ·
    refine z_iload_n hx dX0_step_24 rfl 3 rfl ?_
    refine z_if_ne (tgt := 30) hx dX0_step_25 (by decide) (by omega) (fun c_7 => ?_) (fun c_7 => ?_)
    ·
      refine z_iload_n hx dX0_step_30 rfl 2 rfl ?_
      refine z_mabs hx dX0_step_31 wk_X0_9 (by omega) (by decide) (Nat.le_of_ble_eq_true rfl) ?_
      have f_8 := ab_c ((b % 6) - (a % 6))
      refine z_iload_n hx dX0_step_34 rfl 3 rfl ?_
      refine z_mabs hx dX0_step_35 wk_X0_9 (by omega) (by decide) (Nat.le_of_ble_eq_true rfl) ?_
      have f_9 := ab_c ((b / 6) - (a / 6))
      refine z_icmp_lt (tgt := 55) hx dX0_step_38 (by decide) (by omega) (by omega) (fun c_10 => ?_) (fun c_10 => ?_)
      ·
        refine z_iload_n hx dX0_step_55 rfl 3 rfl ?_
        refine z_if_le (tgt := 66) hx dX0_step_56 (by decide) (by omega) (fun c_11 => ?_) (fun c_11 => ?_)
        ·
          refine z_iload_n hx dX0_step_66 rfl 0 rfl ?_
          refine z_bipush hx dX0_step_67 (by decide) ?_
          refine z_isub hx dX0_step_69 ?_
          refine z_iret hx hr dX0_step_70 rfl rfl (q_i (by unfold stp; (repeat' split) <;> omega))
        ·
          refine z_iload_n hx dX0_step_59 rfl 0 rfl ?_
          refine z_bipush hx dX0_step_60 (by decide) ?_
          refine z_iadd hx dX0_step_62 ?_
          refine z_goto (tgt := 70) hx dX0_step_63 (by decide) ?_
          refine z_iret hx hr dX0_step_70 rfl rfl (q_i (by unfold stp; (repeat' split) <;> omega))
      ·
        refine z_iload_n hx dX0_step_41 rfl 2 rfl ?_
        refine z_if_le (tgt := 51) hx dX0_step_42 (by decide) (by omega) (fun c_12 => ?_) (fun c_12 => ?_)
        ·
          refine z_iload_n hx dX0_step_51 rfl 0 rfl ?_
          refine z_iconst hx dX0_step_52 ?_
          refine z_isub hx dX0_step_53 ?_
          refine z_iret hx hr dX0_step_54 rfl rfl (q_i (by unfold stp; (repeat' split) <;> omega))
        ·
          refine z_iload_n hx dX0_step_45 rfl 0 rfl ?_
          refine z_iconst hx dX0_step_46 ?_
          refine z_iadd hx dX0_step_47 ?_
          refine z_goto (tgt := 54) hx dX0_step_48 (by decide) ?_
          refine z_iret hx hr dX0_step_54 rfl rfl (q_i (by unfold stp; (repeat' split) <;> omega))
    ·
      refine z_iload_n hx dX0_step_28 rfl 0 rfl ?_
      refine z_iret hx hr dX0_step_29 rfl rfl (q_i (by unfold stp; (repeat' split) <;> omega))

set_option maxHeartbeats 4000000 in
set_option maxRecDepth 20000 in
theorem kX0_beside (g : Gt) {a : Int} {b : Int} {h : AH} (ha : 0 ≤ a ∧ a < 24) (hb : rgI b) : CnI g mX0_beside 1 [.int (iI a), .int (iI b)] h (bsd a b) := by
  refine Cn.mk (by decide +kernel) (Nat.le_of_ble_eq_true rfl) ?_
  intro x sz hx hr
  show Zj g x (sz, 0, 0) h 0 [(0, .int (iI a)), (1, .int (iI b))] []
  refine z_iload_n hx dX0_beside_0 rfl 0 rfl ?_
  refine z_bipush hx dX0_beside_1 (by decide) ?_
  refine z_idiv hx dX0_beside_3 (by omega) (by decide) ?_
  refine z_istore_n hx dX0_beside_4 rfl (by decide) [1, 2, 0] (lv' := [(0, .int (iI a)), (1, .int (iI b)), (2, .int (iI (a / 6)))]) rfl ?_
  refine z_iload_n hx dX0_beside_5 rfl 0 rfl ?_
  refine z_bipush hx dX0_beside_6 (by decide) ?_
  refine z_irem hx dX0_beside_8 (by omega) (by decide) ?_
  refine z_istore_n hx dX0_beside_9 rfl (by decide) [1, 2, 3, 0] (lv' := [(0, .int (iI a)), (1, .int (iI b)), (2, .int (iI (a / 6))), (3, .int (iI (a % 6)))]) rfl ?_
  refine z_iload_n hx dX0_beside_10 rfl 1 rfl ?_
  by_cases c_1 : b = 0
  ·
    refine z_tblIn (off := 29) (tgt := 40) hx dX0_beside_11 (by omega) 0 c_1 (by decide) rfl (by decide) ?_
    refine z_iload_n hx dX0_beside_40 rfl 3 rfl ?_
    refine z_iconst hx dX0_beside_41 ?_
    refine z_icmp_ge (tgt := 51) hx dX0_beside_42 (by decide) (by omega) (by decide) (fun c_2 => ?_) (fun c_2 => ?_)
    ·
      refine z_iconst hx dX0_beside_51 ?_
      refine z_iret hx hr dX0_beside_52 rfl rfl (q_i (by unfold bsd; (repeat' split) <;> omega))
    ·
      refine z_iload_n hx dX0_beside_45 rfl 0 rfl ?_
      refine z_iconst hx dX0_beside_46 ?_
      refine z_iadd hx dX0_beside_47 ?_
      refine z_goto (tgt := 52) hx dX0_beside_48 (by decide) ?_
      refine z_iret hx hr dX0_beside_52 rfl rfl (q_i (by unfold bsd; (repeat' split) <;> omega))
  by_cases c_3 : b = 1
  ·
    refine z_tblIn (off := 42) (tgt := 53) hx dX0_beside_11 (by omega) 1 c_3 (by decide) rfl (by decide) ?_
    refine z_iload_n hx dX0_beside_53 rfl 2 rfl ?_
    refine z_iconst hx dX0_beside_54 ?_
    refine z_icmp_ge (tgt := 65) hx dX0_beside_55 (by decide) (by omega) (by decide) (fun c_4 => ?_) (fun c_4 => ?_)
    ·
      refine z_iconst hx dX0_beside_65 ?_
      refine z_iret hx hr dX0_beside_66 rfl rfl (q_i (by unfold bsd; (repeat' split) <;> omega))
    ·
      refine z_iload_n hx dX0_beside_58 rfl 0 rfl ?_
      refine z_bipush hx dX0_beside_59 (by decide) ?_
      refine z_iadd hx dX0_beside_61 ?_
      refine z_goto (tgt := 66) hx dX0_beside_62 (by decide) ?_
      refine z_iret hx hr dX0_beside_66 rfl rfl (q_i (by unfold bsd; (repeat' split) <;> omega))
  by_cases c_5 : b = 2
  ·
    refine z_tblIn (off := 56) (tgt := 67) hx dX0_beside_11 (by omega) 2 c_5 (by decide) rfl (by decide) ?_
    refine z_iload_n hx dX0_beside_67 rfl 3 rfl ?_
    refine z_if_le (tgt := 77) hx dX0_beside_68 (by decide) (by omega) (fun c_6 => ?_) (fun c_6 => ?_)
    ·
      refine z_iconst hx dX0_beside_77 ?_
      refine z_iret hx hr dX0_beside_78 rfl rfl (q_i (by unfold bsd; (repeat' split) <;> omega))
    ·
      refine z_iload_n hx dX0_beside_71 rfl 0 rfl ?_
      refine z_iconst hx dX0_beside_72 ?_
      refine z_isub hx dX0_beside_73 ?_
      refine z_goto (tgt := 78) hx dX0_beside_74 (by decide) ?_
      refine z_iret hx hr dX0_beside_78 rfl rfl (q_i (by unfold bsd; (repeat' split) <;> omega))
  by_cases c_7 : b = 3
  ·
    refine z_tblIn (off := 68) (tgt := 79) hx dX0_beside_11 (by omega) 3 c_7 (by decide) rfl (by decide) ?_
    refine z_iload_n hx dX0_beside_79 rfl 2 rfl ?_
    refine z_if_le (tgt := 90) hx dX0_beside_80 (by decide) (by omega) (fun c_8 => ?_) (fun c_8 => ?_)
    ·
      refine z_iconst hx dX0_beside_90 ?_
      refine z_iret hx hr dX0_beside_91 rfl rfl (q_i (by unfold bsd; (repeat' split) <;> omega))
    ·
      refine z_iload_n hx dX0_beside_83 rfl 0 rfl ?_
      refine z_bipush hx dX0_beside_84 (by decide) ?_
      refine z_isub hx dX0_beside_86 ?_
      refine z_goto (tgt := 91) hx dX0_beside_87 (by decide) ?_
      refine z_iret hx hr dX0_beside_91 rfl rfl (q_i (by unfold bsd; (repeat' split) <;> omega))
  refine z_tblOut (tgt := 92) hx dX0_beside_11 (by omega) (by omega) (by decide) ?_
  refine z_iload_n hx dX0_beside_92 rfl 0 rfl ?_
  refine z_iret hx hr dX0_beside_93 rfl rfl (q_i (by unfold bsd; (repeat' split) <;> omega))

set_option maxHeartbeats 4000000 in
set_option maxRecDepth 20000 in
theorem kX9_holdsBy (g : Gt) {k : Int} {s : Int} {w : Int} {h : AH} (hk : 0 ≤ k ∧ k ≤ 5) (hs : 0 ≤ s ∧ s ≤ 4) (hw : 0 ≤ w ∧ w ≤ 40) : CnI g mX9_holdsBy 1 [.int (iI k), .int (iI s), .int (iI w)] h (hol k s w) := by
  refine Cn.mk (by decide +kernel) (Nat.le_of_ble_eq_true rfl) ?_
  intro x sz hx hr
  show Zj g x (sz, 0, 0) h 0 [(0, .int (iI k)), (1, .int (iI s)), (2, .int (iI w))] []
  refine z_iload_n hx dX9_holdsBy_0 rfl 1 rfl ?_
  refine z_iload_n hx dX9_holdsBy_1 rfl 2 rfl ?_
  refine z_bipush hx dX9_holdsBy_2 (by decide) ?_
  refine z_idiv hx dX9_holdsBy_4 (by omega) (by decide) ?_
  refine z_icmp_le (tgt := 17) hx dX9_holdsBy_5 (by decide) (by omega) (by omega) (fun c_1 => ?_) (fun c_1 => ?_)
  ·
    refine z_iconst hx dX9_holdsBy_17 ?_
    refine z_istore_n hx dX9_holdsBy_18 rfl (by decide) [1, 2, 3, 0] (lv' := [(0, .int (iI k)), (1, .int (iI s)), (2, .int (iI w)), (3, .int (iI 0))]) rfl ?_
    refine z_iload_n hx dX9_holdsBy_19 rfl 1 rfl ?_
    refine z_iload_n hx dX9_holdsBy_20 rfl 2 rfl ?_
    refine z_bipush hx dX9_holdsBy_21 (by decide) ?_
    refine z_idiv hx dX9_holdsBy_23 (by omega) (by decide) ?_
    refine z_icmp_le (tgt := 36) hx dX9_holdsBy_24 (by decide) (by omega) (by omega) (fun c_2 => ?_) (fun c_2 => ?_)
    ·
      refine z_iconst hx dX9_holdsBy_36 ?_
      refine z_istore hx dX9_holdsBy_37 (by decide) [1, 2, 3, 4, 0] (lv' := [(0, .int (iI k)), (1, .int (iI s)), (2, .int (iI w)), (3, .int (iI 0)), (4, .int (iI 0))]) rfl ?_
      refine z_iload_n hx dX9_holdsBy_39 rfl 0 rfl ?_
      by_cases c_3 : k = 0
      ·
        refine z_tblIn (off := 36) (tgt := 76) hx dX9_holdsBy_40 (by omega) 0 c_3 (by decide) rfl (by decide) ?_
        refine z_iload_n hx dX9_holdsBy_76 rfl 3 rfl ?_
        refine z_iret hx hr dX9_holdsBy_77 rfl rfl (q_i (by unfold hol pln wol; (repeat' split) <;> omega))
      by_cases c_4 : k = 1
      ·
        refine z_tblIn (off := 38) (tgt := 78) hx dX9_holdsBy_40 (by omega) 1 c_4 (by decide) rfl (by decide) ?_
        refine z_iload_n hx dX9_holdsBy_78 rfl 3 rfl ?_
        refine z_iconst hx dX9_holdsBy_79 ?_
        refine z_iadd hx dX9_holdsBy_80 ?_
        refine z_iret hx hr dX9_holdsBy_81 rfl rfl (q_i (by unfold hol pln wol; (repeat' split) <;> omega))
      by_cases c_5 : k = 2
      ·
        refine z_tblIn (off := 42) (tgt := 82) hx dX9_holdsBy_40 (by omega) 2 c_5 (by decide) rfl (by decide) ?_
        refine z_iload hx dX9_holdsBy_82 4 rfl ?_
        refine z_iret hx hr dX9_holdsBy_84 rfl rfl (q_i (by unfold hol pln wol; (repeat' split) <;> omega))
      by_cases c_6 : k = 3
      ·
        refine z_tblIn (off := 45) (tgt := 85) hx dX9_holdsBy_40 (by omega) 3 c_6 (by decide) rfl (by decide) ?_
        refine z_iconst hx dX9_holdsBy_85 ?_
        refine z_iret hx hr dX9_holdsBy_86 rfl rfl (q_i (by unfold hol pln wol; (repeat' split) <;> omega))
      by_cases c_7 : k = 4
      ·
        refine z_tblIn (off := 47) (tgt := 87) hx dX9_holdsBy_40 (by omega) 4 c_7 (by decide) rfl (by decide) ?_
        refine z_iload_n hx dX9_holdsBy_87 rfl 2 rfl ?_
        refine z_if_ne (tgt := 97) hx dX9_holdsBy_88 (by decide) (by omega) (fun c_8 => ?_) (fun c_8 => ?_)
        ·
          refine z_iload_n hx dX9_holdsBy_97 rfl 3 rfl ?_
          refine z_iconst hx dX9_holdsBy_98 ?_
          refine z_iadd hx dX9_holdsBy_99 ?_
          refine z_iret hx hr dX9_holdsBy_100 rfl rfl (q_i (by unfold hol pln wol; (repeat' split) <;> omega))
        ·
          refine z_iload_n hx dX9_holdsBy_91 rfl 3 rfl ?_
          refine z_iconst hx dX9_holdsBy_92 ?_
          refine z_iadd hx dX9_holdsBy_93 ?_
          refine z_goto (tgt := 100) hx dX9_holdsBy_94 (by decide) ?_
          refine z_iret hx hr dX9_holdsBy_100 rfl rfl (q_i (by unfold hol pln wol; (repeat' split) <;> omega))
      refine z_tblOut (tgt := 101) hx dX9_holdsBy_40 (by omega) (by omega) (by decide) ?_
      refine z_iload hx dX9_holdsBy_101 4 rfl ?_
      refine z_if_le (tgt := 113) hx dX9_holdsBy_103 (by decide) (by decide) (fun _ => ?_) (fun q => absurd q (by decide))
      refine z_iconst hx dX9_holdsBy_113 ?_
      refine z_iret hx hr dX9_holdsBy_114 rfl rfl (q_i (by unfold hol pln wol; (repeat' split) <;> omega))
    ·
      refine z_iload_n hx dX9_holdsBy_27 rfl 1 rfl ?_
      refine z_iload_n hx dX9_holdsBy_28 rfl 2 rfl ?_
      refine z_bipush hx dX9_holdsBy_29 (by decide) ?_
      refine z_idiv hx dX9_holdsBy_31 (by omega) (by decide) ?_
      refine z_isub hx dX9_holdsBy_32 ?_
      refine z_goto (tgt := 37) hx dX9_holdsBy_33 (by decide) ?_
      refine z_istore hx dX9_holdsBy_37 (by decide) [1, 2, 3, 4, 0] (lv' := [(0, .int (iI k)), (1, .int (iI s)), (2, .int (iI w)), (3, .int (iI 0)), (4, .int (iI (s - (w / 20))))]) rfl ?_
      refine z_iload_n hx dX9_holdsBy_39 rfl 0 rfl ?_
      by_cases c_10 : k = 0
      ·
        refine z_tblIn (off := 36) (tgt := 76) hx dX9_holdsBy_40 (by omega) 0 c_10 (by decide) rfl (by decide) ?_
        refine z_iload_n hx dX9_holdsBy_76 rfl 3 rfl ?_
        refine z_iret hx hr dX9_holdsBy_77 rfl rfl (q_i (by unfold hol pln wol; (repeat' split) <;> omega))
      by_cases c_11 : k = 1
      ·
        refine z_tblIn (off := 38) (tgt := 78) hx dX9_holdsBy_40 (by omega) 1 c_11 (by decide) rfl (by decide) ?_
        refine z_iload_n hx dX9_holdsBy_78 rfl 3 rfl ?_
        refine z_iconst hx dX9_holdsBy_79 ?_
        refine z_iadd hx dX9_holdsBy_80 ?_
        refine z_iret hx hr dX9_holdsBy_81 rfl rfl (q_i (by unfold hol pln wol; (repeat' split) <;> omega))
      by_cases c_12 : k = 2
      ·
        refine z_tblIn (off := 42) (tgt := 82) hx dX9_holdsBy_40 (by omega) 2 c_12 (by decide) rfl (by decide) ?_
        refine z_iload hx dX9_holdsBy_82 4 rfl ?_
        refine z_iret hx hr dX9_holdsBy_84 rfl rfl (q_i (by unfold hol pln wol; (repeat' split) <;> omega))
      by_cases c_13 : k = 3
      ·
        refine z_tblIn (off := 45) (tgt := 85) hx dX9_holdsBy_40 (by omega) 3 c_13 (by decide) rfl (by decide) ?_
        refine z_iconst hx dX9_holdsBy_85 ?_
        refine z_iret hx hr dX9_holdsBy_86 rfl rfl (q_i (by unfold hol pln wol; (repeat' split) <;> omega))
      by_cases c_14 : k = 4
      ·
        refine z_tblIn (off := 47) (tgt := 87) hx dX9_holdsBy_40 (by omega) 4 c_14 (by decide) rfl (by decide) ?_
        refine z_iload_n hx dX9_holdsBy_87 rfl 2 rfl ?_
        refine z_if_ne (tgt := 97) hx dX9_holdsBy_88 (by decide) (by omega) (fun c_15 => ?_) (fun c_15 => ?_)
        ·
          refine z_iload_n hx dX9_holdsBy_97 rfl 3 rfl ?_
          refine z_iconst hx dX9_holdsBy_98 ?_
          refine z_iadd hx dX9_holdsBy_99 ?_
          refine z_iret hx hr dX9_holdsBy_100 rfl rfl (q_i (by unfold hol pln wol; (repeat' split) <;> omega))
        ·
          refine z_iload_n hx dX9_holdsBy_91 rfl 3 rfl ?_
          refine z_iconst hx dX9_holdsBy_92 ?_
          refine z_iadd hx dX9_holdsBy_93 ?_
          refine z_goto (tgt := 100) hx dX9_holdsBy_94 (by decide) ?_
          refine z_iret hx hr dX9_holdsBy_100 rfl rfl (q_i (by unfold hol pln wol; (repeat' split) <;> omega))
      refine z_tblOut (tgt := 101) hx dX9_holdsBy_40 (by omega) (by omega) (by decide) ?_
      refine z_iload hx dX9_holdsBy_101 4 rfl ?_
      refine z_if_le (tgt := 113) hx dX9_holdsBy_103 (by decide) (by omega) (fun c_16 => ?_) (fun c_16 => ?_)
      ·
        refine z_iconst hx dX9_holdsBy_113 ?_
        refine z_iret hx hr dX9_holdsBy_114 rfl rfl (q_i (by unfold hol pln wol; (repeat' split) <;> omega))
      ·
        refine z_iload hx dX9_holdsBy_106 4 rfl ?_
        refine z_iconst hx dX9_holdsBy_108 ?_
        refine z_isub hx dX9_holdsBy_109 ?_
        refine z_goto (tgt := 114) hx dX9_holdsBy_110 (by decide) ?_
        refine z_iret hx hr dX9_holdsBy_114 rfl rfl (q_i (by unfold hol pln wol; (repeat' split) <;> omega))
  ·
    refine z_iload_n hx dX9_holdsBy_8 rfl 1 rfl ?_
    refine z_iload_n hx dX9_holdsBy_9 rfl 2 rfl ?_
    refine z_bipush hx dX9_holdsBy_10 (by decide) ?_
    refine z_idiv hx dX9_holdsBy_12 (by omega) (by decide) ?_
    refine z_isub hx dX9_holdsBy_13 ?_
    refine z_goto (tgt := 18) hx dX9_holdsBy_14 (by decide) ?_
    refine z_istore_n hx dX9_holdsBy_18 rfl (by decide) [1, 2, 3, 0] (lv' := [(0, .int (iI k)), (1, .int (iI s)), (2, .int (iI w)), (3, .int (iI (s - (w / 10))))]) rfl ?_
    refine z_iload_n hx dX9_holdsBy_19 rfl 1 rfl ?_
    refine z_iload_n hx dX9_holdsBy_20 rfl 2 rfl ?_
    refine z_bipush hx dX9_holdsBy_21 (by decide) ?_
    refine z_idiv hx dX9_holdsBy_23 (by omega) (by decide) ?_
    refine z_icmp_le (tgt := 36) hx dX9_holdsBy_24 (by decide) (by omega) (by omega) (fun c_17 => ?_) (fun c_17 => ?_)
    ·
      refine z_iconst hx dX9_holdsBy_36 ?_
      refine z_istore hx dX9_holdsBy_37 (by decide) [1, 2, 3, 4, 0] (lv' := [(0, .int (iI k)), (1, .int (iI s)), (2, .int (iI w)), (3, .int (iI (s - (w / 10)))), (4, .int (iI 0))]) rfl ?_
      refine z_iload_n hx dX9_holdsBy_39 rfl 0 rfl ?_
      by_cases c_18 : k = 0
      ·
        refine z_tblIn (off := 36) (tgt := 76) hx dX9_holdsBy_40 (by omega) 0 c_18 (by decide) rfl (by decide) ?_
        refine z_iload_n hx dX9_holdsBy_76 rfl 3 rfl ?_
        refine z_iret hx hr dX9_holdsBy_77 rfl rfl (q_i (by unfold hol pln wol; (repeat' split) <;> omega))
      by_cases c_19 : k = 1
      ·
        refine z_tblIn (off := 38) (tgt := 78) hx dX9_holdsBy_40 (by omega) 1 c_19 (by decide) rfl (by decide) ?_
        refine z_iload_n hx dX9_holdsBy_78 rfl 3 rfl ?_
        refine z_iconst hx dX9_holdsBy_79 ?_
        refine z_iadd hx dX9_holdsBy_80 ?_
        refine z_iret hx hr dX9_holdsBy_81 rfl rfl (q_i (by unfold hol pln wol; (repeat' split) <;> omega))
      by_cases c_20 : k = 2
      ·
        refine z_tblIn (off := 42) (tgt := 82) hx dX9_holdsBy_40 (by omega) 2 c_20 (by decide) rfl (by decide) ?_
        refine z_iload hx dX9_holdsBy_82 4 rfl ?_
        refine z_iret hx hr dX9_holdsBy_84 rfl rfl (q_i (by unfold hol pln wol; (repeat' split) <;> omega))
      by_cases c_21 : k = 3
      ·
        refine z_tblIn (off := 45) (tgt := 85) hx dX9_holdsBy_40 (by omega) 3 c_21 (by decide) rfl (by decide) ?_
        refine z_iconst hx dX9_holdsBy_85 ?_
        refine z_iret hx hr dX9_holdsBy_86 rfl rfl (q_i (by unfold hol pln wol; (repeat' split) <;> omega))
      by_cases c_22 : k = 4
      ·
        refine z_tblIn (off := 47) (tgt := 87) hx dX9_holdsBy_40 (by omega) 4 c_22 (by decide) rfl (by decide) ?_
        refine z_iload_n hx dX9_holdsBy_87 rfl 2 rfl ?_
        refine z_if_ne (tgt := 97) hx dX9_holdsBy_88 (by decide) (by omega) (fun c_23 => ?_) (fun c_23 => ?_)
        ·
          refine z_iload_n hx dX9_holdsBy_97 rfl 3 rfl ?_
          refine z_iconst hx dX9_holdsBy_98 ?_
          refine z_iadd hx dX9_holdsBy_99 ?_
          refine z_iret hx hr dX9_holdsBy_100 rfl rfl (q_i (by unfold hol pln wol; (repeat' split) <;> omega))
        ·
          refine z_iload_n hx dX9_holdsBy_91 rfl 3 rfl ?_
          refine z_iconst hx dX9_holdsBy_92 ?_
          refine z_iadd hx dX9_holdsBy_93 ?_
          refine z_goto (tgt := 100) hx dX9_holdsBy_94 (by decide) ?_
          refine z_iret hx hr dX9_holdsBy_100 rfl rfl (q_i (by unfold hol pln wol; (repeat' split) <;> omega))
      refine z_tblOut (tgt := 101) hx dX9_holdsBy_40 (by omega) (by omega) (by decide) ?_
      refine z_iload hx dX9_holdsBy_101 4 rfl ?_
      refine z_if_le (tgt := 113) hx dX9_holdsBy_103 (by decide) (by decide) (fun _ => ?_) (fun q => absurd q (by decide))
      refine z_iconst hx dX9_holdsBy_113 ?_
      refine z_iret hx hr dX9_holdsBy_114 rfl rfl (q_i (by unfold hol pln wol; (repeat' split) <;> omega))
    ·
      refine z_iload_n hx dX9_holdsBy_27 rfl 1 rfl ?_
      refine z_iload_n hx dX9_holdsBy_28 rfl 2 rfl ?_
      refine z_bipush hx dX9_holdsBy_29 (by decide) ?_
      refine z_idiv hx dX9_holdsBy_31 (by omega) (by decide) ?_
      refine z_isub hx dX9_holdsBy_32 ?_
      refine z_goto (tgt := 37) hx dX9_holdsBy_33 (by decide) ?_
      refine z_istore hx dX9_holdsBy_37 (by decide) [1, 2, 3, 4, 0] (lv' := [(0, .int (iI k)), (1, .int (iI s)), (2, .int (iI w)), (3, .int (iI (s - (w / 10)))), (4, .int (iI (s - (w / 20))))]) rfl ?_
      refine z_iload_n hx dX9_holdsBy_39 rfl 0 rfl ?_
      by_cases c_25 : k = 0
      ·
        refine z_tblIn (off := 36) (tgt := 76) hx dX9_holdsBy_40 (by omega) 0 c_25 (by decide) rfl (by decide) ?_
        refine z_iload_n hx dX9_holdsBy_76 rfl 3 rfl ?_
        refine z_iret hx hr dX9_holdsBy_77 rfl rfl (q_i (by unfold hol pln wol; (repeat' split) <;> omega))
      by_cases c_26 : k = 1
      ·
        refine z_tblIn (off := 38) (tgt := 78) hx dX9_holdsBy_40 (by omega) 1 c_26 (by decide) rfl (by decide) ?_
        refine z_iload_n hx dX9_holdsBy_78 rfl 3 rfl ?_
        refine z_iconst hx dX9_holdsBy_79 ?_
        refine z_iadd hx dX9_holdsBy_80 ?_
        refine z_iret hx hr dX9_holdsBy_81 rfl rfl (q_i (by unfold hol pln wol; (repeat' split) <;> omega))
      by_cases c_27 : k = 2
      ·
        refine z_tblIn (off := 42) (tgt := 82) hx dX9_holdsBy_40 (by omega) 2 c_27 (by decide) rfl (by decide) ?_
        refine z_iload hx dX9_holdsBy_82 4 rfl ?_
        refine z_iret hx hr dX9_holdsBy_84 rfl rfl (q_i (by unfold hol pln wol; (repeat' split) <;> omega))
      by_cases c_28 : k = 3
      ·
        refine z_tblIn (off := 45) (tgt := 85) hx dX9_holdsBy_40 (by omega) 3 c_28 (by decide) rfl (by decide) ?_
        refine z_iconst hx dX9_holdsBy_85 ?_
        refine z_iret hx hr dX9_holdsBy_86 rfl rfl (q_i (by unfold hol pln wol; (repeat' split) <;> omega))
      by_cases c_29 : k = 4
      ·
        refine z_tblIn (off := 47) (tgt := 87) hx dX9_holdsBy_40 (by omega) 4 c_29 (by decide) rfl (by decide) ?_
        refine z_iload_n hx dX9_holdsBy_87 rfl 2 rfl ?_
        refine z_if_ne (tgt := 97) hx dX9_holdsBy_88 (by decide) (by omega) (fun c_30 => ?_) (fun c_30 => ?_)
        ·
          refine z_iload_n hx dX9_holdsBy_97 rfl 3 rfl ?_
          refine z_iconst hx dX9_holdsBy_98 ?_
          refine z_iadd hx dX9_holdsBy_99 ?_
          refine z_iret hx hr dX9_holdsBy_100 rfl rfl (q_i (by unfold hol pln wol; (repeat' split) <;> omega))
        ·
          refine z_iload_n hx dX9_holdsBy_91 rfl 3 rfl ?_
          refine z_iconst hx dX9_holdsBy_92 ?_
          refine z_iadd hx dX9_holdsBy_93 ?_
          refine z_goto (tgt := 100) hx dX9_holdsBy_94 (by decide) ?_
          refine z_iret hx hr dX9_holdsBy_100 rfl rfl (q_i (by unfold hol pln wol; (repeat' split) <;> omega))
      refine z_tblOut (tgt := 101) hx dX9_holdsBy_40 (by omega) (by omega) (by decide) ?_
      refine z_iload hx dX9_holdsBy_101 4 rfl ?_
      refine z_if_le (tgt := 113) hx dX9_holdsBy_103 (by decide) (by omega) (fun c_31 => ?_) (fun c_31 => ?_)
      ·
        refine z_iconst hx dX9_holdsBy_113 ?_
        refine z_iret hx hr dX9_holdsBy_114 rfl rfl (q_i (by unfold hol pln wol; (repeat' split) <;> omega))
      ·
        refine z_iload hx dX9_holdsBy_106 4 rfl ?_
        refine z_iconst hx dX9_holdsBy_108 ?_
        refine z_isub hx dX9_holdsBy_109 ?_
        refine z_goto (tgt := 114) hx dX9_holdsBy_110 (by decide) ?_
        refine z_iret hx hr dX9_holdsBy_114 rfl rfl (q_i (by unfold hol pln wol; (repeat' split) <;> omega))

set_option maxHeartbeats 4000000 in
set_option maxRecDepth 20000 in
theorem kX4_holds (g : Gt) {k : Int} {s : Int} {w : Int} {h : AH} (hk : 0 ≤ k ∧ k ≤ 5) (hs : 0 ≤ s ∧ s ≤ 4) (hw : 0 ≤ w ∧ w ≤ 40) : CnI g mX4_holds 2 [.int (iI k), .int (iI s), .int (iI w)] h (hol k s w) := by
  refine Cn.mk (by decide +kernel) (Nat.le_of_ble_eq_true rfl) ?_
  intro x sz hx hr
  show Zj g x (sz, 0, 0) h 0 [(0, .int (iI k)), (1, .int (iI s)), (2, .int (iI w))] []
  refine z_iconst hx dX4_holds_0 ?_
  refine z_iload_n hx dX4_holds_1 rfl 1 rfl ?_
  refine z_iload_n hx dX4_holds_2 rfl 2 rfl ?_
  refine z_bipush hx dX4_holds_3 (by decide) ?_
  refine z_idiv hx dX4_holds_5 (by omega) (by decide) ?_
  refine z_isub hx dX4_holds_6 ?_
  refine z_mmax hx dX4_holds_7 wk_X4_9 (by decide) (by omega) (by decide) (Nat.le_of_ble_eq_true rfl) ?_
  have f_1 := mx_c 0 (s - (w / 10))
  refine z_istore_n hx dX4_holds_10 rfl (by decide) [1, 2, 3, 0] (lv' := [(0, .int (iI k)), (1, .int (iI s)), (2, .int (iI w)), (3, .int (iI (mxI 0 (s - (w / 10)))))]) rfl ?_
  refine z_iload_n hx dX4_holds_11 rfl 3 rfl ?_
  refine z_iconst hx dX4_holds_12 ?_
  refine z_iadd hx dX4_holds_13 ?_
  refine z_istore hx dX4_holds_14 (by decide) [1, 2, 3, 4, 0] (lv' := [(0, .int (iI k)), (1, .int (iI s)), (2, .int (iI w)), (3, .int (iI (mxI 0 (s - (w / 10))))), (4, .int (iI ((mxI 0 (s - (w / 10))) + 1)))]) rfl ?_
  refine z_iconst hx dX4_holds_16 ?_
  refine z_iload_n hx dX4_holds_17 rfl 1 rfl ?_
  refine z_iload_n hx dX4_holds_18 rfl 2 rfl ?_
  refine z_iconst hx dX4_holds_19 ?_
  refine z_idiv hx dX4_holds_20 (by omega) (by decide) ?_
  refine z_bipush hx dX4_holds_21 (by decide) ?_
  refine z_idiv hx dX4_holds_23 (by omega) (by decide) ?_
  refine z_isub hx dX4_holds_24 ?_
  refine z_mmax hx dX4_holds_25 wk_X4_9 (by decide) (by omega) (by decide) (Nat.le_of_ble_eq_true rfl) ?_
  have f_2 := mx_c 0 (s - ((w / 2) / 10))
  refine z_istore hx dX4_holds_28 (by decide) [1, 2, 3, 4, 5, 0] (lv' := [(0, .int (iI k)), (1, .int (iI s)), (2, .int (iI w)), (3, .int (iI (mxI 0 (s - (w / 10))))), (4, .int (iI ((mxI 0 (s - (w / 10))) + 1))), (5, .int (iI (mxI 0 (s - ((w / 2) / 10)))))]) rfl ?_
  refine z_iload_n hx dX4_holds_30 rfl 0 rfl ?_
  by_cases c_3 : k = 0
  ·
    refine z_tblIn (off := 37) (tgt := 68) hx dX4_holds_31 (by omega) 0 c_3 (by decide) rfl (by decide) ?_
    refine z_iload_n hx dX4_holds_68 rfl 3 rfl ?_
    refine z_iret hx hr dX4_holds_69 rfl rfl (q_i (by unfold hol pln wol; (repeat' split) <;> omega))
  by_cases c_4 : k = 1
  ·
    refine z_tblIn (off := 39) (tgt := 70) hx dX4_holds_31 (by omega) 1 c_4 (by decide) rfl (by decide) ?_
    refine z_iload hx dX4_holds_70 4 rfl ?_
    refine z_iret hx hr dX4_holds_72 rfl rfl (q_i (by unfold hol pln wol; (repeat' split) <;> omega))
  by_cases c_5 : k = 2
  ·
    refine z_tblIn (off := 42) (tgt := 73) hx dX4_holds_31 (by omega) 2 c_5 (by decide) rfl (by decide) ?_
    refine z_iload hx dX4_holds_73 5 rfl ?_
    refine z_iret hx hr dX4_holds_75 rfl rfl (q_i (by unfold hol pln wol; (repeat' split) <;> omega))
  by_cases c_6 : k = 3
  ·
    refine z_tblIn (off := 68) (tgt := 99) hx dX4_holds_31 (by omega) 3 c_6 (by decide) rfl (by decide) ?_
    refine z_iconst hx dX4_holds_99 ?_
    refine z_iret hx hr dX4_holds_100 rfl rfl (q_i (by unfold hol pln wol; (repeat' split) <;> omega))
  by_cases c_7 : k = 4
  ·
    refine z_tblIn (off := 45) (tgt := 76) hx dX4_holds_31 (by omega) 4 c_7 (by decide) rfl (by decide) ?_
    refine z_iload_n hx dX4_holds_76 rfl 2 rfl ?_
    refine z_if_ne (tgt := 87) hx dX4_holds_77 (by decide) (by omega) (fun c_8 => ?_) (fun c_8 => ?_)
    ·
      refine z_iload hx dX4_holds_87 4 rfl ?_
      refine z_iret hx hr dX4_holds_89 rfl rfl (q_i (by unfold hol pln wol; (repeat' split) <;> omega))
    ·
      refine z_iload hx dX4_holds_80 4 rfl ?_
      refine z_iconst hx dX4_holds_82 ?_
      refine z_iadd hx dX4_holds_83 ?_
      refine z_goto (tgt := 89) hx dX4_holds_84 (by decide) ?_
      refine z_iret hx hr dX4_holds_89 rfl rfl (q_i (by unfold hol pln wol; (repeat' split) <;> omega))
  by_cases c_9 : k = 5
  ·
    refine z_tblIn (off := 59) (tgt := 90) hx dX4_holds_31 (by omega) 5 c_9 (by decide) rfl (by decide) ?_
    refine z_iconst hx dX4_holds_90 ?_
    refine z_iload hx dX4_holds_91 5 rfl ?_
    refine z_iconst hx dX4_holds_93 ?_
    refine z_isub hx dX4_holds_94 ?_
    refine z_mmax hx dX4_holds_95 wk_X4_9 (by decide) (by omega) (by decide) (Nat.le_of_ble_eq_true rfl) ?_
    have f_10 := mx_c 0 ((mxI 0 (s - ((w / 2) / 10))) - 1)
    refine z_iret hx hr dX4_holds_98 rfl rfl (q_i (by unfold hol pln wol; (repeat' split) <;> omega))
  refine z_tblOut (tgt := 99) hx dX4_holds_31 (by omega) (by omega) (by decide) ?_
  refine z_iconst hx dX4_holds_99 ?_
  refine z_iret hx hr dX4_holds_100 rfl rfl (q_i (by unfold hol pln wol; (repeat' split) <;> omega))

set_option maxHeartbeats 4000000 in
set_option maxRecDepth 20000 in
theorem kX9_wearsBy (g : Gt) {k : Int} {n : Int} {h : AH} (hk : rgI k) (hn : rgI n) : CnI g mX9_wearsBy 1 [.int (iI k), .int (iI n)] h (wby k n) := by
  refine Cn.mk (by decide +kernel) (Nat.le_of_ble_eq_true rfl) ?_
  intro x sz hx hr
  show Zj g x (sz, 0, 0) h 0 [(0, .int (iI k)), (1, .int (iI n))] []
  refine z_iload_n hx dX9_wearsBy_0 rfl 0 rfl ?_
  refine z_iconst hx dX9_wearsBy_1 ?_
  refine z_icmp_ne (tgt := 9) hx dX9_wearsBy_2 (by decide) (by omega) (by decide) (fun c_1 => ?_) (fun c_1 => ?_)
  ·
    refine z_iload_n hx dX9_wearsBy_9 rfl 0 rfl ?_
    refine z_iconst hx dX9_wearsBy_10 ?_
    refine z_icmp_ne (tgt := 20) hx dX9_wearsBy_11 (by decide) (by omega) (by decide) (fun c_2 => ?_) (fun c_2 => ?_)
    ·
      refine z_iload_n hx dX9_wearsBy_20 rfl 0 rfl ?_
      refine z_iconst hx dX9_wearsBy_21 ?_
      refine z_icmp_ne (tgt := 31) hx dX9_wearsBy_22 (by decide) (by omega) (by decide) (fun c_3 => ?_) (fun c_3 => ?_)
      ·
        refine z_iload_n hx dX9_wearsBy_31 rfl 1 rfl ?_
        refine z_iret hx hr dX9_wearsBy_32 rfl rfl (q_i (by unfold wby; (repeat' split) <;> omega))
      ·
        refine z_iload_n hx dX9_wearsBy_25 rfl 1 rfl ?_
        refine z_iconst hx dX9_wearsBy_26 ?_
        refine z_iadd hx dX9_wearsBy_27 ?_
        refine z_goto (tgt := 32) hx dX9_wearsBy_28 (by decide) ?_
        refine z_iret hx hr dX9_wearsBy_32 rfl rfl (q_i (by unfold wby; (repeat' split) <;> omega))
    ·
      refine z_iconst hx dX9_wearsBy_14 ?_
      refine z_iload_n hx dX9_wearsBy_15 rfl 1 rfl ?_
      refine z_imul hx dX9_wearsBy_16 ?_
      refine z_goto (tgt := 32) hx dX9_wearsBy_17 (by decide) ?_
      refine z_iret hx hr dX9_wearsBy_32 rfl rfl (q_i (by unfold wby; (repeat' split) <;> omega))
  ·
    refine z_iconst hx dX9_wearsBy_5 ?_
    refine z_goto (tgt := 32) hx dX9_wearsBy_6 (by decide) ?_
    refine z_iret hx hr dX9_wearsBy_32 rfl rfl (q_i (by unfold wby; (repeat' split) <;> omega))

set_option maxHeartbeats 4000000 in
set_option maxRecDepth 20000 in
theorem kX4_wearsInAnHour (g : Gt) {k : Int} {n : Int} {h : AH} (hk : rgI k) (hn : rgI n) : CnI g mX4_wearsInAnHour 1 [.int (iI k), .int (iI n)] h (wby k n) := by
  refine Cn.mk (by decide +kernel) (Nat.le_of_ble_eq_true rfl) ?_
  intro x sz hx hr
  show Zj g x (sz, 0, 0) h 0 [(0, .int (iI k)), (1, .int (iI n))] []
  refine z_iload_n hx dX4_wearsInAnHour_0 rfl 0 rfl ?_
  by_cases c_1 : k = 3
  ·
    refine z_tblIn (off := 27) (tgt := 28) hx dX4_wearsInAnHour_1 (by omega) 3 c_1 (by decide) rfl (by decide) ?_
    refine z_iconst hx dX4_wearsInAnHour_28 ?_
    refine z_iret hx hr dX4_wearsInAnHour_29 rfl rfl (q_i (by unfold wby; (repeat' split) <;> omega))
  by_cases c_2 : k = 4
  ·
    refine z_tblIn (off := 29) (tgt := 30) hx dX4_wearsInAnHour_1 (by omega) 4 c_2 (by decide) rfl (by decide) ?_
    refine z_iconst hx dX4_wearsInAnHour_30 ?_
    refine z_iload_n hx dX4_wearsInAnHour_31 rfl 1 rfl ?_
    refine z_imul hx dX4_wearsInAnHour_32 ?_
    refine z_iret hx hr dX4_wearsInAnHour_33 rfl rfl (q_i (by unfold wby; (repeat' split) <;> omega))
  by_cases c_3 : k = 5
  ·
    refine z_tblIn (off := 33) (tgt := 34) hx dX4_wearsInAnHour_1 (by omega) 5 c_3 (by decide) rfl (by decide) ?_
    refine z_iload_n hx dX4_wearsInAnHour_34 rfl 1 rfl ?_
    refine z_iconst hx dX4_wearsInAnHour_35 ?_
    refine z_iadd hx dX4_wearsInAnHour_36 ?_
    refine z_iret hx hr dX4_wearsInAnHour_37 rfl rfl (q_i (by unfold wby; (repeat' split) <;> omega))
  refine z_tblOut (tgt := 38) hx dX4_wearsInAnHour_1 (by omega) (by omega) (by decide) ?_
  refine z_iload_n hx dX4_wearsInAnHour_38 rfl 1 rfl ?_
  refine z_iret hx hr dX4_wearsInAnHour_39 rfl rfl (q_i (by unfold wby; (repeat' split) <;> omega))

set_option maxHeartbeats 4000000 in
set_option maxRecDepth 20000 in
theorem kX7_isFigure (g : Gt) {c : Int} {h : AH} (hc : rgI c) : CnI g mX7_isFigure 1 [.int (iI c)] h (b2i (48 ≤ c ∧ c ≤ 57)) := by
  refine Cn.mk (by decide +kernel) (Nat.le_of_ble_eq_true rfl) ?_
  intro x sz hx hr
  show Zj g x (sz, 0, 0) h 0 [(0, .int (iI c))] []
  refine z_iload_n hx dX7_isFigure_0 rfl 0 rfl ?_
  refine z_bipush hx dX7_isFigure_1 (by decide) ?_
  refine z_icmp_lt (tgt := 16) hx dX7_isFigure_3 (by decide) (by omega) (by decide) (fun c_1 => ?_) (fun c_1 => ?_)
  ·
    refine z_iconst hx dX7_isFigure_16 ?_
    refine z_iret hx hr dX7_isFigure_17 rfl rfl (q_i (by unfold b2i; split <;> omega))
  ·
    refine z_iload_n hx dX7_isFigure_6 rfl 0 rfl ?_
    refine z_bipush hx dX7_isFigure_7 (by decide) ?_
    refine z_icmp_gt (tgt := 16) hx dX7_isFigure_9 (by decide) (by omega) (by decide) (fun c_2 => ?_) (fun c_2 => ?_)
    ·
      refine z_iconst hx dX7_isFigure_16 ?_
      refine z_iret hx hr dX7_isFigure_17 rfl rfl (q_i (by unfold b2i; split <;> omega))
    ·
      refine z_iconst hx dX7_isFigure_12 ?_
      refine z_goto (tgt := 17) hx dX7_isFigure_13 (by decide) ?_
      refine z_iret hx hr dX7_isFigure_17 rfl rfl (q_i (by unfold b2i; split <;> omega))

set_option maxHeartbeats 4000000 in
set_option maxRecDepth 20000 in
theorem kX7_isLetter (g : Gt) {c : Int} {h : AH} (hc : rgI c) : CnI g mX7_isLetter 1 [.int (iI c)] h (b2i (97 ≤ c ∧ c ≤ 122)) := by
  refine Cn.mk (by decide +kernel) (Nat.le_of_ble_eq_true rfl) ?_
  intro x sz hx hr
  show Zj g x (sz, 0, 0) h 0 [(0, .int (iI c))] []
  refine z_iload_n hx dX7_isLetter_0 rfl 0 rfl ?_
  refine z_bipush hx dX7_isLetter_1 (by decide) ?_
  refine z_icmp_lt (tgt := 16) hx dX7_isLetter_3 (by decide) (by omega) (by decide) (fun c_1 => ?_) (fun c_1 => ?_)
  ·
    refine z_iconst hx dX7_isLetter_16 ?_
    refine z_iret hx hr dX7_isLetter_17 rfl rfl (q_i (by unfold b2i; split <;> omega))
  ·
    refine z_iload_n hx dX7_isLetter_6 rfl 0 rfl ?_
    refine z_bipush hx dX7_isLetter_7 (by decide) ?_
    refine z_icmp_gt (tgt := 16) hx dX7_isLetter_9 (by decide) (by omega) (by decide) (fun c_2 => ?_) (fun c_2 => ?_)
    ·
      refine z_iconst hx dX7_isLetter_16 ?_
      refine z_iret hx hr dX7_isLetter_17 rfl rfl (q_i (by unfold b2i; split <;> omega))
    ·
      refine z_iconst hx dX7_isLetter_12 ?_
      refine z_goto (tgt := 17) hx dX7_isLetter_13 (by decide) ?_
      refine z_iret hx hr dX7_isLetter_17 rfl rfl (q_i (by unfold b2i; split <;> omega))

set_option maxHeartbeats 4000000 in
set_option maxRecDepth 20000 in
theorem kX9_isCell (g : Gt) {c : Int} {h : AH} (hc : rgI c) : CnI g mX9_isCell 2 [.int (iI c)] h (b2i (0 ≤ c ∧ c ≤ 23)) := by
  refine Cn.mk (by decide +kernel) (Nat.le_of_ble_eq_true rfl) ?_
  intro x sz hx hr
  show Zj g x (sz, 0, 0) h 0 [(0, .int (iI c))] []
  refine z_iload_n hx dX9_isCell_0 rfl 0 rfl ?_
  refine z_iconst hx dX9_isCell_1 ?_
  refine z_bipush hx dX9_isCell_2 (by decide) ?_
  refine z_cSI (as := [.int (iI c), .int (iI 0), .int (iI 23)]) (rest := []) hx dX9_isCell_4 lk_X9_43 wt_X9_in mo_X9_in (kX9_in g (a := c) (b := 0) (c := 23) (by omega) (by omega) (by omega)) (by decide) rfl rfl (Nat.le_of_ble_eq_true rfl) ?_
  refine z_iret hx hr dX9_isCell_7 rfl (nar_b (b2i_01 _)) (q_i (by simp))

set_option maxHeartbeats 4000000 in
set_option maxRecDepth 20000 in
theorem kX8_isCell (g : Gt) {c : Int} {h : AH} (hc : rgI c) : CnI g mX8_isCell 2 [.int (iI c)] h (b2i (0 ≤ c ∧ c ≤ 23)) := by
  refine Cn.mk (by decide +kernel) (Nat.le_of_ble_eq_true rfl) ?_
  intro x sz hx hr
  show Zj g x (sz, 0, 0) h 0 [(0, .int (iI c))] []
  refine z_iload_n hx dX8_isCell_0 rfl 0 rfl ?_
  refine z_iconst hx dX8_isCell_1 ?_
  refine z_bipush hx dX8_isCell_2 (by decide) ?_
  refine z_cSI (as := [.int (iI c), .int (iI 0), .int (iI 23)]) (rest := []) hx dX8_isCell_4 lk_X8_80 wt_X8_isIn mo_X8_isIn (kX8_isIn g (a := c) (b := 0) (c := 23) (by omega) (by omega) (by omega)) (by decide) rfl rfl (Nat.le_of_ble_eq_true rfl) ?_
  refine z_iret hx hr dX8_isCell_7 rfl (nar_b (b2i_01 _)) (q_i (by simp))
