/-! the class: its helpers, its plain public methods -/
theorem nar_c {a : Int} (h : 0 ≤ a ∧ a < 65536) : narrow .char (.int (iI a)) = .int (iI a) := congrArg Value.int (i2c_ok h)
theorem acs_z {f : Int → Int} {k c s : Int} (hn : 0 ≤ f 26 ∧ f 26 < 5) (j : Int) : acs (fup f 58 0) k c s j = if j = 58 then 0 else acs f k c s j := by
  have e : fup f 58 0 26 = f 26 := fup_n (by decide)
  unfold acs; rw [e]; unfold fup; (repeat' split) <;> first | rfl | omega
theorem ahu_z {f : Int → Int} {c : Int} (hn : 0 ≤ f 37 ∧ f 37 < 6) (j : Int) : ahu (fup f 58 0) c j = if j = 58 then 0 else ahu f c j := by
  have e : fup f 58 0 37 = f 37 := fup_n (by decide)
  unfold ahu; rw [e]; unfold fup; (repeat' split) <;> first | rfl | omega
theorem ash_z {f : Int → Int} {c : Int} (hn : 0 ≤ f 38 ∧ f 38 < 3) (j : Int) : ash (fup f 58 0) c j = if j = 58 then 0 else ash f c j := by
  have e : fup f 58 0 38 = f 38 := fup_n (by decide)
  unfold ash; rw [e]; unfold fup; (repeat' split) <;> first | rfl | omega

set_option maxHeartbeats 4000000 in
set_option maxRecDepth 20000 in
theorem kX8_isCosy (g : Gt) {h : AH} {b : Nat} {la lb c0 c1 c2 : Int} {F : Nat → Int → Int} {pi : Int → Int} {Fs : Int → Nat → Int → Int} {m n kq : Int} {N : Nat → Int → Int} {f : Int → Int} {k : Int}(x0 : XO h b la lb c0 c1 c2) (hK : KM h (b + 1) F pi Fs m n kq N) (hR : RLC F f) (hI : inv f) (g_k : rgI k) : CnI g mX8_isCosy 2 [.ref b, .int (iI k)] h (b2i (0 ≤ k ∧ k ≤ f 26 - 1)) := by
  refine Cn.mk (by decide +kernel) (Nat.le_of_ble_eq_true rfl) ?_
  intro x sz hx hr
  show Zj g x (sz, 0, 0) h 0 [(0, .ref b), (1, .int (iI k))] []
  obtain ⟨k0, k1, k2, k3, k4, k5⟩ := hK
  have hn := hI.n
  have rn := hR.n
  refine z_iload_n hx dX8_isCosy_0 rfl 1 rfl ?_
  refine z_iconst hx dX8_isCosy_1 ?_
  refine z_aload_n hx dX8_isCosy_2 rfl 0 rfl ?_
  refine z_get hx dX8_isCosy_3 fl_X8_10 x0 rfl ?_
  refine z_get hx dX8_isCosy_6 fl_X8_71 k0 rfl ?_
  refine z_get hx dX8_isCosy_9 fl_X8_74 k1.1 rfl ?_
  refine z_iconst hx dX8_isCosy_12 ?_
  refine z_isub hx dX8_isCosy_13 ?_
  refine z_cSI (as := [.int (iI k), .int (iI 0), .int (iI ((F 0 0) - 1))]) (rest := []) hx dX8_isCosy_14 lk_X8_80 wt_X8_isIn mo_X8_isIn (kX8_isIn g (a := k) (b := 0) (c := ((F 0 0) - 1)) (by omega) (by omega) (by omega)) (by decide) rfl rfl (Nat.le_of_ble_eq_true rfl) ?_
  refine z_iret hx hr dX8_isCosy_17 rfl (nar_b (b2i_01 _)) (q_i (by rw [show F 0 0 = f 26 by omega]))

set_option maxHeartbeats 4000000 in
set_option maxRecDepth 20000 in
theorem kX8_isOneHunted (g : Gt) {h : AH} {b : Nat} {la lb c0 c1 c2 : Int} {F : Nat → Int → Int} {pi : Int → Int} {Fs : Int → Nat → Int → Int} {m n kq : Int} {N : Nat → Int → Int} {f : Int → Int} {k : Int}(x0 : XO h b la lb c0 c1 c2) (hK : KM h (b + 1) F pi Fs m n kq N) (hR : RLC F f) (hI : inv f) (g_k : rgI k) : CnI g mX8_isOneHunted 2 [.ref b, .int (iI k)] h (b2i (0 ≤ k ∧ k ≤ f 37 - 1)) := by
  refine Cn.mk (by decide +kernel) (Nat.le_of_ble_eq_true rfl) ?_
  intro x sz hx hr
  show Zj g x (sz, 0, 0) h 0 [(0, .ref b), (1, .int (iI k))] []
  obtain ⟨k0, k1, k2, k3, k4, k5⟩ := hK
  have hn := hI.n
  have rn := hR.n
  refine z_iload_n hx dX8_isOneHunted_0 rfl 1 rfl ?_
  refine z_iconst hx dX8_isOneHunted_1 ?_
  refine z_aload_n hx dX8_isOneHunted_2 rfl 0 rfl ?_
  refine z_get hx dX8_isOneHunted_3 fl_X8_10 x0 rfl ?_
  refine z_get hx dX8_isOneHunted_6 fl_X8_71 k0 rfl ?_
  refine z_get hx dX8_isOneHunted_9 fl_X8_109 k1.1 rfl ?_
  refine z_iconst hx dX8_isOneHunted_12 ?_
  refine z_isub hx dX8_isOneHunted_13 ?_
  refine z_cSI (as := [.int (iI k), .int (iI 0), .int (iI ((F 0 1) - 1))]) (rest := []) hx dX8_isOneHunted_14 lk_X8_80 wt_X8_isIn mo_X8_isIn (kX8_isIn g (a := k) (b := 0) (c := ((F 0 1) - 1)) (by omega) (by omega) (by omega)) (by decide) rfl rfl (Nat.le_of_ble_eq_true rfl) ?_
  refine z_iret hx hr dX8_isOneHunted_17 rfl (nar_b (b2i_01 _)) (q_i (by rw [show F 0 1 = f 37 by omega]))

set_option maxHeartbeats 4000000 in
set_option maxRecDepth 20000 in
theorem kX8_bad (g : Gt) {h : AH} {b : Nat} {la lb c0 c1 c2 : Int} {v : Int}(x0 : XO h b la lb c0 c1 c2) : CnJ g mX8_bad 1 [.ref b, .int (iI v)] h (v) (fun h' => XO h' b la lb (c0 + 1) (c1) (c2) ∧ Fr h h' b 1) := by
  refine Cn.mk (by decide +kernel) (Nat.le_of_ble_eq_true rfl) ?_
  intro x sz hx hr
  show Zj g x (sz, 0, 0) h 0 [(0, .ref b), (1, .int (iI v))] []
  refine z_aload_n hx dX8_bad_0 rfl 0 rfl ?_
  refine z_dup hx dX8_bad_1 rfl ?_
  refine z_get hx dX8_bad_2 fl_X8_61 x0 rfl ?_
  refine z_iconst hx dX8_bad_5 ?_
  refine z_iadd hx dX8_bad_6 ?_
  refine z_putQ hx dX8_bad_7 fl_X8_61 x0 ⟨rfl, rfl⟩ (Nat.le_of_ble_eq_true rfl) (fun h_1 hs_2 hf_3 => ?_)
  have fr_4 : Fr h h_1 b 1 := hf_3.wd (by omega) (by omega)
  refine z_iload_n hx dX8_bad_10 rfl 1 rfl ?_
  refine z_iret hx hr dX8_bad_11 rfl rfl (q_j (Q := fun h' => XO h' b la lb (c0 + 1) (c1) (c2) ∧ Fr h h' b 1) rfl ⟨hs_2, fr_4⟩)

set_option maxHeartbeats 4000000 in
set_option maxRecDepth 20000 in
theorem kX8_no (g : Gt) {h : AH} {b : Nat} {la lb c0 c1 c2 : Int} (x0 : XO h b la lb c0 c1 c2) : CnJ g mX8_no 1 [.ref b] h (-3) (fun h' => XO h' b la lb (c0) (c1 + 1) (c2) ∧ Fr h h' b 1) := by
  refine Cn.mk (by decide +kernel) (Nat.le_of_ble_eq_true rfl) ?_
  intro x sz hx hr
  show Zj g x (sz, 0, 0) h 0 [(0, .ref b)] []
  refine z_aload_n hx dX8_no_0 rfl 0 rfl ?_
  refine z_dup hx dX8_no_1 rfl ?_
  refine z_get hx dX8_no_2 fl_X8_65 x0 rfl ?_
  refine z_iconst hx dX8_no_5 ?_
  refine z_iadd hx dX8_no_6 ?_
  refine z_putQ hx dX8_no_7 fl_X8_65 x0 ⟨rfl, rfl⟩ (Nat.le_of_ble_eq_true rfl) (fun h_1 hs_2 hf_3 => ?_)
  have fr_4 : Fr h h_1 b 1 := hf_3.wd (by omega) (by omega)
  refine z_bipush hx dX8_no_10 (by decide) ?_
  refine z_iret hx hr dX8_no_12 rfl rfl (q_j (Q := fun h' => XO h' b la lb (c0) (c1 + 1) (c2) ∧ Fr h h' b 1) rfl ⟨hs_2, fr_4⟩)

set_option maxHeartbeats 4000000 in
set_option maxRecDepth 20000 in
theorem kX8_full (g : Gt) {h : AH} {b : Nat} {la lb c0 c1 c2 : Int} (x0 : XO h b la lb c0 c1 c2) : CnJ g mX8_full 1 [.ref b] h (-4) (fun h' => XO h' b la lb (c0) (c1) (c2 + 1) ∧ Fr h h' b 1) := by
  refine Cn.mk (by decide +kernel) (Nat.le_of_ble_eq_true rfl) ?_
  intro x sz hx hr
  show Zj g x (sz, 0, 0) h 0 [(0, .ref b)] []
  refine z_aload_n hx dX8_full_0 rfl 0 rfl ?_
  refine z_dup hx dX8_full_1 rfl ?_
  refine z_get hx dX8_full_2 fl_X8_68 x0 rfl ?_
  refine z_iconst hx dX8_full_5 ?_
  refine z_iadd hx dX8_full_6 ?_
  refine z_putQ hx dX8_full_7 fl_X8_68 x0 ⟨rfl, rfl⟩ (Nat.le_of_ble_eq_true rfl) (fun h_1 hs_2 hf_3 => ?_)
  have fr_4 : Fr h h_1 b 1 := hf_3.wd (by omega) (by omega)
  refine z_bipush hx dX8_full_10 (by decide) ?_
  refine z_iret hx hr dX8_full_12 rfl rfl (q_j (Q := fun h' => XO h' b la lb (c0) (c1) (c2 + 1) ∧ Fr h h' b 1) rfl ⟨hs_2, fr_4⟩)

set_option maxHeartbeats 4000000 in
set_option maxRecDepth 20000 in
theorem kX8_common (g : Gt) {h : AH} {b : Nat} {S : Nat → Int → Int}  (hX : XR h b S) (hV : invM S)  : CnJ g mX8_common 3 [.ref b] h (commonA S).1 (QX h b (commonA S).2) := by
  refine Cn.mk (by decide +kernel) (Nat.le_of_ble_eq_true rfl) ?_
  intro x sz hx hr
  show Zj g x (sz, 0, 0) h 0 [(0, .ref b)] []
  obtain ⟨F, pi, Fs, kq, N, T, x0, hK, hi0, hi1, htx, htr, hrb, heb, hhb, ⟨hR, hPR, hNn⟩, htt⟩ := hX
  obtain ⟨k0, k1, k2, k3, k4, k5⟩ := hK
  have hN := hV.1
  have hI := hN.1
  have hn := hI.n
  have rn := hR.n
  have h58 : 0 ≤ S 1 58 ∧ S 1 58 ≤ 8 := ⟨(hI.rg 58 (by decide)).1, hN.2.2.2.1⟩
  have h39 : 0 ≤ S 1 39 ∧ S 1 39 ≤ 6 := ⟨(hI.rg 39 (by decide)).1, hN.2.2.1⟩
  have h0 : 0 ≤ S 1 0 ∧ S 1 0 ≤ 999 := ⟨hN.2.1.2, hN.2.1.1⟩
  have hmx : ∀ i, 0 ≤ i → i < S 1 58 → inv (mixF (S 1) i) := fun i a b => (hN.2.2.2.2.1 i a b).1
  have hno : ∀ i, 0 ≤ i → i < S 1 39 → S 1 (40 + 3 * i) < 5 ∧ S 1 (40 + 3 * i + 1) ≤ 40 ∧ S 1 (40 + 3 * i + 2) ≤ 9 := fun i a b => by have q := hN.2.2.2.2.2 i a b; rw [show 41 + 3 * i = 40 + 3 * i + 1 by omega, show 42 + 3 * i = 40 + 3 * i + 2 by omega] at q; exact q
  have hTo : outR (S 2) := hV.2.1
  have hL := hV.2.2.2.1
  have htt2 := hV.2.2.2.2.1
  refine z_aload_n hx dX8_common_0 rfl 0 rfl ?_
  refine z_get hx dX8_common_1 fl_X8_10 x0 rfl ?_
  refine z_get hx dX8_common_4 fl_X8_71 k0 rfl ?_
  refine z_get hx dX8_common_7 fl_X8_74 k1.1 rfl ?_
  refine z_istore_n hx dX8_common_10 rfl (by decide) [1, 0] (lv' := [(0, .ref b), (1, .int (iI (F 0 0)))]) rfl ?_
  refine z_aload_n hx dX8_common_11 rfl 0 rfl ?_
  refine z_get hx dX8_common_12 fl_X8_10 x0 rfl ?_
  refine z_cVV (as := []) (rest := []) hx dX8_common_15 lk_X8_77 wm_X3_empty wv_X3_empty (rcv_obj hx k0 rfl) mo_X3_empty (kX3_empty g (f := (S 1)) (F := F) (pi := pi) (Fs := Fs) (m := (S 1 58)) (n := (S 1 39)) (kp := kq) (N := N) ⟨k0, k1, k2, k3, k4, k5⟩) (by decide) rfl rfl (Nat.le_of_ble_eq_true rfl) (fun h_1 q_2 => ?_)
  obtain ⟨F_3, pi_4, Fs_5, N_6, ⟨m_7, m_8, m_9, m_10, m_11, m_12⟩, hR_13, hQ_14, hN_15, hf_16⟩ := q_2
  have h_17 := hf_16.at (by omega) x0
  have h_18 := IB.fr hi0 hf_16 (by omega)
  have h_19 := IB.fr hi1 hf_16 (by omega)
  have h_20 := TB.fr htx hf_16 (by omega)
  have h_21 := CB.fr htr hf_16 (by omega)
  have h_22 := RB.fr hrb hf_16 (by omega)
  have h_23 := EB.fr heb hf_16 (by omega)
  have h_24 := HB.fr hhb hf_16 (by omega)
  have fr_25 : Fr h h_1 b 367 := hf_16.wd (by omega) (by omega)
  refine z_iload_n hx dX8_common_18 rfl 1 rfl ?_
  refine z_iret hx hr dX8_common_19 rfl rfl (q_j (by exact (show F 0 0 = S 1 26 by omega)) (by unfold commonA; show XC h_1 b (S 0) (beg (S 1)) (S 4) (S 5) (S 6) (S 7) ∧ Fr h h_1 b 367; exact ⟨⟨F_3, pi_4, Fs_5, kq, N_6, T, h_17, KM.eq ⟨m_7, m_8, m_9, m_10, m_11, m_12⟩ (rfl) (rfl), h_18, h_19, h_20, h_21, h_22, h_23, h_24, ⟨hR_13, hQ_14, hN_15⟩, htt⟩, fr_25⟩))

set_option maxHeartbeats 4000000 in
set_option maxRecDepth 20000 in
theorem kX8_cosy (g : Gt) {h : AH} {b : Nat} {S : Nat → Int → Int} {k : Int} {c : Int} {s : Int} (hX : XR h b S) (hV : invM S) (g_k : rgI k) (g_c : rgI c) (g_s : rgI s) : CnJ g mX8_cosy 3 [.ref b, .int (iI k), .int (iI c), .int (iI s)] h (cosyA S k c s).1 (QX h b (cosyA S k c s).2) := by
  refine Cn.mk (by decide +kernel) (Nat.le_of_ble_eq_true rfl) ?_
  intro x sz hx hr
  show Zj g x (sz, 0, 0) h 0 [(0, .ref b), (1, .int (iI k)), (2, .int (iI c)), (3, .int (iI s))] []
  obtain ⟨F, pi, Fs, kq, N, T, x0, hK, hi0, hi1, htx, htr, hrb, heb, hhb, ⟨hR, hPR, hNn⟩, htt⟩ := hX
  obtain ⟨k0, k1, k2, k3, k4, k5⟩ := hK
  have hN := hV.1
  have hI := hN.1
  have hn := hI.n
  have rn := hR.n
  have h58 : 0 ≤ S 1 58 ∧ S 1 58 ≤ 8 := ⟨(hI.rg 58 (by decide)).1, hN.2.2.2.1⟩
  have h39 : 0 ≤ S 1 39 ∧ S 1 39 ≤ 6 := ⟨(hI.rg 39 (by decide)).1, hN.2.2.1⟩
  have h0 : 0 ≤ S 1 0 ∧ S 1 0 ≤ 999 := ⟨hN.2.1.2, hN.2.1.1⟩
  have hmx : ∀ i, 0 ≤ i → i < S 1 58 → inv (mixF (S 1) i) := fun i a b => (hN.2.2.2.2.1 i a b).1
  have hno : ∀ i, 0 ≤ i → i < S 1 39 → S 1 (40 + 3 * i) < 5 ∧ S 1 (40 + 3 * i + 1) ≤ 40 ∧ S 1 (40 + 3 * i + 2) ≤ 9 := fun i a b => by have q := hN.2.2.2.2.2 i a b; rw [show 41 + 3 * i = 40 + 3 * i + 1 by omega, show 42 + 3 * i = 40 + 3 * i + 2 by omega] at q; exact q
  have hTo : outR (S 2) := hV.2.1
  have hL := hV.2.2.2.1
  have htt2 := hV.2.2.2.2.1
  refine z_iload_n hx dX8_cosy_0 rfl 1 rfl ?_
  refine z_iconst hx dX8_cosy_1 ?_
  refine z_iconst hx dX8_cosy_2 ?_
  refine z_cSI (as := [.int (iI k), .int (iI 0), .int (iI 5)]) (rest := []) hx dX8_cosy_3 lk_X8_80 wt_X8_isIn mo_X8_isIn (kX8_isIn g (a := k) (b := 0) (c := 5) (by omega) (by omega) (by omega)) (by decide) rfl rfl (Nat.le_of_ble_eq_true rfl) ?_
  refine z_ifeq_b (tgt := 25) hx dX8_cosy_6 (by decide)  (fun c_1 => ?_) (fun c_1 => ?_)
  ·
    refine z_aload_n hx dX8_cosy_25 rfl 0 rfl ?_
    refine z_bipush hx dX8_cosy_26 (by decide) ?_
    refine z_cVJ (as := [.int (iI (-2))]) (rest := []) hx dX8_cosy_28 lk_X8_88 wm_X8_bad wv_X8_bad (rcv_obj hx x0 rfl) mo_X8_bad (kX8_bad g (v := (-2)) x0) (by decide) rfl rfl (Nat.le_of_ble_eq_true rfl) (fun h_2 q_3 => ?_)
    obtain ⟨hs_4, hf_5⟩ := q_3
    have h_6 := hf_5.at (by omega) k0
    have h_7 := CM.fr k1 hf_5 (by omega)
    have h_8 := PM.fr k2 hf_5 (by omega)
    have h_9 := hf_5.at (by omega) k3
    have h_10 := hf_5.at (by omega) k4
    have h_11 := hf_5.at (by omega) k5
    have h_12 := IB.fr hi0 hf_5 (by omega)
    have h_13 := IB.fr hi1 hf_5 (by omega)
    have h_14 := TB.fr htx hf_5 (by omega)
    have h_15 := CB.fr htr hf_5 (by omega)
    have h_16 := RB.fr hrb hf_5 (by omega)
    have h_17 := EB.fr heb hf_5 (by omega)
    have h_18 := HB.fr hhb hf_5 (by omega)
    have fr_19 : Fr h h_2 b 367 := hf_5.wd (by omega) (by omega)
    refine z_iret hx hr dX8_cosy_31 rfl rfl (q_j (by unfold cosyA; (repeat (first | rw [if_pos (by omega)] | rw [if_neg (by omega)])); (try first | rfl | omega)) (by unfold cosyA; (repeat (first | rw [if_pos (by omega)] | rw [if_neg (by omega)])); show XC h_2 b (S 0) (S 1) (S 4) (S 5) (fup (S 6) 0 ((S 6) 0 + 1)) (S 7) ∧ Fr h h_2 b 367; exact ⟨⟨F, pi, Fs, kq, N, T, hs_4, KM.eq ⟨h_6, h_7, h_8, h_9, h_10, h_11⟩ (rfl) (rfl), h_12, h_13, h_14, h_15, h_16, h_17, h_18, ⟨hR, hPR, hNn⟩, htt⟩, fr_19⟩))
  ·
    refine z_iload_n hx dX8_cosy_9 rfl 2 rfl ?_
    refine z_cSI (as := [.int (iI c)]) (rest := []) hx dX8_cosy_10 lk_X8_84 wt_X8_isCell mo_X8_isCell (kX8_isCell g (c := c) (by omega)) (by decide) rfl rfl (Nat.le_of_ble_eq_true rfl) ?_
    refine z_ifeq_b (tgt := 25) hx dX8_cosy_13 (by decide)  (fun c_20 => ?_) (fun c_20 => ?_)
    ·
      refine z_aload_n hx dX8_cosy_25 rfl 0 rfl ?_
      refine z_bipush hx dX8_cosy_26 (by decide) ?_
      refine z_cVJ (as := [.int (iI (-2))]) (rest := []) hx dX8_cosy_28 lk_X8_88 wm_X8_bad wv_X8_bad (rcv_obj hx x0 rfl) mo_X8_bad (kX8_bad g (v := (-2)) x0) (by decide) rfl rfl (Nat.le_of_ble_eq_true rfl) (fun h_21 q_22 => ?_)
      obtain ⟨hs_23, hf_24⟩ := q_22
      have h_25 := hf_24.at (by omega) k0
      have h_26 := CM.fr k1 hf_24 (by omega)
      have h_27 := PM.fr k2 hf_24 (by omega)
      have h_28 := hf_24.at (by omega) k3
      have h_29 := hf_24.at (by omega) k4
      have h_30 := hf_24.at (by omega) k5
      have h_31 := IB.fr hi0 hf_24 (by omega)
      have h_32 := IB.fr hi1 hf_24 (by omega)
      have h_33 := TB.fr htx hf_24 (by omega)
      have h_34 := CB.fr htr hf_24 (by omega)
      have h_35 := RB.fr hrb hf_24 (by omega)
      have h_36 := EB.fr heb hf_24 (by omega)
      have h_37 := HB.fr hhb hf_24 (by omega)
      have fr_38 : Fr h h_21 b 367 := hf_24.wd (by omega) (by omega)
      refine z_iret hx hr dX8_cosy_31 rfl rfl (q_j (by unfold cosyA; (repeat (first | rw [if_pos (by omega)] | rw [if_neg (by omega)])); (try first | rfl | omega)) (by unfold cosyA; (repeat (first | rw [if_pos (by omega)] | rw [if_neg (by omega)])); show XC h_21 b (S 0) (S 1) (S 4) (S 5) (fup (S 6) 0 ((S 6) 0 + 1)) (S 7) ∧ Fr h h_21 b 367; exact ⟨⟨F, pi, Fs, kq, N, T, hs_23, KM.eq ⟨h_25, h_26, h_27, h_28, h_29, h_30⟩ (rfl) (rfl), h_31, h_32, h_33, h_34, h_35, h_36, h_37, ⟨hR, hPR, hNn⟩, htt⟩, fr_38⟩))
    ·
      refine z_iload_n hx dX8_cosy_16 rfl 3 rfl ?_
      refine z_iconst hx dX8_cosy_17 ?_
      refine z_iconst hx dX8_cosy_18 ?_
      refine z_cSI (as := [.int (iI s), .int (iI 1), .int (iI 4)]) (rest := []) hx dX8_cosy_19 lk_X8_80 wt_X8_isIn mo_X8_isIn (kX8_isIn g (a := s) (b := 1) (c := 4) (by omega) (by omega) (by omega)) (by decide) rfl rfl (Nat.le_of_ble_eq_true rfl) ?_
      refine z_ifne_b (tgt := 32) hx dX8_cosy_22 (by decide)  (fun c_39 => ?_) (fun c_39 => ?_)
      ·
        refine z_aload_n hx dX8_cosy_32 rfl 0 rfl ?_
        refine z_get hx dX8_cosy_33 fl_X8_10 x0 rfl ?_
        refine z_get hx dX8_cosy_36 fl_X8_71 k0 rfl ?_
        refine z_get hx dX8_cosy_39 fl_X8_74 k1.1 rfl ?_
        refine z_iconst hx dX8_cosy_42 ?_
        refine z_icmp_lt (tgt := 51) hx dX8_cosy_43 (by decide) (by omega) (by decide) (fun c_40 => ?_) (fun c_40 => ?_)
        ·
          refine z_aload_n hx dX8_cosy_51 rfl 0 rfl ?_
          refine z_get hx dX8_cosy_52 fl_X8_10 x0 rfl ?_
          refine z_get hx dX8_cosy_55 fl_X8_96 k0 rfl ?_
          refine z_iconst hx dX8_cosy_58 ?_
          refine z_putQ hx dX8_cosy_59 fl_X8_100 k2.1 ⟨rfl, rfl⟩ (Nat.le_of_ble_eq_true rfl) (fun h_41 hs_42 hf_43 => ?_)
          have hP_44 := PM.many (m := 0) k2 hs_42 hf_43
          have h_45 := hf_43.at (by omega) x0
          have h_46 := hf_43.at (by omega) k0
          have h_47 := CM.fr k1 hf_43 (by omega)
          have h_48 := hf_43.at (by omega) k3
          have h_49 := hf_43.at (by omega) k4
          have h_50 := hf_43.at (by omega) k5
          have h_51 := IB.fr hi0 hf_43 (by omega)
          have h_52 := IB.fr hi1 hf_43 (by omega)
          have h_53 := TB.fr htx hf_43 (by omega)
          have h_54 := CB.fr htr hf_43 (by omega)
          have h_55 := RB.fr hrb hf_43 (by omega)
          have h_56 := EB.fr heb hf_43 (by omega)
          have h_57 := HB.fr hhb hf_43 (by omega)
          have fr_58 : Fr h h_41 b 367 := hf_43.wd (by omega) (by omega)
          refine z_aload_n hx dX8_cosy_62 rfl 0 rfl ?_
          refine z_get hx dX8_cosy_63 fl_X8_10 h_45 rfl ?_
          refine z_get hx dX8_cosy_66 fl_X8_71 h_46 rfl ?_
          refine z_iload_n hx dX8_cosy_69 rfl 1 rfl ?_
          refine z_iload_n hx dX8_cosy_70 rfl 2 rfl ?_
          refine z_iload_n hx dX8_cosy_71 rfl 3 rfl ?_
          refine z_cVJ (as := [.int (iI k), .int (iI c), .int (iI s)]) (rest := []) hx dX8_cosy_72 lk_X8_105 wm_X1_addCosy wv_X1_addCosy (rcv_obj hx (And.left h_47) rfl) mo_X1_addCosy (kX1_addCosy g (F := F) (f := (S 1)) (kd9 := k) (ce9 := c) (sz9 := s) h_47 hR hI  (show (S 1) 26 < 5 by omega)) (by decide) rfl rfl (Nat.le_of_ble_eq_true rfl) (fun h_59 q_60 => ?_)
          obtain ⟨F_63, hC_61, hR_64, hf_62⟩ := q_60
          obtain ⟨f_66, ef_66⟩ : ∃ G : Int → Int, G = acs (S 1) k c s := ⟨_, rfl⟩
          rw [← ef_66] at hR_64
          have iv_67 := And.intro (inv_acs hI (k := k) (c := c) (s := s) (by omega) (by omega) (by omega) (by omega)) True.intro
          rw [← ef_66] at iv_67
          have h_68 := hf_62.at (by omega) h_45
          have h_69 := hf_62.at (by omega) h_46
          have h_70 := PM.fr hP_44 hf_62 (by omega)
          have h_71 := hf_62.at (by omega) h_48
          have h_72 := hf_62.at (by omega) h_49
          have h_73 := hf_62.at (by omega) h_50
          have h_74 := IB.fr h_51 hf_62 (by omega)
          have h_75 := IB.fr h_52 hf_62 (by omega)
          have h_76 := TB.fr h_53 hf_62 (by omega)
          have h_77 := CB.fr h_54 hf_62 (by omega)
          have h_78 := RB.fr h_55 hf_62 (by omega)
          have h_79 := EB.fr h_56 hf_62 (by omega)
          have h_80 := HB.fr h_57 hf_62 (by omega)
          have fr_81 := fr_58.tr (hf_62.wd (by omega) (by omega))
          have hnn : (0 ≤ (acs (S 1) k c s) 26 ∧ (acs (S 1) k c s) 26 ≤ 5) ∧ (0 ≤ (acs (S 1) k c s) 37 ∧ (acs (S 1) k c s) 37 ≤ 6) ∧ (0 ≤ (acs (S 1) k c s) 38 ∧ (acs (S 1) k c s) 38 ≤ 3) := by rw [← ef_66]; exact iv_67.1.n
          have eA : ∀ j, (acs (fup (S 1) 58 0) k c s) j = if j = 58 then 0 else (acs (S 1) k c s) j := acs_z (by omega)
          have e39 : (acs (S 1) k c s) 39 = S 1 39 := by unfold acs; rw [fup_n (by omega), fup_n (by omega), fup_n (by omega), fup_n (by omega)]
          have eo : ∀ j, 39 ≤ j → (acs (S 1) k c s) j = S 1 j := by intro j hj; unfold acs; rw [fup_n (by omega), fup_n (by omega), fup_n (by omega), fup_n (by omega)]
          refine z_iret hx hr dX8_cosy_75 rfl rfl (q_j (by unfold cosyA; (repeat (first | rw [if_pos (by omega)] | rw [if_neg (by omega)])); (try first | rfl | omega)) (by unfold cosyA; (repeat (first | rw [if_pos (by omega)] | rw [if_neg (by omega)])); show XC h_59 b (S 0) (acs (fup (S 1) 58 0) k c s) (S 4) (S 5) (S 6) (S 7) ∧ Fr h h_59 b 367; exact ⟨⟨F_63, pi, Fs, kq, N, T, h_68, KM.eq ⟨h_69, hC_61, h_70, h_71, h_72, h_73⟩ (by rw [eA, if_pos rfl]) (by rw [eA, if_neg (by decide), e39]), h_74, h_75, h_76, h_77, h_78, h_79, h_80, ⟨RLC_ext (by rw [← ef_66]; exact hR_64) hnn (fun j x y => by rw [eA, if_neg (by omega)]), (fun i a b => by rw [eA, if_pos rfl] at b; omega), NRl_ext hNn h39.2 (fun j x y => by rw [eA, if_neg (by omega)]; exact eo j x)⟩, htt⟩, fr_81⟩))
        ·
          refine z_aload_n hx dX8_cosy_46 rfl 0 rfl ?_
          refine z_cVJ (as := []) (rest := []) hx dX8_cosy_47 lk_X8_92 wm_X8_full wv_X8_full (rcv_obj hx x0 rfl) mo_X8_full (kX8_full g  x0) (by decide) rfl rfl (Nat.le_of_ble_eq_true rfl) (fun h_82 q_83 => ?_)
          obtain ⟨hs_84, hf_85⟩ := q_83
          have h_86 := hf_85.at (by omega) k0
          have h_87 := CM.fr k1 hf_85 (by omega)
          have h_88 := PM.fr k2 hf_85 (by omega)
          have h_89 := hf_85.at (by omega) k3
          have h_90 := hf_85.at (by omega) k4
          have h_91 := hf_85.at (by omega) k5
          have h_92 := IB.fr hi0 hf_85 (by omega)
          have h_93 := IB.fr hi1 hf_85 (by omega)
          have h_94 := TB.fr htx hf_85 (by omega)
          have h_95 := CB.fr htr hf_85 (by omega)
          have h_96 := RB.fr hrb hf_85 (by omega)
          have h_97 := EB.fr heb hf_85 (by omega)
          have h_98 := HB.fr hhb hf_85 (by omega)
          have fr_99 : Fr h h_82 b 367 := hf_85.wd (by omega) (by omega)
          refine z_iret hx hr dX8_cosy_50 rfl rfl (q_j (by unfold cosyA; (repeat (first | rw [if_pos (by omega)] | rw [if_neg (by omega)])); (try first | rfl | omega)) (by unfold cosyA; (repeat (first | rw [if_pos (by omega)] | rw [if_neg (by omega)])); show XC h_82 b (S 0) (S 1) (S 4) (S 5) (fup (S 6) 2 ((S 6) 2 + 1)) (S 7) ∧ Fr h h_82 b 367; exact ⟨⟨F, pi, Fs, kq, N, T, hs_84, KM.eq ⟨h_86, h_87, h_88, h_89, h_90, h_91⟩ (rfl) (rfl), h_92, h_93, h_94, h_95, h_96, h_97, h_98, ⟨hR, hPR, hNn⟩, htt⟩, fr_99⟩))
      ·
        refine z_aload_n hx dX8_cosy_25 rfl 0 rfl ?_
        refine z_bipush hx dX8_cosy_26 (by decide) ?_
        refine z_cVJ (as := [.int (iI (-2))]) (rest := []) hx dX8_cosy_28 lk_X8_88 wm_X8_bad wv_X8_bad (rcv_obj hx x0 rfl) mo_X8_bad (kX8_bad g (v := (-2)) x0) (by decide) rfl rfl (Nat.le_of_ble_eq_true rfl) (fun h_100 q_101 => ?_)
        obtain ⟨hs_102, hf_103⟩ := q_101
        have h_104 := hf_103.at (by omega) k0
        have h_105 := CM.fr k1 hf_103 (by omega)
        have h_106 := PM.fr k2 hf_103 (by omega)
        have h_107 := hf_103.at (by omega) k3
        have h_108 := hf_103.at (by omega) k4
        have h_109 := hf_103.at (by omega) k5
        have h_110 := IB.fr hi0 hf_103 (by omega)
        have h_111 := IB.fr hi1 hf_103 (by omega)
        have h_112 := TB.fr htx hf_103 (by omega)
        have h_113 := CB.fr htr hf_103 (by omega)
        have h_114 := RB.fr hrb hf_103 (by omega)
        have h_115 := EB.fr heb hf_103 (by omega)
        have h_116 := HB.fr hhb hf_103 (by omega)
        have fr_117 : Fr h h_100 b 367 := hf_103.wd (by omega) (by omega)
        refine z_iret hx hr dX8_cosy_31 rfl rfl (q_j (by unfold cosyA; (repeat (first | rw [if_pos (by omega)] | rw [if_neg (by omega)])); (try first | rfl | omega)) (by unfold cosyA; (repeat (first | rw [if_pos (by omega)] | rw [if_neg (by omega)])); show XC h_100 b (S 0) (S 1) (S 4) (S 5) (fup (S 6) 0 ((S 6) 0 + 1)) (S 7) ∧ Fr h h_100 b 367; exact ⟨⟨F, pi, Fs, kq, N, T, hs_102, KM.eq ⟨h_104, h_105, h_106, h_107, h_108, h_109⟩ (rfl) (rfl), h_110, h_111, h_112, h_113, h_114, h_115, h_116, ⟨hR, hPR, hNn⟩, htt⟩, fr_117⟩))

set_option maxHeartbeats 4000000 in
set_option maxRecDepth 20000 in
theorem kX8_hunted (g : Gt) {h : AH} {b : Nat} {S : Nat → Int → Int} {c : Int} (hX : XR h b S) (hV : invM S) (g_c : rgI c) : CnJ g mX8_hunted 3 [.ref b, .int (iI c)] h (huntedA S c).1 (QX h b (huntedA S c).2) := by
  refine Cn.mk (by decide +kernel) (Nat.le_of_ble_eq_true rfl) ?_
  intro x sz hx hr
  show Zj g x (sz, 0, 0) h 0 [(0, .ref b), (1, .int (iI c))] []
  obtain ⟨F, pi, Fs, kq, N, T, x0, hK, hi0, hi1, htx, htr, hrb, heb, hhb, ⟨hR, hPR, hNn⟩, htt⟩ := hX
  obtain ⟨k0, k1, k2, k3, k4, k5⟩ := hK
  have hN := hV.1
  have hI := hN.1
  have hn := hI.n
  have rn := hR.n
  have h58 : 0 ≤ S 1 58 ∧ S 1 58 ≤ 8 := ⟨(hI.rg 58 (by decide)).1, hN.2.2.2.1⟩
  have h39 : 0 ≤ S 1 39 ∧ S 1 39 ≤ 6 := ⟨(hI.rg 39 (by decide)).1, hN.2.2.1⟩
  have h0 : 0 ≤ S 1 0 ∧ S 1 0 ≤ 999 := ⟨hN.2.1.2, hN.2.1.1⟩
  have hmx : ∀ i, 0 ≤ i → i < S 1 58 → inv (mixF (S 1) i) := fun i a b => (hN.2.2.2.2.1 i a b).1
  have hno : ∀ i, 0 ≤ i → i < S 1 39 → S 1 (40 + 3 * i) < 5 ∧ S 1 (40 + 3 * i + 1) ≤ 40 ∧ S 1 (40 + 3 * i + 2) ≤ 9 := fun i a b => by have q := hN.2.2.2.2.2 i a b; rw [show 41 + 3 * i = 40 + 3 * i + 1 by omega, show 42 + 3 * i = 40 + 3 * i + 2 by omega] at q; exact q
  have hTo : outR (S 2) := hV.2.1
  have hL := hV.2.2.2.1
  have htt2 := hV.2.2.2.2.1
  refine z_iload_n hx dX8_hunted_0 rfl 1 rfl ?_
  refine z_cSI (as := [.int (iI c)]) (rest := []) hx dX8_hunted_1 lk_X8_84 wt_X8_isCell mo_X8_isCell (kX8_isCell g (c := c) (by omega)) (by decide) rfl rfl (Nat.le_of_ble_eq_true rfl) ?_
  refine z_ifne_b (tgt := 14) hx dX8_hunted_4 (by decide)  (fun c_1 => ?_) (fun c_1 => ?_)
  ·
    refine z_aload_n hx dX8_hunted_14 rfl 0 rfl ?_
    refine z_get hx dX8_hunted_15 fl_X8_10 x0 rfl ?_
    refine z_get hx dX8_hunted_18 fl_X8_71 k0 rfl ?_
    refine z_get hx dX8_hunted_21 fl_X8_109 k1.1 rfl ?_
    refine z_bipush hx dX8_hunted_24 (by decide) ?_
    refine z_icmp_lt (tgt := 34) hx dX8_hunted_26 (by decide) (by omega) (by decide) (fun c_2 => ?_) (fun c_2 => ?_)
    ·
      refine z_aload_n hx dX8_hunted_34 rfl 0 rfl ?_
      refine z_get hx dX8_hunted_35 fl_X8_10 x0 rfl ?_
      refine z_get hx dX8_hunted_38 fl_X8_96 k0 rfl ?_
      refine z_iconst hx dX8_hunted_41 ?_
      refine z_putQ hx dX8_hunted_42 fl_X8_100 k2.1 ⟨rfl, rfl⟩ (Nat.le_of_ble_eq_true rfl) (fun h_3 hs_4 hf_5 => ?_)
      have hP_6 := PM.many (m := 0) k2 hs_4 hf_5
      have h_7 := hf_5.at (by omega) x0
      have h_8 := hf_5.at (by omega) k0
      have h_9 := CM.fr k1 hf_5 (by omega)
      have h_10 := hf_5.at (by omega) k3
      have h_11 := hf_5.at (by omega) k4
      have h_12 := hf_5.at (by omega) k5
      have h_13 := IB.fr hi0 hf_5 (by omega)
      have h_14 := IB.fr hi1 hf_5 (by omega)
      have h_15 := TB.fr htx hf_5 (by omega)
      have h_16 := CB.fr htr hf_5 (by omega)
      have h_17 := RB.fr hrb hf_5 (by omega)
      have h_18 := EB.fr heb hf_5 (by omega)
      have h_19 := HB.fr hhb hf_5 (by omega)
      have fr_20 : Fr h h_3 b 367 := hf_5.wd (by omega) (by omega)
      refine z_aload_n hx dX8_hunted_45 rfl 0 rfl ?_
      refine z_get hx dX8_hunted_46 fl_X8_10 h_7 rfl ?_
      refine z_get hx dX8_hunted_49 fl_X8_71 h_8 rfl ?_
      refine z_iload_n hx dX8_hunted_52 rfl 1 rfl ?_
      refine z_cVJ (as := [.int (iI c)]) (rest := []) hx dX8_hunted_53 lk_X8_112 wm_X1_addHunted wv_X1_addHunted (rcv_obj hx (And.left h_9) rfl) mo_X1_addHunted (kX1_addHunted g (F := F) (f := (S 1)) (ce9 := c) h_9 hR hI  (show (S 1) 37 < 6 by omega) (show rgI c by omega)) (by decide) rfl rfl (Nat.le_of_ble_eq_true rfl) (fun h_21 q_22 => ?_)
      obtain ⟨F_25, hC_23, hR_26, hf_24⟩ := q_22
      obtain ⟨f_28, ef_28⟩ : ∃ G : Int → Int, G = ahu (S 1) c := ⟨_, rfl⟩
      rw [← ef_28] at hR_26
      have iv_29 := And.intro (inv_ahu hI (c := c) (by omega) (by omega)) True.intro
      rw [← ef_28] at iv_29
      have h_30 := hf_24.at (by omega) h_7
      have h_31 := hf_24.at (by omega) h_8
      have h_32 := PM.fr hP_6 hf_24 (by omega)
      have h_33 := hf_24.at (by omega) h_10
      have h_34 := hf_24.at (by omega) h_11
      have h_35 := hf_24.at (by omega) h_12
      have h_36 := IB.fr h_13 hf_24 (by omega)
      have h_37 := IB.fr h_14 hf_24 (by omega)
      have h_38 := TB.fr h_15 hf_24 (by omega)
      have h_39 := CB.fr h_16 hf_24 (by omega)
      have h_40 := RB.fr h_17 hf_24 (by omega)
      have h_41 := EB.fr h_18 hf_24 (by omega)
      have h_42 := HB.fr h_19 hf_24 (by omega)
      have fr_43 := fr_20.tr (hf_24.wd (by omega) (by omega))
      have hnn : (0 ≤ (ahu (S 1) c) 26 ∧ (ahu (S 1) c) 26 ≤ 5) ∧ (0 ≤ (ahu (S 1) c) 37 ∧ (ahu (S 1) c) 37 ≤ 6) ∧ (0 ≤ (ahu (S 1) c) 38 ∧ (ahu (S 1) c) 38 ≤ 3) := by rw [← ef_28]; exact iv_29.1.n
      have eA : ∀ j, (ahu (fup (S 1) 58 0) c) j = if j = 58 then 0 else (ahu (S 1) c) j := ahu_z (by omega)
      have e39 : (ahu (S 1) c) 39 = S 1 39 := by unfold ahu; rw [fup_n (by omega), fup_n (by omega)]
      have eo : ∀ j, 39 ≤ j → (ahu (S 1) c) j = S 1 j := by intro j hj; unfold ahu; rw [fup_n (by omega), fup_n (by omega)]
      refine z_iret hx hr dX8_hunted_56 rfl rfl (q_j (by unfold huntedA; (repeat (first | rw [if_pos (by omega)] | rw [if_neg (by omega)])); (try first | rfl | omega)) (by unfold huntedA; (repeat (first | rw [if_pos (by omega)] | rw [if_neg (by omega)])); show XC h_21 b (S 0) (ahu (fup (S 1) 58 0) c) (S 4) (S 5) (S 6) (S 7) ∧ Fr h h_21 b 367; exact ⟨⟨F_25, pi, Fs, kq, N, T, h_30, KM.eq ⟨h_31, hC_23, h_32, h_33, h_34, h_35⟩ (by rw [eA, if_pos rfl]) (by rw [eA, if_neg (by decide), e39]), h_36, h_37, h_38, h_39, h_40, h_41, h_42, ⟨RLC_ext (by rw [← ef_28]; exact hR_26) hnn (fun j x y => by rw [eA, if_neg (by omega)]), (fun i a b => by rw [eA, if_pos rfl] at b; omega), NRl_ext hNn h39.2 (fun j x y => by rw [eA, if_neg (by omega)]; exact eo j x)⟩, htt⟩, fr_43⟩))
    ·
      refine z_aload_n hx dX8_hunted_29 rfl 0 rfl ?_
      refine z_cVJ (as := []) (rest := []) hx dX8_hunted_30 lk_X8_92 wm_X8_full wv_X8_full (rcv_obj hx x0 rfl) mo_X8_full (kX8_full g  x0) (by decide) rfl rfl (Nat.le_of_ble_eq_true rfl) (fun h_44 q_45 => ?_)
      obtain ⟨hs_46, hf_47⟩ := q_45
      have h_48 := hf_47.at (by omega) k0
      have h_49 := CM.fr k1 hf_47 (by omega)
      have h_50 := PM.fr k2 hf_47 (by omega)
      have h_51 := hf_47.at (by omega) k3
      have h_52 := hf_47.at (by omega) k4
      have h_53 := hf_47.at (by omega) k5
      have h_54 := IB.fr hi0 hf_47 (by omega)
      have h_55 := IB.fr hi1 hf_47 (by omega)
      have h_56 := TB.fr htx hf_47 (by omega)
      have h_57 := CB.fr htr hf_47 (by omega)
      have h_58 := RB.fr hrb hf_47 (by omega)
      have h_59 := EB.fr heb hf_47 (by omega)
      have h_60 := HB.fr hhb hf_47 (by omega)
      have fr_61 : Fr h h_44 b 367 := hf_47.wd (by omega) (by omega)
      refine z_iret hx hr dX8_hunted_33 rfl rfl (q_j (by unfold huntedA; (repeat (first | rw [if_pos (by omega)] | rw [if_neg (by omega)])); (try first | rfl | omega)) (by unfold huntedA; (repeat (first | rw [if_pos (by omega)] | rw [if_neg (by omega)])); show XC h_44 b (S 0) (S 1) (S 4) (S 5) (fup (S 6) 2 ((S 6) 2 + 1)) (S 7) ∧ Fr h h_44 b 367; exact ⟨⟨F, pi, Fs, kq, N, T, hs_46, KM.eq ⟨h_48, h_49, h_50, h_51, h_52, h_53⟩ (rfl) (rfl), h_54, h_55, h_56, h_57, h_58, h_59, h_60, ⟨hR, hPR, hNn⟩, htt⟩, fr_61⟩))
  ·
    refine z_aload_n hx dX8_hunted_7 rfl 0 rfl ?_
    refine z_bipush hx dX8_hunted_8 (by decide) ?_
    refine z_cVJ (as := [.int (iI (-2))]) (rest := []) hx dX8_hunted_10 lk_X8_88 wm_X8_bad wv_X8_bad (rcv_obj hx x0 rfl) mo_X8_bad (kX8_bad g (v := (-2)) x0) (by decide) rfl rfl (Nat.le_of_ble_eq_true rfl) (fun h_62 q_63 => ?_)
    obtain ⟨hs_64, hf_65⟩ := q_63
    have h_66 := hf_65.at (by omega) k0
    have h_67 := CM.fr k1 hf_65 (by omega)
    have h_68 := PM.fr k2 hf_65 (by omega)
    have h_69 := hf_65.at (by omega) k3
    have h_70 := hf_65.at (by omega) k4
    have h_71 := hf_65.at (by omega) k5
    have h_72 := IB.fr hi0 hf_65 (by omega)
    have h_73 := IB.fr hi1 hf_65 (by omega)
    have h_74 := TB.fr htx hf_65 (by omega)
    have h_75 := CB.fr htr hf_65 (by omega)
    have h_76 := RB.fr hrb hf_65 (by omega)
    have h_77 := EB.fr heb hf_65 (by omega)
    have h_78 := HB.fr hhb hf_65 (by omega)
    have fr_79 : Fr h h_62 b 367 := hf_65.wd (by omega) (by omega)
    refine z_iret hx hr dX8_hunted_13 rfl rfl (q_j (by unfold huntedA; (repeat (first | rw [if_pos (by omega)] | rw [if_neg (by omega)])); (try first | rfl | omega)) (by unfold huntedA; (repeat (first | rw [if_pos (by omega)] | rw [if_neg (by omega)])); show XC h_62 b (S 0) (S 1) (S 4) (S 5) (fup (S 6) 0 ((S 6) 0 + 1)) (S 7) ∧ Fr h h_62 b 367; exact ⟨⟨F, pi, Fs, kq, N, T, hs_64, KM.eq ⟨h_66, h_67, h_68, h_69, h_70, h_71⟩ (rfl) (rfl), h_72, h_73, h_74, h_75, h_76, h_77, h_78, ⟨hR, hPR, hNn⟩, htt⟩, fr_79⟩))

set_option maxHeartbeats 4000000 in
set_option maxRecDepth 20000 in
theorem kX8_sheriff (g : Gt) {h : AH} {b : Nat} {S : Nat → Int → Int} {c : Int} (hX : XR h b S) (hV : invM S) (g_c : rgI c) : CnJ g mX8_sheriff 3 [.ref b, .int (iI c)] h (sheriffA S c).1 (QX h b (sheriffA S c).2) := by
  refine Cn.mk (by decide +kernel) (Nat.le_of_ble_eq_true rfl) ?_
  intro x sz hx hr
  show Zj g x (sz, 0, 0) h 0 [(0, .ref b), (1, .int (iI c))] []
  obtain ⟨F, pi, Fs, kq, N, T, x0, hK, hi0, hi1, htx, htr, hrb, heb, hhb, ⟨hR, hPR, hNn⟩, htt⟩ := hX
  obtain ⟨k0, k1, k2, k3, k4, k5⟩ := hK
  have hN := hV.1
  have hI := hN.1
  have hn := hI.n
  have rn := hR.n
  have h58 : 0 ≤ S 1 58 ∧ S 1 58 ≤ 8 := ⟨(hI.rg 58 (by decide)).1, hN.2.2.2.1⟩
  have h39 : 0 ≤ S 1 39 ∧ S 1 39 ≤ 6 := ⟨(hI.rg 39 (by decide)).1, hN.2.2.1⟩
  have h0 : 0 ≤ S 1 0 ∧ S 1 0 ≤ 999 := ⟨hN.2.1.2, hN.2.1.1⟩
  have hmx : ∀ i, 0 ≤ i → i < S 1 58 → inv (mixF (S 1) i) := fun i a b => (hN.2.2.2.2.1 i a b).1
  have hno : ∀ i, 0 ≤ i → i < S 1 39 → S 1 (40 + 3 * i) < 5 ∧ S 1 (40 + 3 * i + 1) ≤ 40 ∧ S 1 (40 + 3 * i + 2) ≤ 9 := fun i a b => by have q := hN.2.2.2.2.2 i a b; rw [show 41 + 3 * i = 40 + 3 * i + 1 by omega, show 42 + 3 * i = 40 + 3 * i + 2 by omega] at q; exact q
  have hTo : outR (S 2) := hV.2.1
  have hL := hV.2.2.2.1
  have htt2 := hV.2.2.2.2.1
  refine z_iload_n hx dX8_sheriff_0 rfl 1 rfl ?_
  refine z_cSI (as := [.int (iI c)]) (rest := []) hx dX8_sheriff_1 lk_X8_84 wt_X8_isCell mo_X8_isCell (kX8_isCell g (c := c) (by omega)) (by decide) rfl rfl (Nat.le_of_ble_eq_true rfl) ?_
  refine z_ifne_b (tgt := 14) hx dX8_sheriff_4 (by decide)  (fun c_1 => ?_) (fun c_1 => ?_)
  ·
    refine z_aload_n hx dX8_sheriff_14 rfl 0 rfl ?_
    refine z_get hx dX8_sheriff_15 fl_X8_10 x0 rfl ?_
    refine z_get hx dX8_sheriff_18 fl_X8_71 k0 rfl ?_
    refine z_get hx dX8_sheriff_21 fl_X8_115 k1.1 rfl ?_
    refine z_iconst hx dX8_sheriff_24 ?_
    refine z_icmp_lt (tgt := 33) hx dX8_sheriff_25 (by decide) (by omega) (by decide) (fun c_2 => ?_) (fun c_2 => ?_)
    ·
      refine z_aload_n hx dX8_sheriff_33 rfl 0 rfl ?_
      refine z_get hx dX8_sheriff_34 fl_X8_10 x0 rfl ?_
      refine z_get hx dX8_sheriff_37 fl_X8_96 k0 rfl ?_
      refine z_iconst hx dX8_sheriff_40 ?_
      refine z_putQ hx dX8_sheriff_41 fl_X8_100 k2.1 ⟨rfl, rfl⟩ (Nat.le_of_ble_eq_true rfl) (fun h_3 hs_4 hf_5 => ?_)
      have hP_6 := PM.many (m := 0) k2 hs_4 hf_5
      have h_7 := hf_5.at (by omega) x0
      have h_8 := hf_5.at (by omega) k0
      have h_9 := CM.fr k1 hf_5 (by omega)
      have h_10 := hf_5.at (by omega) k3
      have h_11 := hf_5.at (by omega) k4
      have h_12 := hf_5.at (by omega) k5
      have h_13 := IB.fr hi0 hf_5 (by omega)
      have h_14 := IB.fr hi1 hf_5 (by omega)
      have h_15 := TB.fr htx hf_5 (by omega)
      have h_16 := CB.fr htr hf_5 (by omega)
      have h_17 := RB.fr hrb hf_5 (by omega)
      have h_18 := EB.fr heb hf_5 (by omega)
      have h_19 := HB.fr hhb hf_5 (by omega)
      have fr_20 : Fr h h_3 b 367 := hf_5.wd (by omega) (by omega)
      refine z_aload_n hx dX8_sheriff_44 rfl 0 rfl ?_
      refine z_get hx dX8_sheriff_45 fl_X8_10 h_7 rfl ?_
      refine z_get hx dX8_sheriff_48 fl_X8_71 h_8 rfl ?_
      refine z_iload_n hx dX8_sheriff_51 rfl 1 rfl ?_
      refine z_cVJ (as := [.int (iI c)]) (rest := []) hx dX8_sheriff_52 lk_X8_118 wm_X1_addSheriff wv_X1_addSheriff (rcv_obj hx (And.left h_9) rfl) mo_X1_addSheriff (kX1_addSheriff g (F := F) (f := (S 1)) (ce9 := c) h_9 hR hI  (show (S 1) 38 < 3 by omega)) (by decide) rfl rfl (Nat.le_of_ble_eq_true rfl) (fun h_21 q_22 => ?_)
      obtain ⟨F_25, hC_23, hR_26, hf_24⟩ := q_22
      obtain ⟨f_28, ef_28⟩ : ∃ G : Int → Int, G = ash (S 1) c := ⟨_, rfl⟩
      rw [← ef_28] at hR_26
      have iv_29 := And.intro (inv_ash hI (c := c) (by omega) (by omega)) True.intro
      rw [← ef_28] at iv_29
      have h_30 := hf_24.at (by omega) h_7
      have h_31 := hf_24.at (by omega) h_8
      have h_32 := PM.fr hP_6 hf_24 (by omega)
      have h_33 := hf_24.at (by omega) h_10
      have h_34 := hf_24.at (by omega) h_11
      have h_35 := hf_24.at (by omega) h_12
      have h_36 := IB.fr h_13 hf_24 (by omega)
      have h_37 := IB.fr h_14 hf_24 (by omega)
      have h_38 := TB.fr h_15 hf_24 (by omega)
      have h_39 := CB.fr h_16 hf_24 (by omega)
      have h_40 := RB.fr h_17 hf_24 (by omega)
      have h_41 := EB.fr h_18 hf_24 (by omega)
      have h_42 := HB.fr h_19 hf_24 (by omega)
      have fr_43 := fr_20.tr (hf_24.wd (by omega) (by omega))
      have hnn : (0 ≤ (ash (S 1) c) 26 ∧ (ash (S 1) c) 26 ≤ 5) ∧ (0 ≤ (ash (S 1) c) 37 ∧ (ash (S 1) c) 37 ≤ 6) ∧ (0 ≤ (ash (S 1) c) 38 ∧ (ash (S 1) c) 38 ≤ 3) := by rw [← ef_28]; exact iv_29.1.n
      have eA : ∀ j, (ash (fup (S 1) 58 0) c) j = if j = 58 then 0 else (ash (S 1) c) j := ash_z (by omega)
      have e39 : (ash (S 1) c) 39 = S 1 39 := by unfold ash; rw [fup_n (by omega), fup_n (by omega)]
      have eo : ∀ j, 39 ≤ j → (ash (S 1) c) j = S 1 j := by intro j hj; unfold ash; rw [fup_n (by omega), fup_n (by omega)]
      refine z_iret hx hr dX8_sheriff_55 rfl rfl (q_j (by unfold sheriffA; (repeat (first | rw [if_pos (by omega)] | rw [if_neg (by omega)])); (try first | rfl | omega)) (by unfold sheriffA; (repeat (first | rw [if_pos (by omega)] | rw [if_neg (by omega)])); show XC h_21 b (S 0) (ash (fup (S 1) 58 0) c) (S 4) (S 5) (S 6) (S 7) ∧ Fr h h_21 b 367; exact ⟨⟨F_25, pi, Fs, kq, N, T, h_30, KM.eq ⟨h_31, hC_23, h_32, h_33, h_34, h_35⟩ (by rw [eA, if_pos rfl]) (by rw [eA, if_neg (by decide), e39]), h_36, h_37, h_38, h_39, h_40, h_41, h_42, ⟨RLC_ext (by rw [← ef_28]; exact hR_26) hnn (fun j x y => by rw [eA, if_neg (by omega)]), (fun i a b => by rw [eA, if_pos rfl] at b; omega), NRl_ext hNn h39.2 (fun j x y => by rw [eA, if_neg (by omega)]; exact eo j x)⟩, htt⟩, fr_43⟩))
    ·
      refine z_aload_n hx dX8_sheriff_28 rfl 0 rfl ?_
      refine z_cVJ (as := []) (rest := []) hx dX8_sheriff_29 lk_X8_92 wm_X8_full wv_X8_full (rcv_obj hx x0 rfl) mo_X8_full (kX8_full g  x0) (by decide) rfl rfl (Nat.le_of_ble_eq_true rfl) (fun h_44 q_45 => ?_)
      obtain ⟨hs_46, hf_47⟩ := q_45
      have h_48 := hf_47.at (by omega) k0
      have h_49 := CM.fr k1 hf_47 (by omega)
      have h_50 := PM.fr k2 hf_47 (by omega)
      have h_51 := hf_47.at (by omega) k3
      have h_52 := hf_47.at (by omega) k4
      have h_53 := hf_47.at (by omega) k5
      have h_54 := IB.fr hi0 hf_47 (by omega)
      have h_55 := IB.fr hi1 hf_47 (by omega)
      have h_56 := TB.fr htx hf_47 (by omega)
      have h_57 := CB.fr htr hf_47 (by omega)
      have h_58 := RB.fr hrb hf_47 (by omega)
      have h_59 := EB.fr heb hf_47 (by omega)
      have h_60 := HB.fr hhb hf_47 (by omega)
      have fr_61 : Fr h h_44 b 367 := hf_47.wd (by omega) (by omega)
      refine z_iret hx hr dX8_sheriff_32 rfl rfl (q_j (by unfold sheriffA; (repeat (first | rw [if_pos (by omega)] | rw [if_neg (by omega)])); (try first | rfl | omega)) (by unfold sheriffA; (repeat (first | rw [if_pos (by omega)] | rw [if_neg (by omega)])); show XC h_44 b (S 0) (S 1) (S 4) (S 5) (fup (S 6) 2 ((S 6) 2 + 1)) (S 7) ∧ Fr h h_44 b 367; exact ⟨⟨F, pi, Fs, kq, N, T, hs_46, KM.eq ⟨h_48, h_49, h_50, h_51, h_52, h_53⟩ (rfl) (rfl), h_54, h_55, h_56, h_57, h_58, h_59, h_60, ⟨hR, hPR, hNn⟩, htt⟩, fr_61⟩))
  ·
    refine z_aload_n hx dX8_sheriff_7 rfl 0 rfl ?_
    refine z_bipush hx dX8_sheriff_8 (by decide) ?_
    refine z_cVJ (as := [.int (iI (-2))]) (rest := []) hx dX8_sheriff_10 lk_X8_88 wm_X8_bad wv_X8_bad (rcv_obj hx x0 rfl) mo_X8_bad (kX8_bad g (v := (-2)) x0) (by decide) rfl rfl (Nat.le_of_ble_eq_true rfl) (fun h_62 q_63 => ?_)
    obtain ⟨hs_64, hf_65⟩ := q_63
    have h_66 := hf_65.at (by omega) k0
    have h_67 := CM.fr k1 hf_65 (by omega)
    have h_68 := PM.fr k2 hf_65 (by omega)
    have h_69 := hf_65.at (by omega) k3
    have h_70 := hf_65.at (by omega) k4
    have h_71 := hf_65.at (by omega) k5
    have h_72 := IB.fr hi0 hf_65 (by omega)
    have h_73 := IB.fr hi1 hf_65 (by omega)
    have h_74 := TB.fr htx hf_65 (by omega)
    have h_75 := CB.fr htr hf_65 (by omega)
    have h_76 := RB.fr hrb hf_65 (by omega)
    have h_77 := EB.fr heb hf_65 (by omega)
    have h_78 := HB.fr hhb hf_65 (by omega)
    have fr_79 : Fr h h_62 b 367 := hf_65.wd (by omega) (by omega)
    refine z_iret hx hr dX8_sheriff_13 rfl rfl (q_j (by unfold sheriffA; (repeat (first | rw [if_pos (by omega)] | rw [if_neg (by omega)])); (try first | rfl | omega)) (by unfold sheriffA; (repeat (first | rw [if_pos (by omega)] | rw [if_neg (by omega)])); show XC h_62 b (S 0) (S 1) (S 4) (S 5) (fup (S 6) 0 ((S 6) 0 + 1)) (S 7) ∧ Fr h h_62 b 367; exact ⟨⟨F, pi, Fs, kq, N, T, hs_64, KM.eq ⟨h_66, h_67, h_68, h_69, h_70, h_71⟩ (rfl) (rfl), h_72, h_73, h_74, h_75, h_76, h_77, h_78, ⟨hR, hPR, hNn⟩, htt⟩, fr_79⟩))

