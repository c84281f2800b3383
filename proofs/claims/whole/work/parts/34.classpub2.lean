/-! the class: its text, hours, images -/
abbrev CnW (g : Gt) (M : MM) (d : Nat) (as : List Value) (h : AH) (w : Value) : Prop := Cn g M d as h (fun v h' => v = some w ∧ h' = h)
theorem q_w {w w' : Value} {h : AH} {sz : Nat} (e : w' = w) : (some w' = some w ∧ h = h) ∧ sz = sz := ⟨⟨by rw [e], rfl⟩, rfl⟩
/-- two rows that agree with a row that invN holds of -/
theorem IRl_ext2 {F : Nat → Int → Int} {Fs : Int → Nat → Int → Int} {m n : Int} {N : Nat → Int → Int} {f g q : Int → Int} (h : IRl F Fs m n N f) (hq : invN q) (e1 : ∀ j, 0 ≤ j → j < 267 → f j = q j) (e2 : ∀ j, 0 ≤ j → j < 267 → g j = q j) : IRl F Fs m n N g := by
  obtain ⟨a, b, c, d, r⟩ := h
  have hn := hq.1.n
  have h58 := hq.r58
  have h39 := hq.r39
  have e : ∀ j, 0 ≤ j → j < 267 → g j = f j := fun j x y => (e2 j x y).trans (e1 j x y).symm
  have f26 := e1 26 (by decide) (by decide); have f37 := e1 37 (by decide) (by decide); have f38 := e1 38 (by decide) (by decide); have f58 := e1 58 (by decide) (by decide); have f39 := e1 39 (by decide) (by decide)
  refine ⟨RLC_ext a (by omega) (fun j x y => e j x (by omega)), by rw [e 58 (by decide) (by decide)]; exact b, fun i x y => ?_, by rw [e 39 (by decide) (by decide)]; exact d, fun i x y => ?_⟩
  · rw [e 58 (by decide) (by decide)] at y
    refine RLC_ext (c i x y) ?_ (fun j x2 y2 => ?_)
    · rw [mixF_hi (by omega), mixF_hi (by omega), mixF_hi (by omega)]; omega
    · by_cases w : 0 ≤ j ∧ j < 26
      · rw [mixF_lo w, mixF_lo w]; exact e _ (by omega) (by omega)
      · rw [mixF_hi w, mixF_hi w]; exact e _ (by omega) (by omega)
  · rw [e 39 (by decide) (by decide)] at y
    have := r i x y
    rw [e _ (by omega) (by omega), e _ (by omega) (by omega), e _ (by omega) (by omega)]
    exact this
theorem IB_ext {h : AH} {k : Nat} {kp kp' : Int} {f g q : Int → Int} (b : IB h k kp f) (hk : kp' = kp) (hq : kp = 1 → invN q) (e1 : ∀ j, 0 ≤ j → j < 267 → f j = q j) (e2 : ∀ j, 0 ≤ j → j < 267 → g j = q j) : IB h k kp' g := by
  subst hk
  obtain ⟨F, pi, Fs, m, n, N, K, r⟩ := b
  exact ⟨F, pi, Fs, m, n, N, K, fun w => IRl_ext2 (r w) (hq w) e1 e2⟩
theorem IB_kp {h : AH} {k : Nat} {kp kp' : Int} {g : Int → Int} (e : kp' = kp) (b : IB h k kp g) : IB h k kp' g := by rw [e]; exact b
theorem inv_hr1 {T : Int → Int} (h : inv T) : inv (gon 1 T) ∧ cfx T (gon 1 T) ∧ gon 1 T = goBy T := ⟨(inv_gon h (by decide)).1, (inv_gon h (by decide)).2, rfl⟩

set_option maxHeartbeats 4000000 in
set_option maxRecDepth 20000 in
theorem kX7_add (g : Gt) {h : AH} {t : Nat} {T : Int → Int} {L a1 a2 a3 a4 c : Int} (hM : TM h t T L a1 a2 a3 a4) (hL : 0 ≤ L ∧ L < 150) (hc : 0 ≤ c ∧ c < 128) : CnV g mX7_add 1 [.ref t, .int (iI c)] h (fun h' => TM h' t (fup T L c) (L + 1) a1 a2 a3 a4 ∧ Fr h h' t 2) := by
  refine Cn.mk (by decide +kernel) (Nat.le_of_ble_eq_true rfl) ?_
  intro x sz hx hr
  show Zj g x (sz, 0, 0) h 0 [(0, .ref t), (1, .int (iI c))] []
  obtain ⟨t0, t1⟩ := hM
  refine z_aload_n hx dX7_add_0 rfl 0 rfl ?_
  refine z_get hx dX7_add_1 fl_X7_15 t0 rfl ?_
  refine z_sipush hx dX7_add_4 (by decide) ?_
  refine z_icmp_ge (tgt := 31) hx dX7_add_7 (by decide) (by omega) (by decide) (fun c_1 => by exfalso; omega) (fun c_1 => ?_)
  refine z_aload_n hx dX7_add_10 rfl 0 rfl ?_
  refine z_get hx dX7_add_11 fl_X7_9 t0 rfl ?_
  refine z_aload_n hx dX7_add_14 rfl 0 rfl ?_
  refine z_get hx dX7_add_15 fl_X7_15 t0 rfl ?_
  refine z_iload_n hx dX7_add_18 rfl 1 rfl ?_
  refine z_i2c hx dX7_add_19 (by omega) ?_
  refine z_cast hx dX7_add_20 t1 (by omega) (by decide) (nar_c (by omega)) ?_
  obtain ⟨h_2, eh_2⟩ : ∃ hh, hh = hup h (t + 1) (.inl (1, 150, fup T L c)) := ⟨_, rfl⟩
  have hs_3 : h_2 (t + 1) = some (.inl (1, 150, fup T L c)) := by rw [eh_2]; exact hup_s _ _ _
  have hf_4 : Fr h h_2 (t + 1) 1 := by rw [eh_2]; exact hup_Fr _ _ _
  rw [← eh_2]
  have h_5 := hf_4.at (by omega) t0
  have fr_6 : Fr h h_2 t 2 := hf_4.wd (by omega) (by omega)
  refine z_aload_n hx dX7_add_21 rfl 0 rfl ?_
  refine z_dup hx dX7_add_22 rfl ?_
  refine z_get hx dX7_add_23 fl_X7_15 h_5 rfl ?_
  refine z_iconst hx dX7_add_26 ?_
  refine z_iadd hx dX7_add_27 ?_
  refine z_putQ hx dX7_add_28 fl_X7_15 h_5 ⟨rfl, rfl⟩ (Nat.le_of_ble_eq_true rfl) (fun h_7 hs_8 hf_9 => ?_)
  have h_10 := hf_9.at (by omega) hs_3
  have fr_11 := fr_6.tr (hf_9.wd (by omega) (by omega))
  refine z_vret hx hr dX7_add_31 rfl (q_v (Q := fun h' => TM h' t (fup T L c) (L + 1) a1 a2 a3 a4 ∧ Fr h h' t 2) ⟨⟨hs_8, h_10⟩, fr_11⟩)

set_option maxHeartbeats 4000000 in
set_option maxRecDepth 20000 in
theorem kX8_type (g : Gt) {h : AH} {b : Nat} {S : Nat → Int → Int} {c : Int} (hX : XR h b S) (hV : invM S) (g_c : rgI c) : CnJ g mX8_type 2 [.ref b, .int (iI c)] h (typeA S c).1 (QX h b (typeA S c).2) := by
  refine Cn.mk (by decide +kernel) (Nat.le_of_ble_eq_true rfl) ?_
  intro x sz hx hr
  show Zj g x (sz, 0, 0) h 0 [(0, .ref b), (1, .int (iI c))] []
  obtain ⟨F, pi, Fs, kq, N, T, x0, hK, hi0, hi1, htx, htr, hrb, heb, hhb, ⟨hR, hPR, hNn⟩, htt⟩ := hX
  obtain ⟨k0, k1, k2, k3, k4, k5⟩ := hK
  have hN := hV.1
  have hI := hN.1
  have hn := hI.n
  have rn := hR.n
  have h58 : 0 ≤ S 1 58 ∧ S 1 58 ≤ 8 := ⟨(hI.rg 58 (by decide)).1, hN.2.2.2.1⟩
  have h39 : 0 ≤ S 1 39 ∧ S 1 39 ≤ 6 := ⟨(hI.rg 39 (by decide)).1, hN.2.2.1⟩
  have h0 : 0 ≤ S 1 0 ∧ S 1 0 ≤ 999 := ⟨hN.2.1.2, hN.2.1.1⟩
  have hmx : ∀ i, 0 ≤ i → i < S 1 58 → inv (mixF (S 1) i) := fun i a b => (hN.2.2.2.2.1 i a b).1
  have hno : ∀ i, 0 ≤ i → i < S 1 39 → S 1 (40 + 3 * i) < 5 ∧ S 1 (40 + 3 * i + 1) ≤ 40 ∧ S 1 (40 + 3 * i + 2) ≤ 9 := fun i a b => by have q := hN.2.2.2.2.2 i a b; rw [show 41 + 3 * i = 40 + 3 * i + 1 by omega, show 42 + 3 * i = 40 + 3 * i + 2 by omega] at q; exact q
  have hTo : outR (S 2) := hV.2.1
  have hL := hV.2.2.2.1
  have htt2 := hV.2.2.2.2.1
  obtain ⟨a1, a2, a3, a4, t0, t1⟩ := htx
  refine z_iload_n hx dX8_type_0 rfl 1 rfl ?_
  refine z_iconst hx dX8_type_1 ?_
  refine z_bipush hx dX8_type_2 (by decide) ?_
  refine z_cSI (as := [.int (iI c), .int (iI 0), .int (iI 127)]) (rest := []) hx dX8_type_4 lk_X8_80 wt_X8_isIn mo_X8_isIn (kX8_isIn g (a := c) (b := 0) (c := 127) (by omega) (by omega) (by omega)) (by decide) rfl rfl (Nat.le_of_ble_eq_true rfl) ?_
  refine z_ifne_b (tgt := 17) hx dX8_type_7 (by decide)  (fun c_1 => ?_) (fun c_1 => ?_)
  ·
    refine z_aload_n hx dX8_type_17 rfl 0 rfl ?_
    refine z_get hx dX8_type_18 fl_X8_25 x0 rfl ?_
    refine z_get hx dX8_type_21 fl_X8_121 t0 rfl ?_
    refine z_sipush hx dX8_type_24 (by decide) ?_
    refine z_icmp_lt (tgt := 35) hx dX8_type_27 (by decide) (by omega) (by decide) (fun c_2 => ?_) (fun c_2 => ?_)
    ·
      refine z_aload_n hx dX8_type_35 rfl 0 rfl ?_
      refine z_get hx dX8_type_36 fl_X8_25 x0 rfl ?_
      refine z_iload_n hx dX8_type_39 rfl 1 rfl ?_
      refine z_cVV (as := [.int (iI c)]) (rest := []) hx dX8_type_40 lk_X8_124 wm_X7_add wv_X7_add (rcv_obj hx t0 rfl) mo_X7_add (kX7_add g (T := T) (L := (S 0 8)) (c := c) ⟨t0, t1⟩ (by omega) (by omega)) (by decide) rfl rfl (Nat.le_of_ble_eq_true rfl) (fun h_3 q_4 => ?_)
      obtain ⟨⟨t_5, t_6⟩, hf_7⟩ := q_4
      have h_8 := hf_7.at (by omega) x0
      have h_9 := hf_7.at (by omega) k0
      have h_10 := CM.fr k1 hf_7 (by omega)
      have h_11 := PM.fr k2 hf_7 (by omega)
      have h_12 := hf_7.at (by omega) k3
      have h_13 := hf_7.at (by omega) k4
      have h_14 := hf_7.at (by omega) k5
      have h_15 := IB.fr hi0 hf_7 (by omega)
      have h_16 := IB.fr hi1 hf_7 (by omega)
      have h_17 := CB.fr htr hf_7 (by omega)
      have h_18 := RB.fr hrb hf_7 (by omega)
      have h_19 := EB.fr heb hf_7 (by omega)
      have h_20 := HB.fr hhb hf_7 (by omega)
      have fr_21 : Fr h h_3 b 367 := hf_7.wd (by omega) (by omega)
      refine z_aload_n hx dX8_type_43 rfl 0 rfl ?_
      refine z_get hx dX8_type_44 fl_X8_25 h_8 rfl ?_
      refine z_get hx dX8_type_47 fl_X8_121 t_5 rfl ?_
      refine z_iret hx hr dX8_type_50 rfl rfl (q_j (by unfold typeA; (repeat (first | rw [if_pos (by omega)] | rw [if_neg (by omega)])); (try first | rfl | omega)) (by unfold typeA; (repeat (first | rw [if_pos (by omega)] | rw [if_neg (by omega)])); show XC h_3 b (fup (S 0) 8 (S 0 8 + 1)) (S 1) (S 4) (S 5) (S 6) (fup (S 7) (S 0 8) c) ∧ Fr h h_3 b 367; exact ⟨⟨F, pi, Fs, kq, N, (fup T (S 0 8) c), h_8, KM.eq ⟨h_9, h_10, h_11, h_12, h_13, h_14⟩ (rfl) (rfl), h_15, h_16, ⟨_, _, _, _, t_5, t_6⟩, h_17, h_18, h_19, h_20, ⟨hR, hPR, hNn⟩, (fun j a b => by have b2 : j < S 0 8 + 1 := b; show (if j = S 0 8 then c else T j) = (if j = S 0 8 then c else S 7 j); split; rfl; exact htt j a (by omega))⟩, fr_21⟩))
    ·
      refine z_aload_n hx dX8_type_30 rfl 0 rfl ?_
      refine z_cVJ (as := []) (rest := []) hx dX8_type_31 lk_X8_92 wm_X8_full wv_X8_full (rcv_obj hx x0 rfl) mo_X8_full (kX8_full g  x0) (by decide) rfl rfl (Nat.le_of_ble_eq_true rfl) (fun h_22 q_23 => ?_)
      obtain ⟨hs_24, hf_25⟩ := q_23
      have h_26 := hf_25.at (by omega) k0
      have h_27 := CM.fr k1 hf_25 (by omega)
      have h_28 := PM.fr k2 hf_25 (by omega)
      have h_29 := hf_25.at (by omega) k3
      have h_30 := hf_25.at (by omega) k4
      have h_31 := hf_25.at (by omega) k5
      have h_32 := IB.fr hi0 hf_25 (by omega)
      have h_33 := IB.fr hi1 hf_25 (by omega)
      have h_34 := CB.fr htr hf_25 (by omega)
      have h_35 := RB.fr hrb hf_25 (by omega)
      have h_36 := EB.fr heb hf_25 (by omega)
      have h_37 := HB.fr hhb hf_25 (by omega)
      have h_38 := hf_25.at (by omega) t0
      have h_39 := hf_25.at (by omega) t1
      have fr_40 : Fr h h_22 b 367 := hf_25.wd (by omega) (by omega)
      refine z_iret hx hr dX8_type_34 rfl rfl (q_j (by unfold typeA; (repeat (first | rw [if_pos (by omega)] | rw [if_neg (by omega)])); (try first | rfl | omega)) (by unfold typeA; (repeat (first | rw [if_pos (by omega)] | rw [if_neg (by omega)])); show XC h_22 b (S 0) (S 1) (S 4) (S 5) (fup (S 6) 2 ((S 6) 2 + 1)) (S 7) ∧ Fr h h_22 b 367; exact ⟨⟨F, pi, Fs, kq, N, T, hs_24, KM.eq ⟨h_26, h_27, h_28, h_29, h_30, h_31⟩ (rfl) (rfl), h_32, h_33, ⟨_, _, _, _, h_38, h_39⟩, h_34, h_35, h_36, h_37, ⟨hR, hPR, hNn⟩, htt⟩, fr_40⟩))
  ·
    refine z_aload_n hx dX8_type_10 rfl 0 rfl ?_
    refine z_bipush hx dX8_type_11 (by decide) ?_
    refine z_cVJ (as := [.int (iI (-2))]) (rest := []) hx dX8_type_13 lk_X8_88 wm_X8_bad wv_X8_bad (rcv_obj hx x0 rfl) mo_X8_bad (kX8_bad g (v := (-2)) x0) (by decide) rfl rfl (Nat.le_of_ble_eq_true rfl) (fun h_41 q_42 => ?_)
    obtain ⟨hs_43, hf_44⟩ := q_42
    have h_45 := hf_44.at (by omega) k0
    have h_46 := CM.fr k1 hf_44 (by omega)
    have h_47 := PM.fr k2 hf_44 (by omega)
    have h_48 := hf_44.at (by omega) k3
    have h_49 := hf_44.at (by omega) k4
    have h_50 := hf_44.at (by omega) k5
    have h_51 := IB.fr hi0 hf_44 (by omega)
    have h_52 := IB.fr hi1 hf_44 (by omega)
    have h_53 := CB.fr htr hf_44 (by omega)
    have h_54 := RB.fr hrb hf_44 (by omega)
    have h_55 := EB.fr heb hf_44 (by omega)
    have h_56 := HB.fr hhb hf_44 (by omega)
    have h_57 := hf_44.at (by omega) t0
    have h_58 := hf_44.at (by omega) t1
    have fr_59 : Fr h h_41 b 367 := hf_44.wd (by omega) (by omega)
    refine z_iret hx hr dX8_type_16 rfl rfl (q_j (by unfold typeA; (repeat (first | rw [if_pos (by omega)] | rw [if_neg (by omega)])); (try first | rfl | omega)) (by unfold typeA; (repeat (first | rw [if_pos (by omega)] | rw [if_neg (by omega)])); show XC h_41 b (S 0) (S 1) (S 4) (S 5) (fup (S 6) 0 ((S 6) 0 + 1)) (S 7) ∧ Fr h h_41 b 367; exact ⟨⟨F, pi, Fs, kq, N, T, hs_43, KM.eq ⟨h_45, h_46, h_47, h_48, h_49, h_50⟩ (rfl) (rfl), h_51, h_52, ⟨_, _, _, _, h_57, h_58⟩, h_53, h_54, h_55, h_56, ⟨hR, hPR, hNn⟩, htt⟩, fr_59⟩))

set_option maxHeartbeats 4000000 in
set_option maxRecDepth 20000 in
theorem kX8_clear (g : Gt) {h : AH} {b : Nat} {S : Nat → Int → Int}  (hX : XR h b S) (hV : invM S)  : CnJ g mX8_clear 1 [.ref b] h (clearA S).1 (QX h b (clearA S).2) := by
  refine Cn.mk (by decide +kernel) (Nat.le_of_ble_eq_true rfl) ?_
  intro x sz hx hr
  show Zj g x (sz, 0, 0) h 0 [(0, .ref b)] []
  obtain ⟨F, pi, Fs, kq, N, T, x0, hK, hi0, hi1, htx, htr, hrb, heb, hhb, ⟨hR, hPR, hNn⟩, htt⟩ := hX
  obtain ⟨k0, k1, k2, k3, k4, k5⟩ := hK
  have hN := hV.1
  have hI := hN.1
  have hn := hI.n
  have rn := hR.n
  have h58 : 0 ≤ S 1 58 ∧ S 1 58 ≤ 8 := ⟨(hI.rg 58 (by decide)).1, hN.2.2.2.1⟩
  have h39 : 0 ≤ S 1 39 ∧ S 1 39 ≤ 6 := ⟨(hI.rg 39 (by decide)).1, hN.2.2.1⟩
  have h0 : 0 ≤ S 1 0 ∧ S 1 0 ≤ 999 := ⟨hN.2.1.2, hN.2.1.1⟩
  have hmx : ∀ i, 0 ≤ i → i < S 1 58 → inv (mixF (S 1) i) := fun i a b => (hN.2.2.2.2.1 i a b).1
  have hno : ∀ i, 0 ≤ i → i < S 1 39 → S 1 (40 + 3 * i) < 5 ∧ S 1 (40 + 3 * i + 1) ≤ 40 ∧ S 1 (40 + 3 * i + 2) ≤ 9 := fun i a b => by have q := hN.2.2.2.2.2 i a b; rw [show 41 + 3 * i = 40 + 3 * i + 1 by omega, show 42 + 3 * i = 40 + 3 * i + 2 by omega] at q; exact q
  have hTo : outR (S 2) := hV.2.1
  have hL := hV.2.2.2.1
  have htt2 := hV.2.2.2.2.1
  obtain ⟨a1, a2, a3, a4, t0, t1⟩ := htx
  refine z_aload_n hx dX8_clear_0 rfl 0 rfl ?_
  refine z_get hx dX8_clear_1 fl_X8_25 x0 rfl ?_
  refine z_get hx dX8_clear_4 fl_X8_121 t0 rfl ?_
  refine z_istore_n hx dX8_clear_7 rfl (by decide) [1, 0] (lv' := [(0, .ref b), (1, .int (iI (S 0 8)))]) rfl ?_
  refine z_aload_n hx dX8_clear_8 rfl 0 rfl ?_
  refine z_get hx dX8_clear_9 fl_X8_25 x0 rfl ?_
  refine z_iconst hx dX8_clear_12 ?_
  refine z_putQ hx dX8_clear_13 fl_X8_121 t0 ⟨rfl, rfl⟩ (Nat.le_of_ble_eq_true rfl) (fun h_1 hs_2 hf_3 => ?_)
  have h_4 := hf_3.at (by omega) x0
  have h_5 := hf_3.at (by omega) k0
  have h_6 := CM.fr k1 hf_3 (by omega)
  have h_7 := PM.fr k2 hf_3 (by omega)
  have h_8 := hf_3.at (by omega) k3
  have h_9 := hf_3.at (by omega) k4
  have h_10 := hf_3.at (by omega) k5
  have h_11 := IB.fr hi0 hf_3 (by omega)
  have h_12 := IB.fr hi1 hf_3 (by omega)
  have h_13 := CB.fr htr hf_3 (by omega)
  have h_14 := RB.fr hrb hf_3 (by omega)
  have h_15 := EB.fr heb hf_3 (by omega)
  have h_16 := HB.fr hhb hf_3 (by omega)
  have h_17 := hf_3.at (by omega) t1
  have fr_18 : Fr h h_1 b 367 := hf_3.wd (by omega) (by omega)
  refine z_iload_n hx dX8_clear_16 rfl 1 rfl ?_
  refine z_iret hx hr dX8_clear_17 rfl rfl (q_j (by unfold clearA; (repeat (first | rw [if_pos (by omega)] | rw [if_neg (by omega)])); (try first | rfl | omega)) (by unfold clearA; (repeat (first | rw [if_pos (by omega)] | rw [if_neg (by omega)])); show XC h_1 b (fup (S 0) 8 0) (S 1) (S 4) (S 5) (S 6) (S 7) ∧ Fr h h_1 b 367; exact ⟨⟨F, pi, Fs, kq, N, T, h_4, KM.eq ⟨h_5, h_6, h_7, h_8, h_9, h_10⟩ (rfl) (rfl), h_11, h_12, ⟨_, _, _, _, hs_2, h_17⟩, h_13, h_14, h_15, h_16, ⟨hR, hPR, hNn⟩, (fun j a b => absurd (show j < 0 from b) (by omega))⟩, fr_18⟩))

set_option maxHeartbeats 4000000 in
set_option maxRecDepth 20000 in
theorem kX8_darn (g : Gt) {h : AH} {b : Nat} {S : Nat → Int → Int} {k : Int} {n : Int} (hX : XR h b S) (hV : invM S) (g_k : rgI k) (g_n : rgI n) : CnJ g mX8_darn 4 [.ref b, .int (iI k), .int (iI n)] h (darnA S k n).1 (QX h b (darnA S k n).2) := by
  refine Cn.mk (by decide +kernel) (Nat.le_of_ble_eq_true rfl) ?_
  intro x sz hx hr
  show Zj g x (sz, 0, 0) h 0 [(0, .ref b), (1, .int (iI k)), (2, .int (iI n))] []
  obtain ⟨F, pi, Fs, kq, N, T, x0, hK, hi0, hi1, htx, htr, hrb, heb, hhb, ⟨hR, hPR, hNn⟩, htt⟩ := hX
  obtain ⟨k0, k1, k2, k3, k4, k5⟩ := hK
  have hN := hV.1
  have hI := hN.1
  have hn := hI.n
  have rn := hR.n
  have h58 : 0 ≤ S 1 58 ∧ S 1 58 ≤ 8 := ⟨(hI.rg 58 (by decide)).1, hN.2.2.2.1⟩
  have h39 : 0 ≤ S 1 39 ∧ S 1 39 ≤ 6 := ⟨(hI.rg 39 (by decide)).1, hN.2.2.1⟩
  have h0 : 0 ≤ S 1 0 ∧ S 1 0 ≤ 999 := ⟨hN.2.1.2, hN.2.1.1⟩
  have hmx : ∀ i, 0 ≤ i → i < S 1 58 → inv (mixF (S 1) i) := fun i a b => (hN.2.2.2.2.1 i a b).1
  have hno : ∀ i, 0 ≤ i → i < S 1 39 → S 1 (40 + 3 * i) < 5 ∧ S 1 (40 + 3 * i + 1) ≤ 40 ∧ S 1 (40 + 3 * i + 2) ≤ 9 := fun i a b => by have q := hN.2.2.2.2.2 i a b; rw [show 41 + 3 * i = 40 + 3 * i + 1 by omega, show 42 + 3 * i = 40 + 3 * i + 2 by omega] at q; exact q
  have hTo : outR (S 2) := hV.2.1
  have hL := hV.2.2.2.1
  have htt2 := hV.2.2.2.2.1
  refine z_aload_n hx dX8_darn_0 rfl 0 rfl ?_
  refine z_iload_n hx dX8_darn_1 rfl 1 rfl ?_
  refine z_cVI (as := [.int (iI k)]) (rest := []) hx dX8_darn_2 lk_X8_154 wm_X8_isCosy wv_X8_isCosy (rcv_obj hx x0 rfl) mo_X8_isCosy (kX8_isCosy g (k := k) (F := F) (N := N) (f := (S 1)) x0 ⟨k0, k1, k2, k3, k4, k5⟩ hR hI (show rgI k by omega)) (by decide) rfl rfl (Nat.le_of_ble_eq_true rfl) ?_
  refine z_ifeq_b (tgt := 18) hx dX8_darn_5 (by decide)  (fun c_1 => ?_) (fun c_1 => ?_)
  ·
    refine z_aload_n hx dX8_darn_18 rfl 0 rfl ?_
    refine z_bipush hx dX8_darn_19 (by decide) ?_
    refine z_cVJ (as := [.int (iI (-2))]) (rest := []) hx dX8_darn_21 lk_X8_88 wm_X8_bad wv_X8_bad (rcv_obj hx x0 rfl) mo_X8_bad (kX8_bad g (v := (-2)) x0) (by decide) rfl rfl (Nat.le_of_ble_eq_true rfl) (fun h_2 q_3 => ?_)
    obtain ⟨hs_4, hf_5⟩ := q_3
    have h_6 := hf_5.at (by omega) k0
    have h_7 := CM.fr k1 hf_5 (by omega)
    have h_8 := PM.fr k2 hf_5 (by omega)
    have h_9 := hf_5.at (by omega) k3
    have h_10 := hf_5.at (by omega) k4
    have h_11 := hf_5.at (by omega) k5
    have h_12 := IB.fr hi0 hf_5 (by omega)
    have h_13 := IB.fr hi1 hf_5 (by omega)
    have h_14 := TB.fr htx hf_5 (by omega)
    have h_15 := CB.fr htr hf_5 (by omega)
    have h_16 := RB.fr hrb hf_5 (by omega)
    have h_17 := EB.fr heb hf_5 (by omega)
    have h_18 := HB.fr hhb hf_5 (by omega)
    have fr_19 : Fr h h_2 b 367 := hf_5.wd (by omega) (by omega)
    refine z_iret hx hr dX8_darn_24 rfl rfl (q_j (by unfold darnA; (repeat (first | rw [if_pos (by omega)] | rw [if_neg (by omega)])); (try first | exact ew | rfl)) (by unfold darnA; (repeat (first | rw [if_pos (by omega)] | rw [if_neg (by omega)])); show XC h_2 b (S 0) (S 1) (S 4) (S 5) (fup (S 6) 0 ((S 6) 0 + 1)) (S 7) ∧ Fr h h_2 b 367; exact ⟨⟨F, pi, Fs, kq, N, T, hs_4, KM.eq ⟨h_6, h_7, h_8, h_9, h_10, h_11⟩ (rfl) (rfl), h_12, h_13, h_14, h_15, h_16, h_17, h_18, ⟨hR, hPR, hNn⟩, htt⟩, fr_19⟩))
  ·
    refine z_iload_n hx dX8_darn_8 rfl 2 rfl ?_
    refine z_iconst hx dX8_darn_9 ?_
    refine z_bipush hx dX8_darn_10 (by decide) ?_
    refine z_cSI (as := [.int (iI n), .int (iI 1), .int (iI 40)]) (rest := []) hx dX8_darn_12 lk_X8_80 wt_X8_isIn mo_X8_isIn (kX8_isIn g (a := n) (b := 1) (c := 40) (by omega) (by omega) (by omega)) (by decide) rfl rfl (Nat.le_of_ble_eq_true rfl) ?_
    refine z_ifne_b (tgt := 25) hx dX8_darn_15 (by decide)  (fun c_20 => ?_) (fun c_20 => ?_)
    ·
      refine z_aload_n hx dX8_darn_25 rfl 0 rfl ?_
      refine z_get hx dX8_darn_26 fl_X8_10 x0 rfl ?_
      refine z_get hx dX8_darn_29 fl_X8_96 k0 rfl ?_
      refine z_aload_n hx dX8_darn_32 rfl 0 rfl ?_
      refine z_get hx dX8_darn_33 fl_X8_10 x0 rfl ?_
      refine z_get hx dX8_darn_36 fl_X8_71 k0 rfl ?_
      refine z_cVV (as := [.ref ((b + 1) + 1)]) (rest := []) hx dX8_darn_39 lk_X8_142 wm_X5_keep wv_X5_keep (rcv_obj hx (And.left k2) rfl) mo_X5_keep (kX5_keep g (f := (S 1)) k2 k1 hR hI hPR hmx h58 (by omega)) (by decide) rfl rfl (Nat.le_of_ble_eq_true rfl) (fun h_21 q_22 => ?_)
      obtain ⟨pi_23, Fs_24, hP_25, hQ_26, hf_27⟩ := q_22
      have h_28 := hf_27.at (by omega) x0
      have h_29 := hf_27.at (by omega) k0
      have h_30 := CM.fr k1 hf_27 (by omega)
      have h_31 := hf_27.at (by omega) k3
      have h_32 := hf_27.at (by omega) k4
      have h_33 := hf_27.at (by omega) k5
      have h_34 := IB.fr hi0 hf_27 (by omega)
      have h_35 := IB.fr hi1 hf_27 (by omega)
      have h_36 := TB.fr htx hf_27 (by omega)
      have h_37 := CB.fr htr hf_27 (by omega)
      have h_38 := RB.fr hrb hf_27 (by omega)
      have h_39 := EB.fr heb hf_27 (by omega)
      have h_40 := HB.fr hhb hf_27 (by omega)
      have fr_41 : Fr h h_21 b 367 := hf_27.wd (by omega) (by omega)
      have hVk := invN_kpb hN
      have hmk : ∀ i, 0 ≤ i → i < kpb (S 1) 58 → inv (mixF (kpb (S 1)) i) := fun i a b => (hVk.m0 i ⟨a, b⟩).1
      have hnk := hVk.1.n
      have k26 : kpb (S 1) 26 = S 1 26 := kpb_lo h58 (by decide)
      have k37 : kpb (S 1) 37 = S 1 37 := kpb_lo h58 (by decide)
      have k0 := hVk.r0
      have hRk : RLC F (kpb (S 1)) := RLC_ext hR hn (fun j x y => kpb_lo h58 (by omega))
      refine z_iconst hx dX8_darn_42 ?_
      refine z_aload_n hx dX8_darn_43 rfl 0 rfl ?_
      refine z_get hx dX8_darn_44 fl_X8_10 h_28 rfl ?_
      refine z_get hx dX8_darn_47 fl_X8_71 h_29 rfl ?_
      refine z_get hx dX8_darn_50 fl_X8_157 h_30.1 rfl ?_
      refine z_iload_n hx dX8_darn_53 rfl 1 rfl ?_
      refine z_iald hx dX8_darn_54 h_30.2.2.2.2.1 (by omega) (by decide) ?_
      have rk_42 := hRk.k k (by first | omega | decide)
      have ik_43 := hVk.1.k k (by first | omega | decide)
      refine z_iload_n hx dX8_darn_55 rfl 2 rfl ?_
      refine z_isub hx dX8_darn_56 ?_
      refine z_mmax hx dX8_darn_57 wk_X8_160 (by decide) (by omega) (by decide) (Nat.le_of_ble_eq_true rfl) ?_
      have f_44 := mx_c 0 ((F 4 k) - n)
      refine z_istore_n hx dX8_darn_60 rfl (by decide) [1, 2, 3, 0] (lv' := [(0, .ref b), (1, .int (iI k)), (2, .int (iI n)), (3, .int (iI (mxI 0 ((F 4 k) - n))))]) rfl ?_
      refine z_aload_n hx dX8_darn_61 rfl 0 rfl ?_
      refine z_get hx dX8_darn_62 fl_X8_10 h_28 rfl ?_
      refine z_get hx dX8_darn_65 fl_X8_71 h_29 rfl ?_
      refine z_iload_n hx dX8_darn_68 rfl 1 rfl ?_
      refine z_iload_n hx dX8_darn_69 rfl 3 rfl ?_
      refine z_cVV (as := [.int (iI k), .int (iI (mxI 0 ((F 4 k) - n)))]) (rest := []) hx dX8_darn_70 lk_X8_166 wm_X1_setWear wv_X1_setWear (rcv_obj hx (And.left h_30) rfl) mo_X1_setWear (kX1_setWear g (F := F) (k := k) (w := (mxI 0 ((F 4 k) - n))) h_30 (show 0 ≤ k ∧ k < F 0 0 ∧ F 0 0 ≤ 5 by have := hRk.n; omega)) (by decide) rfl rfl (Nat.le_of_ble_eq_true rfl) (fun h_45 q_46 => ?_)
      obtain ⟨hC_47, hf_48⟩ := q_46
      obtain ⟨F_49, eF_49⟩ : ∃ G : Nat → Int → Int, G = sst F 4 (fup (F 4) k (mxI 0 ((F 4 k) - n))) := ⟨_, rfl⟩
      rw [← eF_49] at hC_47
      have h_50 := hf_48.at (by omega) h_28
      have h_51 := hf_48.at (by omega) h_29
      have h_52 := PM.fr hP_25 hf_48 (by omega)
      have h_53 := hf_48.at (by omega) h_31
      have h_54 := hf_48.at (by omega) h_32
      have h_55 := hf_48.at (by omega) h_33
      have h_56 := IB.fr h_34 hf_48 (by omega)
      have h_57 := IB.fr h_35 hf_48 (by omega)
      have h_58 := TB.fr h_36 hf_48 (by omega)
      have h_59 := CB.fr h_37 hf_48 (by omega)
      have h_60 := RB.fr h_38 hf_48 (by omega)
      have h_61 := EB.fr h_39 hf_48 (by omega)
      have h_62 := HB.fr h_40 hf_48 (by omega)
      have fr_63 := fr_41.tr (hf_48.wd (by omega) (by omega))
      have k6 : kpb (S 1) (6 + k) = S 1 (6 + k) := kpb_lo h58 (by omega)
      have ew : mxI 0 (F 4 k - n) = drn (S 1) k n := by unfold mxI drn; (repeat' split) <;> omega
      have hRw : RLC F_49 (fup (kpb (S 1)) (6 + k) (drn (S 1) k n)) := by rw [eF_49, ew]; exact RLC_we hRk hnk (by omega)
      have hcf : cfx (kpb (S 1)) (fup (kpb (S 1)) (6 + k) (drn (S 1) k n)) := cfx_fup (by omega)
      refine z_iload_n hx dX8_darn_73 rfl 3 rfl ?_
      refine z_iret hx hr dX8_darn_74 rfl rfl (q_j (by unfold darnA; (repeat (first | rw [if_pos (by omega)] | rw [if_neg (by omega)])); (try first | exact ew | rfl)) (by unfold darnA; (repeat (first | rw [if_pos (by omega)] | rw [if_neg (by omega)])); show XC h_45 b (S 0) (fup (kpb (S 1)) (6 + k) (drn (S 1) k n)) (S 4) (S 5) (S 6) (S 7) ∧ Fr h h_45 b 367; exact ⟨⟨F_49, pi_23, Fs_24, kq, N, T, h_50, KM.eq ⟨h_51, hC_47, h_52, h_53, h_54, h_55⟩ (hcf 58 (by decide)) ((hcf 39 (by decide)).trans (kpb_lo h58 (by decide))), h_56, h_57, h_58, h_59, h_60, h_61, h_62, ⟨hRw, PRl_cfx hQ_26 hmk hVk.2.2.2.1 hcf, NRl_ext hNn h39.2 (fun j x y => (hcf j (by omega)).trans (kpb_lo h58 (by omega)))⟩, htt⟩, fr_63⟩))
    ·
      refine z_aload_n hx dX8_darn_18 rfl 0 rfl ?_
      refine z_bipush hx dX8_darn_19 (by decide) ?_
      refine z_cVJ (as := [.int (iI (-2))]) (rest := []) hx dX8_darn_21 lk_X8_88 wm_X8_bad wv_X8_bad (rcv_obj hx x0 rfl) mo_X8_bad (kX8_bad g (v := (-2)) x0) (by decide) rfl rfl (Nat.le_of_ble_eq_true rfl) (fun h_64 q_65 => ?_)
      obtain ⟨hs_66, hf_67⟩ := q_65
      have h_68 := hf_67.at (by omega) k0
      have h_69 := CM.fr k1 hf_67 (by omega)
      have h_70 := PM.fr k2 hf_67 (by omega)
      have h_71 := hf_67.at (by omega) k3
      have h_72 := hf_67.at (by omega) k4
      have h_73 := hf_67.at (by omega) k5
      have h_74 := IB.fr hi0 hf_67 (by omega)
      have h_75 := IB.fr hi1 hf_67 (by omega)
      have h_76 := TB.fr htx hf_67 (by omega)
      have h_77 := CB.fr htr hf_67 (by omega)
      have h_78 := RB.fr hrb hf_67 (by omega)
      have h_79 := EB.fr heb hf_67 (by omega)
      have h_80 := HB.fr hhb hf_67 (by omega)
      have fr_81 : Fr h h_64 b 367 := hf_67.wd (by omega) (by omega)
      refine z_iret hx hr dX8_darn_24 rfl rfl (q_j (by unfold darnA; (repeat (first | rw [if_pos (by omega)] | rw [if_neg (by omega)])); (try first | exact ew | rfl)) (by unfold darnA; (repeat (first | rw [if_pos (by omega)] | rw [if_neg (by omega)])); show XC h_64 b (S 0) (S 1) (S 4) (S 5) (fup (S 6) 0 ((S 6) 0 + 1)) (S 7) ∧ Fr h h_64 b 367; exact ⟨⟨F, pi, Fs, kq, N, T, hs_66, KM.eq ⟨h_68, h_69, h_70, h_71, h_72, h_73⟩ (rfl) (rfl), h_74, h_75, h_76, h_77, h_78, h_79, h_80, ⟨hR, hPR, hNn⟩, htt⟩, fr_81⟩))

set_option maxHeartbeats 4000000 in
set_option maxRecDepth 20000 in
theorem kX8_carry (g : Gt) {h : AH} {b : Nat} {S : Nat → Int → Int} {k : Int} {c : Int} (hX : XR h b S) (hV : invM S) (g_k : rgI k) (g_c : rgI c) : CnJ g mX8_carry 4 [.ref b, .int (iI k), .int (iI c)] h (carryA S k c).1 (QX h b (carryA S k c).2) := by
  refine Cn.mk (by decide +kernel) (Nat.le_of_ble_eq_true rfl) ?_
  intro x sz hx hr
  show Zj g x (sz, 0, 0) h 0 [(0, .ref b), (1, .int (iI k)), (2, .int (iI c))] []
  obtain ⟨F, pi, Fs, kq, N, T, x0, hK, hi0, hi1, htx, htr, hrb, heb, hhb, ⟨hR, hPR, hNn⟩, htt⟩ := hX
  obtain ⟨k0, k1, k2, k3, k4, k5⟩ := hK
  have hN := hV.1
  have hI := hN.1
  have hn := hI.n
  have rn := hR.n
  have h58 : 0 ≤ S 1 58 ∧ S 1 58 ≤ 8 := ⟨(hI.rg 58 (by decide)).1, hN.2.2.2.1⟩
  have h39 : 0 ≤ S 1 39 ∧ S 1 39 ≤ 6 := ⟨(hI.rg 39 (by decide)).1, hN.2.2.1⟩
  have h0 : 0 ≤ S 1 0 ∧ S 1 0 ≤ 999 := ⟨hN.2.1.2, hN.2.1.1⟩
  have hmx : ∀ i, 0 ≤ i → i < S 1 58 → inv (mixF (S 1) i) := fun i a b => (hN.2.2.2.2.1 i a b).1
  have hno : ∀ i, 0 ≤ i → i < S 1 39 → S 1 (40 + 3 * i) < 5 ∧ S 1 (40 + 3 * i + 1) ≤ 40 ∧ S 1 (40 + 3 * i + 2) ≤ 9 := fun i a b => by have q := hN.2.2.2.2.2 i a b; rw [show 41 + 3 * i = 40 + 3 * i + 1 by omega, show 42 + 3 * i = 40 + 3 * i + 2 by omega] at q; exact q
  have hTo : outR (S 2) := hV.2.1
  have hL := hV.2.2.2.1
  have htt2 := hV.2.2.2.2.1
  refine z_aload_n hx dX8_carry_0 rfl 0 rfl ?_
  refine z_iload_n hx dX8_carry_1 rfl 1 rfl ?_
  refine z_cVI (as := [.int (iI k)]) (rest := []) hx dX8_carry_2 lk_X8_154 wm_X8_isCosy wv_X8_isCosy (rcv_obj hx x0 rfl) mo_X8_isCosy (kX8_isCosy g (k := k) (F := F) (N := N) (f := (S 1)) x0 ⟨k0, k1, k2, k3, k4, k5⟩ hR hI (show rgI k by omega)) (by decide) rfl rfl (Nat.le_of_ble_eq_true rfl) ?_
  refine z_ifeq_b (tgt := 15) hx dX8_carry_5 (by decide)  (fun c_1 => ?_) (fun c_1 => ?_)
  ·
    refine z_aload_n hx dX8_carry_15 rfl 0 rfl ?_
    refine z_bipush hx dX8_carry_16 (by decide) ?_
    refine z_cVJ (as := [.int (iI (-2))]) (rest := []) hx dX8_carry_18 lk_X8_88 wm_X8_bad wv_X8_bad (rcv_obj hx x0 rfl) mo_X8_bad (kX8_bad g (v := (-2)) x0) (by decide) rfl rfl (Nat.le_of_ble_eq_true rfl) (fun h_2 q_3 => ?_)
    obtain ⟨hs_4, hf_5⟩ := q_3
    have h_6 := hf_5.at (by omega) k0
    have h_7 := CM.fr k1 hf_5 (by omega)
    have h_8 := PM.fr k2 hf_5 (by omega)
    have h_9 := hf_5.at (by omega) k3
    have h_10 := hf_5.at (by omega) k4
    have h_11 := hf_5.at (by omega) k5
    have h_12 := IB.fr hi0 hf_5 (by omega)
    have h_13 := IB.fr hi1 hf_5 (by omega)
    have h_14 := TB.fr htx hf_5 (by omega)
    have h_15 := CB.fr htr hf_5 (by omega)
    have h_16 := RB.fr hrb hf_5 (by omega)
    have h_17 := EB.fr heb hf_5 (by omega)
    have h_18 := HB.fr hhb hf_5 (by omega)
    have fr_19 : Fr h h_2 b 367 := hf_5.wd (by omega) (by omega)
    refine z_iret hx hr dX8_carry_21 rfl rfl (q_j (by unfold carryA; (repeat (first | rw [if_pos (by omega)] | rw [if_neg (by omega)])); (try first | rfl | omega)) (by unfold carryA; (repeat (first | rw [if_pos (by omega)] | rw [if_neg (by omega)])); (try rw [← eg9]); show XC h_2 b (S 0) (S 1) (S 4) (S 5) (fup (S 6) 0 ((S 6) 0 + 1)) (S 7) ∧ Fr h h_2 b 367; exact ⟨⟨F, pi, Fs, kq, N, T, hs_4, KM.eq ⟨h_6, h_7, h_8, h_9, h_10, h_11⟩ (rfl) (rfl), h_12, h_13, h_14, h_15, h_16, h_17, h_18, ⟨hR, hPR, hNn⟩, htt⟩, fr_19⟩))
  ·
    refine z_iload_n hx dX8_carry_8 rfl 2 rfl ?_
    refine z_cSI (as := [.int (iI c)]) (rest := []) hx dX8_carry_9 lk_X8_84 wt_X8_isCell mo_X8_isCell (kX8_isCell g (c := c) (by omega)) (by decide) rfl rfl (Nat.le_of_ble_eq_true rfl) ?_
    refine z_ifne_b (tgt := 22) hx dX8_carry_12 (by decide)  (fun c_20 => ?_) (fun c_20 => ?_)
    ·
      refine z_aload_n hx dX8_carry_22 rfl 0 rfl ?_
      refine z_get hx dX8_carry_23 fl_X8_10 x0 rfl ?_
      refine z_get hx dX8_carry_26 fl_X8_96 k0 rfl ?_
      refine z_aload_n hx dX8_carry_29 rfl 0 rfl ?_
      refine z_get hx dX8_carry_30 fl_X8_10 x0 rfl ?_
      refine z_get hx dX8_carry_33 fl_X8_71 k0 rfl ?_
      refine z_cVV (as := [.ref ((b + 1) + 1)]) (rest := []) hx dX8_carry_36 lk_X8_142 wm_X5_keep wv_X5_keep (rcv_obj hx (And.left k2) rfl) mo_X5_keep (kX5_keep g (f := (S 1)) k2 k1 hR hI hPR hmx h58 (by omega)) (by decide) rfl rfl (Nat.le_of_ble_eq_true rfl) (fun h_21 q_22 => ?_)
      obtain ⟨pi_23, Fs_24, hP_25, hQ_26, hf_27⟩ := q_22
      have h_28 := hf_27.at (by omega) x0
      have h_29 := hf_27.at (by omega) k0
      have h_30 := CM.fr k1 hf_27 (by omega)
      have h_31 := hf_27.at (by omega) k3
      have h_32 := hf_27.at (by omega) k4
      have h_33 := hf_27.at (by omega) k5
      have h_34 := IB.fr hi0 hf_27 (by omega)
      have h_35 := IB.fr hi1 hf_27 (by omega)
      have h_36 := TB.fr htx hf_27 (by omega)
      have h_37 := CB.fr htr hf_27 (by omega)
      have h_38 := RB.fr hrb hf_27 (by omega)
      have h_39 := EB.fr heb hf_27 (by omega)
      have h_40 := HB.fr hhb hf_27 (by omega)
      have fr_41 : Fr h h_21 b 367 := hf_27.wd (by omega) (by omega)
      have hVk := invN_kpb hN
      have hmk : ∀ i, 0 ≤ i → i < kpb (S 1) 58 → inv (mixF (kpb (S 1)) i) := fun i a b => (hVk.m0 i ⟨a, b⟩).1
      have hnk := hVk.1.n
      have k26 : kpb (S 1) 26 = S 1 26 := kpb_lo h58 (by decide)
      have k37 : kpb (S 1) 37 = S 1 37 := kpb_lo h58 (by decide)
      have k0 := hVk.r0
      have hRk : RLC F (kpb (S 1)) := RLC_ext hR hn (fun j x y => kpb_lo h58 (by omega))
      refine z_aload_n hx dX8_carry_39 rfl 0 rfl ?_
      refine z_get hx dX8_carry_40 fl_X8_10 h_28 rfl ?_
      refine z_get hx dX8_carry_43 fl_X8_71 h_29 rfl ?_
      refine z_get hx dX8_carry_46 fl_X8_170 h_30.1 rfl ?_
      refine z_iload_n hx dX8_carry_49 rfl 1 rfl ?_
      refine z_iald hx dX8_carry_50 h_30.2.2.1 (by omega) (by decide) ?_
      have rk_42 := hRk.k k (by first | omega | decide)
      have ik_43 := hVk.1.k k (by first | omega | decide)
      refine z_istore_n hx dX8_carry_51 rfl (by decide) [1, 2, 3, 0] (lv' := [(0, .ref b), (1, .int (iI k)), (2, .int (iI c)), (3, .int (iI (F 2 k)))]) rfl ?_
      refine z_aload_n hx dX8_carry_52 rfl 0 rfl ?_
      refine z_get hx dX8_carry_53 fl_X8_10 h_28 rfl ?_
      refine z_get hx dX8_carry_56 fl_X8_71 h_29 rfl ?_
      refine z_iload_n hx dX8_carry_59 rfl 1 rfl ?_
      refine z_iload_n hx dX8_carry_60 rfl 2 rfl ?_
      refine z_cVV (as := [.int (iI k), .int (iI c)]) (rest := []) hx dX8_carry_61 lk_X8_173 wm_X1_moveCosy wv_X1_moveCosy (rcv_obj hx (And.left h_30) rfl) mo_X1_moveCosy (kX1_moveCosy g (F := F) (f := (kpb (S 1))) (k := k) (ce9 := c) h_30 hRk hVk.1  (show 0 ≤ k ∧ k < (kpb (S 1)) 26 by omega) (show 0 ≤ c ∧ c < 24 by omega)) (by decide) rfl rfl (Nat.le_of_ble_eq_true rfl) (fun h_44 q_45 => ?_)
      obtain ⟨F_48, hC_46, hR_49, hf_47⟩ := q_45
      obtain ⟨f_51, ef_51⟩ : ∃ G : Int → Int, G = brt (kpb (S 1)) k c := ⟨_, rfl⟩
      rw [← ef_51] at hR_49
      have iv_52 := inv_brt hVk.1 (k := k) (c := c) (by omega) (by omega)
      rw [← ef_51] at iv_52
      have h_53 := hf_47.at (by omega) h_28
      have h_54 := hf_47.at (by omega) h_29
      have h_55 := PM.fr hP_25 hf_47 (by omega)
      have h_56 := hf_47.at (by omega) h_31
      have h_57 := hf_47.at (by omega) h_32
      have h_58 := hf_47.at (by omega) h_33
      have h_59 := IB.fr h_34 hf_47 (by omega)
      have h_60 := IB.fr h_35 hf_47 (by omega)
      have h_61 := TB.fr h_36 hf_47 (by omega)
      have h_62 := CB.fr h_37 hf_47 (by omega)
      have h_63 := RB.fr h_38 hf_47 (by omega)
      have h_64 := EB.fr h_39 hf_47 (by omega)
      have h_65 := HB.fr h_40 hf_47 (by omega)
      have fr_66 := fr_41.tr (hf_47.wd (by omega) (by omega))
      have eg9 := ef_51
      have r11 := (hR.k k (by omega)).2.1
      have hcf : cfx (kpb (S 1)) f_51 := iv_52.2
      refine z_iload_n hx dX8_carry_64 rfl 3 rfl ?_
      refine z_iret hx hr dX8_carry_65 rfl rfl (q_j (by unfold carryA; (repeat (first | rw [if_pos (by omega)] | rw [if_neg (by omega)])); (try first | rfl | omega)) (by unfold carryA; (repeat (first | rw [if_pos (by omega)] | rw [if_neg (by omega)])); (try rw [← eg9]); show XC h_44 b (S 0) f_51 (S 4) (S 5) (S 6) (S 7) ∧ Fr h h_44 b 367; exact ⟨⟨F_48, pi_23, Fs_24, kq, N, T, h_53, KM.eq ⟨h_54, hC_46, h_55, h_56, h_57, h_58⟩ (hcf 58 (by decide)) ((hcf 39 (by decide)).trans (kpb_lo h58 (by decide))), h_59, h_60, h_61, h_62, h_63, h_64, h_65, ⟨hR_49, PRl_cfx hQ_26 hmk hVk.2.2.2.1 hcf, NRl_ext hNn h39.2 (fun j x y => (hcf j (by omega)).trans (kpb_lo h58 (by omega)))⟩, htt⟩, fr_66⟩))
    ·
      refine z_aload_n hx dX8_carry_15 rfl 0 rfl ?_
      refine z_bipush hx dX8_carry_16 (by decide) ?_
      refine z_cVJ (as := [.int (iI (-2))]) (rest := []) hx dX8_carry_18 lk_X8_88 wm_X8_bad wv_X8_bad (rcv_obj hx x0 rfl) mo_X8_bad (kX8_bad g (v := (-2)) x0) (by decide) rfl rfl (Nat.le_of_ble_eq_true rfl) (fun h_67 q_68 => ?_)
      obtain ⟨hs_69, hf_70⟩ := q_68
      have h_71 := hf_70.at (by omega) k0
      have h_72 := CM.fr k1 hf_70 (by omega)
      have h_73 := PM.fr k2 hf_70 (by omega)
      have h_74 := hf_70.at (by omega) k3
      have h_75 := hf_70.at (by omega) k4
      have h_76 := hf_70.at (by omega) k5
      have h_77 := IB.fr hi0 hf_70 (by omega)
      have h_78 := IB.fr hi1 hf_70 (by omega)
      have h_79 := TB.fr htx hf_70 (by omega)
      have h_80 := CB.fr htr hf_70 (by omega)
      have h_81 := RB.fr hrb hf_70 (by omega)
      have h_82 := EB.fr heb hf_70 (by omega)
      have h_83 := HB.fr hhb hf_70 (by omega)
      have fr_84 : Fr h h_67 b 367 := hf_70.wd (by omega) (by omega)
      refine z_iret hx hr dX8_carry_21 rfl rfl (q_j (by unfold carryA; (repeat (first | rw [if_pos (by omega)] | rw [if_neg (by omega)])); (try first | rfl | omega)) (by unfold carryA; (repeat (first | rw [if_pos (by omega)] | rw [if_neg (by omega)])); (try rw [← eg9]); show XC h_67 b (S 0) (S 1) (S 4) (S 5) (fup (S 6) 0 ((S 6) 0 + 1)) (S 7) ∧ Fr h h_67 b 367; exact ⟨⟨F, pi, Fs, kq, N, T, hs_69, KM.eq ⟨h_71, h_72, h_73, h_74, h_75, h_76⟩ (rfl) (rfl), h_77, h_78, h_79, h_80, h_81, h_82, h_83, ⟨hR, hPR, hNn⟩, htt⟩, fr_84⟩))

set_option maxHeartbeats 4000000 in
set_option maxRecDepth 20000 in
theorem kX8_undo (g : Gt) {h : AH} {b : Nat} {S : Nat → Int → Int}  (hX : XR h b S) (hV : invM S)  : CnJ g mX8_undo 4 [.ref b] h (undoA S).1 (QX h b (undoA S).2) := by
  refine Cn.mk (by decide +kernel) (Nat.le_of_ble_eq_true rfl) ?_
  intro x sz hx hr
  show Zj g x (sz, 0, 0) h 0 [(0, .ref b)] []
  obtain ⟨F, pi, Fs, kq, N, T, x0, hK, hi0, hi1, htx, htr, hrb, heb, hhb, ⟨hR, hPR, hNn⟩, htt⟩ := hX
  obtain ⟨k0, k1, k2, k3, k4, k5⟩ := hK
  have hN := hV.1
  have hI := hN.1
  have hn := hI.n
  have rn := hR.n
  have h58 : 0 ≤ S 1 58 ∧ S 1 58 ≤ 8 := ⟨(hI.rg 58 (by decide)).1, hN.2.2.2.1⟩
  have h39 : 0 ≤ S 1 39 ∧ S 1 39 ≤ 6 := ⟨(hI.rg 39 (by decide)).1, hN.2.2.1⟩
  have h0 : 0 ≤ S 1 0 ∧ S 1 0 ≤ 999 := ⟨hN.2.1.2, hN.2.1.1⟩
  have hmx : ∀ i, 0 ≤ i → i < S 1 58 → inv (mixF (S 1) i) := fun i a b => (hN.2.2.2.2.1 i a b).1
  have hno : ∀ i, 0 ≤ i → i < S 1 39 → S 1 (40 + 3 * i) < 5 ∧ S 1 (40 + 3 * i + 1) ≤ 40 ∧ S 1 (40 + 3 * i + 2) ≤ 9 := fun i a b => by have q := hN.2.2.2.2.2 i a b; rw [show 41 + 3 * i = 40 + 3 * i + 1 by omega, show 42 + 3 * i = 40 + 3 * i + 2 by omega] at q; exact q
  have hTo : outR (S 2) := hV.2.1
  have hL := hV.2.2.2.1
  have htt2 := hV.2.2.2.2.1
  refine z_aload_n hx dX8_undo_0 rfl 0 rfl ?_
  refine z_get hx dX8_undo_1 fl_X8_10 x0 rfl ?_
  refine z_get hx dX8_undo_4 fl_X8_96 k0 rfl ?_
  refine z_get hx dX8_undo_7 fl_X8_100 k2.1 rfl ?_
  refine z_if_gt (tgt := 18) hx dX8_undo_10 (by decide) (by omega) (fun c_1 => ?_) (fun c_1 => ?_)
  ·
    refine z_aload_n hx dX8_undo_18 rfl 0 rfl ?_
    refine z_get hx dX8_undo_19 fl_X8_10 x0 rfl ?_
    refine z_get hx dX8_undo_22 fl_X8_96 k0 rfl ?_
    refine z_aload_n hx dX8_undo_25 rfl 0 rfl ?_
    refine z_get hx dX8_undo_26 fl_X8_10 x0 rfl ?_
    refine z_get hx dX8_undo_29 fl_X8_71 k0 rfl ?_
    refine z_cVV (as := [.ref ((b + 1) + 1)]) (rest := []) hx dX8_undo_32 lk_X8_179 wm_X5_giveBack wv_X5_giveBack (rcv_obj hx (And.left k2) rfl) mo_X5_giveBack (kX5_giveBack g (f := (S 1)) k2 k1 hPR hmx (by omega) rfl) (by decide) rfl rfl (Nat.le_of_ble_eq_true rfl) (fun h_2 q_3 => ?_)
    obtain ⟨F_4, hC_5, hR_6, hP_7, hQ_8, hf_9⟩ := q_3
    have h_10 := hf_9.at (by omega) x0
    have h_11 := hf_9.at (by omega) k0
    have h_12 := hf_9.at (by omega) k3
    have h_13 := hf_9.at (by omega) k4
    have h_14 := hf_9.at (by omega) k5
    have h_15 := IB.fr hi0 hf_9 (by omega)
    have h_16 := IB.fr hi1 hf_9 (by omega)
    have h_17 := TB.fr htx hf_9 (by omega)
    have h_18 := CB.fr htr hf_9 (by omega)
    have h_19 := RB.fr hrb hf_9 (by omega)
    have h_20 := EB.fr heb hf_9 (by omega)
    have h_21 := HB.fr hhb hf_9 (by omega)
    have fr_22 : Fr h h_2 b 367 := hf_9.wd (by omega) (by omega)
    have rn2 := hR_6.n
    have u39 : ∀ j, 39 ≤ j → j < 58 → und1 (S 1) j = S 1 j := fun j x y => by unfold und1; rw [fcp_out (by omega), fup_n (by omega)]
    refine z_aload_n hx dX8_undo_35 rfl 0 rfl ?_
    refine z_get hx dX8_undo_36 fl_X8_10 h_10 rfl ?_
    refine z_get hx dX8_undo_39 fl_X8_71 h_11 rfl ?_
    refine z_get hx dX8_undo_42 fl_X8_145 hC_5.1 rfl ?_
    refine z_iret hx hr dX8_undo_45 rfl rfl (q_j (by unfold undoA; (repeat (first | rw [if_pos (by omega)] | rw [if_neg (by omega)])); (try first | rfl | omega)) (by unfold undoA; (repeat (first | rw [if_pos (by omega)] | rw [if_neg (by omega)])); show XC h_2 b (S 0) (und1 (S 1)) (S 4) (S 5) (S 6) (S 7) ∧ Fr h h_2 b 367; exact ⟨⟨F_4, pi, Fs, kq, N, T, h_10, KM.eq ⟨h_11, hC_5, hP_7, h_12, h_13, h_14⟩ (rfl) (u39 39 (by decide) (by decide)), h_15, h_16, h_17, h_18, h_19, h_20, h_21, ⟨hR_6, hQ_8, NRl_ext hNn h39.2 u39⟩, htt⟩, fr_22⟩))
  ·
    refine z_aload_n hx dX8_undo_13 rfl 0 rfl ?_
    refine z_cVJ (as := []) (rest := []) hx dX8_undo_14 lk_X8_176 wm_X8_no wv_X8_no (rcv_obj hx x0 rfl) mo_X8_no (kX8_no g  x0) (by decide) rfl rfl (Nat.le_of_ble_eq_true rfl) (fun h_23 q_24 => ?_)
    obtain ⟨hs_25, hf_26⟩ := q_24
    have h_27 := hf_26.at (by omega) k0
    have h_28 := CM.fr k1 hf_26 (by omega)
    have h_29 := PM.fr k2 hf_26 (by omega)
    have h_30 := hf_26.at (by omega) k3
    have h_31 := hf_26.at (by omega) k4
    have h_32 := hf_26.at (by omega) k5
    have h_33 := IB.fr hi0 hf_26 (by omega)
    have h_34 := IB.fr hi1 hf_26 (by omega)
    have h_35 := TB.fr htx hf_26 (by omega)
    have h_36 := CB.fr htr hf_26 (by omega)
    have h_37 := RB.fr hrb hf_26 (by omega)
    have h_38 := EB.fr heb hf_26 (by omega)
    have h_39 := HB.fr hhb hf_26 (by omega)
    have fr_40 : Fr h h_23 b 367 := hf_26.wd (by omega) (by omega)
    refine z_iret hx hr dX8_undo_17 rfl rfl (q_j (by unfold undoA; (repeat (first | rw [if_pos (by omega)] | rw [if_neg (by omega)])); (try first | rfl | omega)) (by unfold undoA; (repeat (first | rw [if_pos (by omega)] | rw [if_neg (by omega)])); show XC h_23 b (S 0) (S 1) (S 4) (S 5) (fup (S 6) 1 ((S 6) 1 + 1)) (S 7) ∧ Fr h h_23 b 367; exact ⟨⟨F, pi, Fs, kq, N, T, hs_25, KM.eq ⟨h_27, h_28, h_29, h_30, h_31, h_32⟩ (rfl) (rfl), h_33, h_34, h_35, h_36, h_37, h_38, h_39, ⟨hR, hPR, hNn⟩, htt⟩, fr_40⟩))

set_option maxHeartbeats 4000000 in
set_option maxRecDepth 20000 in
theorem kX8_note (g : Gt) {h : AH} {b : Nat} {S : Nat → Int → Int} {k : Int} {w : Int} {n : Int} (hX : XR h b S) (hV : invM S) (g_k : rgI k) (g_w : rgI w) (g_n : rgI n) : CnJ g mX8_note 3 [.ref b, .int (iI k), .int (iI w), .int (iI n)] h (noteA S k w n).1 (QX h b (noteA S k w n).2) := by
  refine Cn.mk (by decide +kernel) (Nat.le_of_ble_eq_true rfl) ?_
  intro x sz hx hr
  show Zj g x (sz, 0, 0) h 0 [(0, .ref b), (1, .int (iI k)), (2, .int (iI w)), (3, .int (iI n))] []
  obtain ⟨F, pi, Fs, kq, N, T, x0, hK, hi0, hi1, htx, htr, hrb, heb, hhb, ⟨hR, hPR, hNn⟩, htt⟩ := hX
  obtain ⟨k0, k1, k2, k3, k4, k5⟩ := hK
  have hN := hV.1
  have hI := hN.1
  have hn := hI.n
  have rn := hR.n
  have h58 : 0 ≤ S 1 58 ∧ S 1 58 ≤ 8 := ⟨(hI.rg 58 (by decide)).1, hN.2.2.2.1⟩
  have h39 : 0 ≤ S 1 39 ∧ S 1 39 ≤ 6 := ⟨(hI.rg 39 (by decide)).1, hN.2.2.1⟩
  have h0 : 0 ≤ S 1 0 ∧ S 1 0 ≤ 999 := ⟨hN.2.1.2, hN.2.1.1⟩
  have hmx : ∀ i, 0 ≤ i → i < S 1 58 → inv (mixF (S 1) i) := fun i a b => (hN.2.2.2.2.1 i a b).1
  have hno : ∀ i, 0 ≤ i → i < S 1 39 → S 1 (40 + 3 * i) < 5 ∧ S 1 (40 + 3 * i + 1) ≤ 40 ∧ S 1 (40 + 3 * i + 2) ≤ 9 := fun i a b => by have q := hN.2.2.2.2.2 i a b; rw [show 41 + 3 * i = 40 + 3 * i + 1 by omega, show 42 + 3 * i = 40 + 3 * i + 2 by omega] at q; exact q
  have hTo : outR (S 2) := hV.2.1
  have hL := hV.2.2.2.1
  have htt2 := hV.2.2.2.2.1
  refine z_aload_n hx dX8_note_0 rfl 0 rfl ?_
  refine z_iload_n hx dX8_note_1 rfl 1 rfl ?_
  refine z_cVI (as := [.int (iI k)]) (rest := []) hx dX8_note_2 lk_X8_154 wm_X8_isCosy wv_X8_isCosy (rcv_obj hx x0 rfl) mo_X8_isCosy (kX8_isCosy g (k := k) (F := F) (N := N) (f := (S 1)) x0 ⟨k0, k1, k2, k3, k4, k5⟩ hR hI (show rgI k by omega)) (by decide) rfl rfl (Nat.le_of_ble_eq_true rfl) ?_
  refine z_ifeq_b (tgt := 28) hx dX8_note_5 (by decide)  (fun c_1 => ?_) (fun c_1 => ?_)
  ·
    refine z_aload_n hx dX8_note_28 rfl 0 rfl ?_
    refine z_bipush hx dX8_note_29 (by decide) ?_
    refine z_cVJ (as := [.int (iI (-2))]) (rest := []) hx dX8_note_31 lk_X8_88 wm_X8_bad wv_X8_bad (rcv_obj hx x0 rfl) mo_X8_bad (kX8_bad g (v := (-2)) x0) (by decide) rfl rfl (Nat.le_of_ble_eq_true rfl) (fun h_2 q_3 => ?_)
    obtain ⟨hs_4, hf_5⟩ := q_3
    have h_6 := hf_5.at (by omega) k0
    have h_7 := CM.fr k1 hf_5 (by omega)
    have h_8 := PM.fr k2 hf_5 (by omega)
    have h_9 := hf_5.at (by omega) k3
    have h_10 := hf_5.at (by omega) k4
    have h_11 := hf_5.at (by omega) k5
    have h_12 := IB.fr hi0 hf_5 (by omega)
    have h_13 := IB.fr hi1 hf_5 (by omega)
    have h_14 := TB.fr htx hf_5 (by omega)
    have h_15 := CB.fr htr hf_5 (by omega)
    have h_16 := RB.fr hrb hf_5 (by omega)
    have h_17 := EB.fr heb hf_5 (by omega)
    have h_18 := HB.fr hhb hf_5 (by omega)
    have fr_19 : Fr h h_2 b 367 := hf_5.wd (by omega) (by omega)
    refine z_iret hx hr dX8_note_34 rfl rfl (q_j (by unfold noteA; (repeat (first | rw [if_pos (by omega)] | rw [if_neg (by omega)])); (try first | rfl | omega)) (by unfold noteA; (repeat (first | rw [if_pos (by omega)] | rw [if_neg (by omega)])); show XC h_2 b (S 0) (S 1) (S 4) (S 5) (fup (S 6) 0 ((S 6) 0 + 1)) (S 7) ∧ Fr h h_2 b 367; exact ⟨⟨F, pi, Fs, kq, N, T, hs_4, KM.eq ⟨h_6, h_7, h_8, h_9, h_10, h_11⟩ (rfl) (rfl), h_12, h_13, h_14, h_15, h_16, h_17, h_18, ⟨hR, hPR, hNn⟩, htt⟩, fr_19⟩))
  ·
    refine z_iload_n hx dX8_note_8 rfl 2 rfl ?_
    refine z_iconst hx dX8_note_9 ?_
    refine z_bipush hx dX8_note_10 (by decide) ?_
    refine z_cSI (as := [.int (iI w), .int (iI 0), .int (iI 40)]) (rest := []) hx dX8_note_12 lk_X8_80 wt_X8_isIn mo_X8_isIn (kX8_isIn g (a := w) (b := 0) (c := 40) (by omega) (by omega) (by omega)) (by decide) rfl rfl (Nat.le_of_ble_eq_true rfl) ?_
    refine z_ifeq_b (tgt := 28) hx dX8_note_15 (by decide)  (fun c_20 => ?_) (fun c_20 => ?_)
    ·
      refine z_aload_n hx dX8_note_28 rfl 0 rfl ?_
      refine z_bipush hx dX8_note_29 (by decide) ?_
      refine z_cVJ (as := [.int (iI (-2))]) (rest := []) hx dX8_note_31 lk_X8_88 wm_X8_bad wv_X8_bad (rcv_obj hx x0 rfl) mo_X8_bad (kX8_bad g (v := (-2)) x0) (by decide) rfl rfl (Nat.le_of_ble_eq_true rfl) (fun h_21 q_22 => ?_)
      obtain ⟨hs_23, hf_24⟩ := q_22
      have h_25 := hf_24.at (by omega) k0
      have h_26 := CM.fr k1 hf_24 (by omega)
      have h_27 := PM.fr k2 hf_24 (by omega)
      have h_28 := hf_24.at (by omega) k3
      have h_29 := hf_24.at (by omega) k4
      have h_30 := hf_24.at (by omega) k5
      have h_31 := IB.fr hi0 hf_24 (by omega)
      have h_32 := IB.fr hi1 hf_24 (by omega)
      have h_33 := TB.fr htx hf_24 (by omega)
      have h_34 := CB.fr htr hf_24 (by omega)
      have h_35 := RB.fr hrb hf_24 (by omega)
      have h_36 := EB.fr heb hf_24 (by omega)
      have h_37 := HB.fr hhb hf_24 (by omega)
      have fr_38 : Fr h h_21 b 367 := hf_24.wd (by omega) (by omega)
      refine z_iret hx hr dX8_note_34 rfl rfl (q_j (by unfold noteA; (repeat (first | rw [if_pos (by omega)] | rw [if_neg (by omega)])); (try first | rfl | omega)) (by unfold noteA; (repeat (first | rw [if_pos (by omega)] | rw [if_neg (by omega)])); show XC h_21 b (S 0) (S 1) (S 4) (S 5) (fup (S 6) 0 ((S 6) 0 + 1)) (S 7) ∧ Fr h h_21 b 367; exact ⟨⟨F, pi, Fs, kq, N, T, hs_23, KM.eq ⟨h_25, h_26, h_27, h_28, h_29, h_30⟩ (rfl) (rfl), h_31, h_32, h_33, h_34, h_35, h_36, h_37, ⟨hR, hPR, hNn⟩, htt⟩, fr_38⟩))
    ·
      refine z_iload_n hx dX8_note_18 rfl 3 rfl ?_
      refine z_iconst hx dX8_note_19 ?_
      refine z_bipush hx dX8_note_20 (by decide) ?_
      refine z_cSI (as := [.int (iI n), .int (iI 0), .int (iI 9)]) (rest := []) hx dX8_note_22 lk_X8_80 wt_X8_isIn mo_X8_isIn (kX8_isIn g (a := n) (b := 0) (c := 9) (by omega) (by omega) (by omega)) (by decide) rfl rfl (Nat.le_of_ble_eq_true rfl) ?_
      refine z_ifne_b (tgt := 35) hx dX8_note_25 (by decide)  (fun c_39 => ?_) (fun c_39 => ?_)
      ·
        refine z_aload_n hx dX8_note_35 rfl 0 rfl ?_
        refine z_get hx dX8_note_36 fl_X8_10 x0 rfl ?_
        refine z_get hx dX8_note_39 fl_X8_222 k0 rfl ?_
        refine z_bipush hx dX8_note_42 (by decide) ?_
        refine z_icmp_lt (tgt := 52) hx dX8_note_44 (by decide) (by omega) (by decide) (fun c_40 => ?_) (fun c_40 => ?_)
        ·
          refine z_aload_n hx dX8_note_52 rfl 0 rfl ?_
          refine z_get hx dX8_note_53 fl_X8_10 x0 rfl ?_
          refine z_iload_n hx dX8_note_56 rfl 1 rfl ?_
          refine z_iload_n hx dX8_note_57 rfl 2 rfl ?_
          refine z_iload_n hx dX8_note_58 rfl 3 rfl ?_
          refine z_cVJ (as := [.int (iI k), .int (iI w), .int (iI n)]) (rest := []) hx dX8_note_59 lk_X8_225 wm_X3_addNote wv_X3_addNote (rcv_obj hx k0 rfl) mo_X3_addNote (kX3_addNote g (f := (S 1)) (kp := kq) (N := N) (k9 := k) (w9 := w) (n9 := n) ⟨k0, k1, k2, k3, k4, k5⟩ hR hPR hNn hN (by omega)) (by decide) rfl rfl (Nat.le_of_ble_eq_true rfl) (fun h_41 q_42 => ?_)
          obtain ⟨F_43, pi_44, Fs_45, N_46, ⟨m_47, m_48, m_49, m_50, m_51, m_52⟩, hR_53, hQ_54, hN_55, hf_56⟩ := q_42
          have h_57 := hf_56.at (by omega) x0
          have h_58 := IB.fr hi0 hf_56 (by omega)
          have h_59 := IB.fr hi1 hf_56 (by omega)
          have h_60 := TB.fr htx hf_56 (by omega)
          have h_61 := CB.fr htr hf_56 (by omega)
          have h_62 := RB.fr hrb hf_56 (by omega)
          have h_63 := EB.fr heb hf_56 (by omega)
          have h_64 := HB.fr hhb hf_56 (by omega)
          have fr_65 : Fr h h_41 b 367 := hf_56.wd (by omega) (by omega)
          refine z_iret hx hr dX8_note_62 rfl rfl (q_j (by unfold noteA; (repeat (first | rw [if_pos (by omega)] | rw [if_neg (by omega)])); (try first | rfl | omega)) (by unfold noteA; (repeat (first | rw [if_pos (by omega)] | rw [if_neg (by omega)])); show XC h_41 b (S 0) (ntF (S 1) k w n) (S 4) (S 5) (S 6) (S 7) ∧ Fr h h_41 b 367; exact ⟨⟨F_43, pi_44, Fs_45, kq, N_46, T, h_57, KM.eq ⟨m_47, m_48, m_49, m_50, m_51, m_52⟩ (rfl) (rfl), h_58, h_59, h_60, h_61, h_62, h_63, h_64, ⟨hR_53, hQ_54, hN_55⟩, htt⟩, fr_65⟩))
        ·
          refine z_aload_n hx dX8_note_47 rfl 0 rfl ?_
          refine z_cVJ (as := []) (rest := []) hx dX8_note_48 lk_X8_92 wm_X8_full wv_X8_full (rcv_obj hx x0 rfl) mo_X8_full (kX8_full g  x0) (by decide) rfl rfl (Nat.le_of_ble_eq_true rfl) (fun h_66 q_67 => ?_)
          obtain ⟨hs_68, hf_69⟩ := q_67
          have h_70 := hf_69.at (by omega) k0
          have h_71 := CM.fr k1 hf_69 (by omega)
          have h_72 := PM.fr k2 hf_69 (by omega)
          have h_73 := hf_69.at (by omega) k3
          have h_74 := hf_69.at (by omega) k4
          have h_75 := hf_69.at (by omega) k5
          have h_76 := IB.fr hi0 hf_69 (by omega)
          have h_77 := IB.fr hi1 hf_69 (by omega)
          have h_78 := TB.fr htx hf_69 (by omega)
          have h_79 := CB.fr htr hf_69 (by omega)
          have h_80 := RB.fr hrb hf_69 (by omega)
          have h_81 := EB.fr heb hf_69 (by omega)
          have h_82 := HB.fr hhb hf_69 (by omega)
          have fr_83 : Fr h h_66 b 367 := hf_69.wd (by omega) (by omega)
          refine z_iret hx hr dX8_note_51 rfl rfl (q_j (by unfold noteA; (repeat (first | rw [if_pos (by omega)] | rw [if_neg (by omega)])); (try first | rfl | omega)) (by unfold noteA; (repeat (first | rw [if_pos (by omega)] | rw [if_neg (by omega)])); show XC h_66 b (S 0) (S 1) (S 4) (S 5) (fup (S 6) 2 ((S 6) 2 + 1)) (S 7) ∧ Fr h h_66 b 367; exact ⟨⟨F, pi, Fs, kq, N, T, hs_68, KM.eq ⟨h_70, h_71, h_72, h_73, h_74, h_75⟩ (rfl) (rfl), h_76, h_77, h_78, h_79, h_80, h_81, h_82, ⟨hR, hPR, hNn⟩, htt⟩, fr_83⟩))
      ·
        refine z_aload_n hx dX8_note_28 rfl 0 rfl ?_
        refine z_bipush hx dX8_note_29 (by decide) ?_
        refine z_cVJ (as := [.int (iI (-2))]) (rest := []) hx dX8_note_31 lk_X8_88 wm_X8_bad wv_X8_bad (rcv_obj hx x0 rfl) mo_X8_bad (kX8_bad g (v := (-2)) x0) (by decide) rfl rfl (Nat.le_of_ble_eq_true rfl) (fun h_84 q_85 => ?_)
        obtain ⟨hs_86, hf_87⟩ := q_85
        have h_88 := hf_87.at (by omega) k0
        have h_89 := CM.fr k1 hf_87 (by omega)
        have h_90 := PM.fr k2 hf_87 (by omega)
        have h_91 := hf_87.at (by omega) k3
        have h_92 := hf_87.at (by omega) k4
        have h_93 := hf_87.at (by omega) k5
        have h_94 := IB.fr hi0 hf_87 (by omega)
        have h_95 := IB.fr hi1 hf_87 (by omega)
        have h_96 := TB.fr htx hf_87 (by omega)
        have h_97 := CB.fr htr hf_87 (by omega)
        have h_98 := RB.fr hrb hf_87 (by omega)
        have h_99 := EB.fr heb hf_87 (by omega)
        have h_100 := HB.fr hhb hf_87 (by omega)
        have fr_101 : Fr h h_84 b 367 := hf_87.wd (by omega) (by omega)
        refine z_iret hx hr dX8_note_34 rfl rfl (q_j (by unfold noteA; (repeat (first | rw [if_pos (by omega)] | rw [if_neg (by omega)])); (try first | rfl | omega)) (by unfold noteA; (repeat (first | rw [if_pos (by omega)] | rw [if_neg (by omega)])); show XC h_84 b (S 0) (S 1) (S 4) (S 5) (fup (S 6) 0 ((S 6) 0 + 1)) (S 7) ∧ Fr h h_84 b 367; exact ⟨⟨F, pi, Fs, kq, N, T, hs_86, KM.eq ⟨h_88, h_89, h_90, h_91, h_92, h_93⟩ (rfl) (rfl), h_94, h_95, h_96, h_97, h_98, h_99, h_100, ⟨hR, hPR, hNn⟩, htt⟩, fr_101⟩))

set_option maxHeartbeats 4000000 in
set_option maxRecDepth 20000 in
theorem kX8_forget (g : Gt) {h : AH} {b : Nat} {S : Nat → Int → Int}  (hX : XR h b S) (hV : invM S)  : CnJ g mX8_forget 1 [.ref b] h (forgetA S).1 (QX h b (forgetA S).2) := by
  refine Cn.mk (by decide +kernel) (Nat.le_of_ble_eq_true rfl) ?_
  intro x sz hx hr
  show Zj g x (sz, 0, 0) h 0 [(0, .ref b)] []
  obtain ⟨F, pi, Fs, kq, N, T, x0, hK, hi0, hi1, htx, htr, hrb, heb, hhb, ⟨hR, hPR, hNn⟩, htt⟩ := hX
  obtain ⟨k0, k1, k2, k3, k4, k5⟩ := hK
  have hN := hV.1
  have hI := hN.1
  have hn := hI.n
  have rn := hR.n
  have h58 : 0 ≤ S 1 58 ∧ S 1 58 ≤ 8 := ⟨(hI.rg 58 (by decide)).1, hN.2.2.2.1⟩
  have h39 : 0 ≤ S 1 39 ∧ S 1 39 ≤ 6 := ⟨(hI.rg 39 (by decide)).1, hN.2.2.1⟩
  have h0 : 0 ≤ S 1 0 ∧ S 1 0 ≤ 999 := ⟨hN.2.1.2, hN.2.1.1⟩
  have hmx : ∀ i, 0 ≤ i → i < S 1 58 → inv (mixF (S 1) i) := fun i a b => (hN.2.2.2.2.1 i a b).1
  have hno : ∀ i, 0 ≤ i → i < S 1 39 → S 1 (40 + 3 * i) < 5 ∧ S 1 (40 + 3 * i + 1) ≤ 40 ∧ S 1 (40 + 3 * i + 2) ≤ 9 := fun i a b => by have q := hN.2.2.2.2.2 i a b; rw [show 41 + 3 * i = 40 + 3 * i + 1 by omega, show 42 + 3 * i = 40 + 3 * i + 2 by omega] at q; exact q
  have hTo : outR (S 2) := hV.2.1
  have hL := hV.2.2.2.1
  have htt2 := hV.2.2.2.2.1
  refine z_aload_n hx dX8_forget_0 rfl 0 rfl ?_
  refine z_get hx dX8_forget_1 fl_X8_10 x0 rfl ?_
  refine z_get hx dX8_forget_4 fl_X8_222 k0 rfl ?_
  refine z_istore_n hx dX8_forget_7 rfl (by decide) [1, 0] (lv' := [(0, .ref b), (1, .int (iI (S 1 39)))]) rfl ?_
  refine z_aload_n hx dX8_forget_8 rfl 0 rfl ?_
  refine z_get hx dX8_forget_9 fl_X8_10 x0 rfl ?_
  refine z_iconst hx dX8_forget_12 ?_
  refine z_putQ hx dX8_forget_13 fl_X8_222 k0 ⟨rfl, rfl⟩ (Nat.le_of_ble_eq_true rfl) (fun h_1 hs_2 hf_3 => ?_)
  have h_4 := hf_3.at (by omega) x0
  have h_5 := CM.fr k1 hf_3 (by omega)
  have h_6 := PM.fr k2 hf_3 (by omega)
  have h_7 := hf_3.at (by omega) k3
  have h_8 := hf_3.at (by omega) k4
  have h_9 := hf_3.at (by omega) k5
  have h_10 := IB.fr hi0 hf_3 (by omega)
  have h_11 := IB.fr hi1 hf_3 (by omega)
  have h_12 := TB.fr htx hf_3 (by omega)
  have h_13 := CB.fr htr hf_3 (by omega)
  have h_14 := RB.fr hrb hf_3 (by omega)
  have h_15 := EB.fr heb hf_3 (by omega)
  have h_16 := HB.fr hhb hf_3 (by omega)
  have fr_17 : Fr h h_1 b 367 := hf_3.wd (by omega) (by omega)
  refine z_iload_n hx dX8_forget_16 rfl 1 rfl ?_
  refine z_iret hx hr dX8_forget_17 rfl rfl (q_j (by unfold forgetA; (repeat (first | rw [if_pos (by omega)] | rw [if_neg (by omega)])); (try first | rfl | omega)) (by unfold forgetA; (repeat (first | rw [if_pos (by omega)] | rw [if_neg (by omega)])); show XC h_1 b (S 0) (fup (S 1) 39 0) (S 4) (S 5) (S 6) (S 7) ∧ Fr h h_1 b 367; exact ⟨⟨F, pi, Fs, kq, N, T, h_4, KM.eq ⟨hs_2, h_5, h_6, h_7, h_8, h_9⟩ (fup_n (by decide)) (fup_s _ _ _), h_10, h_11, h_12, h_13, h_14, h_15, h_16, ⟨RLC_ext hR hn (fun j x y => fup_n (by omega)), PRl_ext hPR hmx h58.2 (fun j x => fup_n (by omega)), (fun i a b => by rw [fup_s] at b; omega)⟩, htt⟩, fr_17⟩))

set_option maxHeartbeats 4000000 in
set_option maxRecDepth 20000 in
theorem kX8_hour (g : Gt) {h : AH} {b : Nat} {S : Nat → Int → Int} {n : Int} (hX : XR h b S) (hV : invM S) (g_n : rgI n) : CnJ g mX8_hour 8 [.ref b, .int (iI n)] h (hourA S n).1 (QX h b (hourA S n).2) := by
  refine Cn.mk (by decide +kernel) (Nat.le_of_ble_eq_true rfl) ?_
  intro x sz hx hr
  show Zj g x (sz, 0, 0) h 0 [(0, .ref b), (1, .int (iI n))] []
  obtain ⟨F, pi, Fs, kq, N, T, x0, hK, hi0, hi1, htx, htr, hrb, heb, hhb, ⟨hR, hPR, hNn⟩, htt⟩ := hX
  obtain ⟨k0, k1, k2, k3, k4, k5⟩ := hK
  have hN := hV.1
  have hI := hN.1
  have hn := hI.n
  have rn := hR.n
  have h58 : 0 ≤ S 1 58 ∧ S 1 58 ≤ 8 := ⟨(hI.rg 58 (by decide)).1, hN.2.2.2.1⟩
  have h39 : 0 ≤ S 1 39 ∧ S 1 39 ≤ 6 := ⟨(hI.rg 39 (by decide)).1, hN.2.2.1⟩
  have h0 : 0 ≤ S 1 0 ∧ S 1 0 ≤ 999 := ⟨hN.2.1.2, hN.2.1.1⟩
  have hmx : ∀ i, 0 ≤ i → i < S 1 58 → inv (mixF (S 1) i) := fun i a b => (hN.2.2.2.2.1 i a b).1
  have hno : ∀ i, 0 ≤ i → i < S 1 39 → S 1 (40 + 3 * i) < 5 ∧ S 1 (40 + 3 * i + 1) ≤ 40 ∧ S 1 (40 + 3 * i + 2) ≤ 9 := fun i a b => by have q := hN.2.2.2.2.2 i a b; rw [show 41 + 3 * i = 40 + 3 * i + 1 by omega, show 42 + 3 * i = 40 + 3 * i + 2 by omega] at q; exact q
  have hTo : outR (S 2) := hV.2.1
  have hL := hV.2.2.2.1
  have htt2 := hV.2.2.2.2.1
  refine z_iload_n hx dX8_hour_0 rfl 1 rfl ?_
  refine z_iconst hx dX8_hour_1 ?_
  refine z_bipush hx dX8_hour_2 (by decide) ?_
  refine z_cSI (as := [.int (iI n), .int (iI 1), .int (iI 30)]) (rest := []) hx dX8_hour_4 lk_X8_80 wt_X8_isIn mo_X8_isIn (kX8_isIn g (a := n) (b := 1) (c := 30) (by omega) (by omega) (by omega)) (by decide) rfl rfl (Nat.le_of_ble_eq_true rfl) ?_
  refine z_ifne_b (tgt := 17) hx dX8_hour_7 (by decide)  (fun c_1 => ?_) (fun c_1 => ?_)
  ·
    refine z_aload_n hx dX8_hour_17 rfl 0 rfl ?_
    refine z_get hx dX8_hour_18 fl_X8_10 x0 rfl ?_
    refine z_get hx dX8_hour_21 fl_X8_96 k0 rfl ?_
    refine z_aload_n hx dX8_hour_24 rfl 0 rfl ?_
    refine z_get hx dX8_hour_25 fl_X8_10 x0 rfl ?_
    refine z_get hx dX8_hour_28 fl_X8_71 k0 rfl ?_
    refine z_cVV (as := [.ref ((b + 1) + 1)]) (rest := []) hx dX8_hour_31 lk_X8_142 wm_X5_keep wv_X5_keep (rcv_obj hx (And.left k2) rfl) mo_X5_keep (kX5_keep g (f := (S 1)) k2 k1 hR hI hPR hmx h58 (by omega)) (by decide) rfl rfl (Nat.le_of_ble_eq_true rfl) (fun h_2 q_3 => ?_)
    obtain ⟨pi_4, Fs_5, hP_6, hQ_7, hf_8⟩ := q_3
    have h_9 := hf_8.at (by omega) x0
    have h_10 := hf_8.at (by omega) k0
    have h_11 := CM.fr k1 hf_8 (by omega)
    have h_12 := hf_8.at (by omega) k3
    have h_13 := hf_8.at (by omega) k4
    have h_14 := hf_8.at (by omega) k5
    have h_15 := IB.fr hi0 hf_8 (by omega)
    have h_16 := IB.fr hi1 hf_8 (by omega)
    have h_17 := TB.fr htx hf_8 (by omega)
    have h_18 := CB.fr htr hf_8 (by omega)
    have h_19 := RB.fr hrb hf_8 (by omega)
    have h_20 := EB.fr heb hf_8 (by omega)
    have h_21 := HB.fr hhb hf_8 (by omega)
    have fr_22 : Fr h h_2 b 367 := hf_8.wd (by omega) (by omega)
    have hVk := invN_kpb hN
    have hmk : ∀ i, 0 ≤ i → i < kpb (S 1) 58 → inv (mixF (kpb (S 1)) i) := fun i a b => (hVk.m0 i ⟨a, b⟩).1
    have hnk := hVk.1.n
    have k26 : kpb (S 1) 26 = S 1 26 := kpb_lo h58 (by decide)
    have k37 : kpb (S 1) 37 = S 1 37 := kpb_lo h58 (by decide)
    have k0 := hVk.r0
    have hRk : RLC F (kpb (S 1)) := RLC_ext hR hn (fun j x y => kpb_lo h58 (by omega))
    refine z_iconst hx dX8_hour_34 ?_
    refine z_istore_n hx dX8_hour_35 rfl (by decide) [1, 2, 0] (lv' := [(0, .ref b), (1, .int (iI n)), (2, .int (iI 0))]) rfl ?_
    have hL_23 : ∀ (mm : Nat) (v2 : Int) (gF : Nat → Int → Int) (gf : Int → Int) (h_24 : AH), (0 ≤ v2 ∧ v2 ≤ n) → (RLC gF gf) → (inv gf ∧ cfx (kpb (S 1)) gf) → (0 ≤ gf 0 ∧ gf 0 ≤ 999) → (hrN (n - v2).toNat gf = hrN n.toNat (kpb (S 1))) → (h_24 b = some (.inr (.inr (0, [.ref (b + 1), .ref (b + 97), .ref (b + 193), .ref (b + 289), .ref (b + 291), .ref (b + 301), .ref (b + 313), .ref (b + 366), .long (lI (S 0 6)), .long (lI (S 0 7)), .int (iI (S 6 0)), .int (iI (S 6 1)), .int (iI (S 6 2))])))) → (h_24 (b + 1) = some (.inr (.inr (3, [.ref ((b + 1) + 1), .ref ((b + 1) + 11), .ref ((b + 1) + 93), .ref ((b + 1) + 94), .ref ((b + 1) + 95), .int (iI (S 1 39)), .int (iI kq)])))) → (CM h_24 ((b + 1) + 1) gF) → (PM h_24 ((b + 1) + 11) pi_4 Fs_5 (kpb (S 1) 58)) → (h_24 ((b + 1) + 93) = some (.inl (0, 6, N 0))) → (h_24 ((b + 1) + 94) = some (.inl (0, 6, N 1))) → (h_24 ((b + 1) + 95) = some (.inl (0, 6, N 2))) → (IB h_24 (b + 97) (S 5 0) (img (S 4) 0)) → (IB h_24 (b + 193) (S 5 1) (img (S 4) 1)) → (TB h_24 (b + 289) T (S 0 8)) → (CB h_24 (b + 291)) → (RB h_24 (b + 301)) → (EB h_24 (b + 313)) → (HB h_24 (b + 366)) → (Fr h h_24 b 367) → n - v2 < (mm : Int) → Zj g x (sz, 0, 0) h_24 36 [(0, .ref b), (1, .int (iI n)), (2, .int (iI v2))] [] := by
      intro mm
      induction mm with
      | zero => intro v2 gF gf h_24 kv hrl ig e0 eg hk_25 hk_26 hk_27 hk_28 hk_29 hk_30 hk_31 hk_32 hk_33 hk_34 hk_35 hk_36 hk_37 hk_38 fr_39 hm; exfalso; omega
      | succ mm ih =>
        intro v2 gF gf h_24 kv hrl ig e0 eg hk_25 hk_26 hk_27 hk_28 hk_29 hk_30 hk_31 hk_32 hk_33 hk_34 hk_35 hk_36 hk_37 hk_38 fr_39 hm
        have ih_40 := ih; clear ih
        have hn2 := ig.1.n
        have rn2 := hrl.n
        refine z_iload_n hx dX8_hour_36 rfl 2 rfl ?_
        refine z_iload_n hx dX8_hour_37 rfl 1 rfl ?_
        refine z_icmp_ge (tgt := 74) hx dX8_hour_38 (by decide) (by omega) (by omega) (fun c_41 => ?_) (fun c_41 => ?_)
        ·
          have eR : hrN n.toNat (kpb (S 1)) = gf := by rw [← eg]; first | (rw [show (n - v2).toNat = 0 by omega]; rfl) | exact hrN_b _ _ (by omega)
          have hcf : cfx (kpb (S 1)) gf := ig.2
          refine z_aload_n hx dX8_hour_74 rfl 0 rfl ?_
          refine z_get hx dX8_hour_75 fl_X8_10 hk_25 rfl ?_
          refine z_get hx dX8_hour_78 fl_X8_71 hk_26 rfl ?_
          refine z_cVI (as := []) (rest := []) hx dX8_hour_81 lk_X8_151 wm_X1_manyTaken wv_X1_manyTaken (rcv_obj hx (And.left hk_27) rfl) mo_X1_manyTaken (kX1_manyTaken g (F := gF) (f := gf)  hk_27 hrl ig.1 ) (by decide) rfl rfl (Nat.le_of_ble_eq_true rfl) ?_
          have f_42 := popc_rg (v := tkn gf)
          have f_43 := tkn_rg ig.1
          refine z_iret hx hr dX8_hour_84 rfl rfl (q_j (by unfold hourA; (repeat (first | rw [if_pos (by omega)] | rw [if_neg (by omega)])); (try first | rfl | (rw [eR]))) (by unfold hourA; (repeat (first | rw [if_pos (by omega)] | rw [if_neg (by omega)])); (try rw [eR]); show XC h_24 b (S 0) gf (S 4) (S 5) (S 6) (S 7) ∧ Fr h h_24 b 367; exact ⟨⟨gF, pi_4, Fs_5, kq, N, T, hk_25, KM.eq ⟨hk_26, hk_27, hk_28, hk_29, hk_30, hk_31⟩ (hcf 58 (by decide)) ((hcf 39 (by decide)).trans (kpb_lo h58 (by decide))), hk_32, hk_33, hk_34, hk_35, hk_36, hk_37, hk_38, ⟨hrl, PRl_cfx hQ_7 hmk hVk.2.2.2.1 hcf, NRl_ext hNn h39.2 (fun j x y => (hcf j (by omega)).trans (kpb_lo h58 (by omega)))⟩, htt⟩, fr_39⟩))
        ·
          refine z_aload_n hx dX8_hour_41 rfl 0 rfl ?_
          refine z_get hx dX8_hour_42 fl_X8_10 hk_25 rfl ?_
          refine z_get hx dX8_hour_45 fl_X8_71 hk_26 rfl ?_
          refine z_get hx dX8_hour_48 fl_X8_145 hk_27.1 rfl ?_
          refine z_sipush hx dX8_hour_51 (by decide) ?_
          refine z_icmp_ge (tgt := 74) hx dX8_hour_54 (by decide) (by omega) (by decide) (fun c_44 => ?_) (fun c_44 => ?_)
          ·
            have eR : hrN n.toNat (kpb (S 1)) = gf := by rw [← eg]; first | (rw [show (n - v2).toNat = 0 by omega]; rfl) | exact hrN_b _ _ (by omega)
            have hcf : cfx (kpb (S 1)) gf := ig.2
            refine z_aload_n hx dX8_hour_74 rfl 0 rfl ?_
            refine z_get hx dX8_hour_75 fl_X8_10 hk_25 rfl ?_
            refine z_get hx dX8_hour_78 fl_X8_71 hk_26 rfl ?_
            refine z_cVI (as := []) (rest := []) hx dX8_hour_81 lk_X8_151 wm_X1_manyTaken wv_X1_manyTaken (rcv_obj hx (And.left hk_27) rfl) mo_X1_manyTaken (kX1_manyTaken g (F := gF) (f := gf)  hk_27 hrl ig.1 ) (by decide) rfl rfl (Nat.le_of_ble_eq_true rfl) ?_
            have f_45 := popc_rg (v := tkn gf)
            have f_46 := tkn_rg ig.1
            refine z_iret hx hr dX8_hour_84 rfl rfl (q_j (by unfold hourA; (repeat (first | rw [if_pos (by omega)] | rw [if_neg (by omega)])); (try first | rfl | (rw [eR]))) (by unfold hourA; (repeat (first | rw [if_pos (by omega)] | rw [if_neg (by omega)])); (try rw [eR]); show XC h_24 b (S 0) gf (S 4) (S 5) (S 6) (S 7) ∧ Fr h h_24 b 367; exact ⟨⟨gF, pi_4, Fs_5, kq, N, T, hk_25, KM.eq ⟨hk_26, hk_27, hk_28, hk_29, hk_30, hk_31⟩ (hcf 58 (by decide)) ((hcf 39 (by decide)).trans (kpb_lo h58 (by decide))), hk_32, hk_33, hk_34, hk_35, hk_36, hk_37, hk_38, ⟨hrl, PRl_cfx hQ_7 hmk hVk.2.2.2.1 hcf, NRl_ext hNn h39.2 (fun j x y => (hcf j (by omega)).trans (kpb_lo h58 (by omega)))⟩, htt⟩, fr_39⟩))
          ·
            refine z_aload_n hx dX8_hour_57 rfl 0 rfl ?_
            refine z_get hx dX8_hour_58 fl_X8_10 hk_25 rfl ?_
            refine z_get hx dX8_hour_61 fl_X8_71 hk_26 rfl ?_
            refine z_iconst hx dX8_hour_64 ?_
            refine z_cVV (as := [.int (iI 1)]) (rest := []) hx dX8_hour_65 lk_X8_148 wm_X1_passHours wv_X1_passHours (rcv_obj hx (And.left hk_27) rfl) mo_X1_passHours (kX1_passHours g (F := gF) (f := gf) (m := 1) hk_27 hrl ig.1  (show 0 ≤ 1 ∧ 1 ≤ 100 by omega)) (by decide) rfl rfl (Nat.le_of_ble_eq_true rfl) (fun h_47 q_48 => ?_)
            obtain ⟨F_51, hC_49, hR_52, hf_50⟩ := q_48
            obtain ⟨f_54, ef_54⟩ : ∃ G : Int → Int, G = gon 1 gf := ⟨_, rfl⟩
            rw [← ef_54] at hR_52
            have iv_55 := inv_gon ig.1 (m := 1) (by omega)
            rw [← ef_54] at iv_55
            have h_56 := hf_50.at (by omega) hk_25
            have h_57 := hf_50.at (by omega) hk_26
            have h_58 := PM.fr hk_28 hf_50 (by omega)
            have h_59 := hf_50.at (by omega) hk_29
            have h_60 := hf_50.at (by omega) hk_30
            have h_61 := hf_50.at (by omega) hk_31
            have h_62 := IB.fr hk_32 hf_50 (by omega)
            have h_63 := IB.fr hk_33 hf_50 (by omega)
            have h_64 := TB.fr hk_34 hf_50 (by omega)
            have h_65 := CB.fr hk_35 hf_50 (by omega)
            have h_66 := RB.fr hk_36 hf_50 (by omega)
            have h_67 := EB.fr hk_37 hf_50 (by omega)
            have h_68 := HB.fr hk_38 hf_50 (by omega)
            have fr_69 := fr_39.tr (hf_50.wd (by omega) (by omega))
            refine z_iinc hx dX8_hour_68 (by decide) 2 rfl [1, 2, 0] (lv' := [(0, .ref b), (1, .int (iI n)), (2, .int (iI (v2 + 1)))]) rfl ?_
            refine z_goto (tgt := 36) hx dX8_hour_71 (by decide) ?_
            have ec : f_54 = goBy gf := ef_54.trans rfl
            have q0 := goBy_0 gf
            exact ih_40 _ F_51 f_54 _ (by omega) (by exact hR_52) (by rw [ec]; exact ⟨(inv_goBy ig.1).1, ig.2.tr (inv_goBy ig.1).2⟩) (by rw [ec]; omega) (by rw [ec, ← hrN_i (by omega) (by omega)]; exact eg) h_56 h_57 hC_49 h_58 h_59 h_60 h_61 h_62 h_63 h_64 h_65 h_66 h_67 h_68 fr_69 (by omega)
    exact hL_23 ((n - 0) + 1 : Int).toNat _ F (kpb (S 1)) _ (by omega) (by exact hRk) (by exact ⟨hVk.1, cfx.rf⟩) (by exact k0) (by rw [show n - 0 = n by omega]) h_9 h_10 h_11 hP_6 h_12 h_13 h_14 h_15 h_16 h_17 h_18 h_19 h_20 h_21 fr_22 (by omega)
  ·
    refine z_aload_n hx dX8_hour_10 rfl 0 rfl ?_
    refine z_bipush hx dX8_hour_11 (by decide) ?_
    refine z_cVJ (as := [.int (iI (-2))]) (rest := []) hx dX8_hour_13 lk_X8_88 wm_X8_bad wv_X8_bad (rcv_obj hx x0 rfl) mo_X8_bad (kX8_bad g (v := (-2)) x0) (by decide) rfl rfl (Nat.le_of_ble_eq_true rfl) (fun h_70 q_71 => ?_)
    obtain ⟨hs_72, hf_73⟩ := q_71
    have h_74 := hf_73.at (by omega) k0
    have h_75 := CM.fr k1 hf_73 (by omega)
    have h_76 := PM.fr k2 hf_73 (by omega)
    have h_77 := hf_73.at (by omega) k3
    have h_78 := hf_73.at (by omega) k4
    have h_79 := hf_73.at (by omega) k5
    have h_80 := IB.fr hi0 hf_73 (by omega)
    have h_81 := IB.fr hi1 hf_73 (by omega)
    have h_82 := TB.fr htx hf_73 (by omega)
    have h_83 := CB.fr htr hf_73 (by omega)
    have h_84 := RB.fr hrb hf_73 (by omega)
    have h_85 := EB.fr heb hf_73 (by omega)
    have h_86 := HB.fr hhb hf_73 (by omega)
    have fr_87 : Fr h h_70 b 367 := hf_73.wd (by omega) (by omega)
    refine z_iret hx hr dX8_hour_16 rfl rfl (q_j (by unfold hourA; (repeat (first | rw [if_pos (by omega)] | rw [if_neg (by omega)])); (try first | rfl | (rw [eR]))) (by unfold hourA; (repeat (first | rw [if_pos (by omega)] | rw [if_neg (by omega)])); (try rw [eR]); show XC h_70 b (S 0) (S 1) (S 4) (S 5) (fup (S 6) 0 ((S 6) 0 + 1)) (S 7) ∧ Fr h h_70 b 367; exact ⟨⟨F, pi, Fs, kq, N, T, hs_72, KM.eq ⟨h_74, h_75, h_76, h_77, h_78, h_79⟩ (rfl) (rfl), h_80, h_81, h_82, h_83, h_84, h_85, h_86, ⟨hR, hPR, hNn⟩, htt⟩, fr_87⟩))

set_option maxHeartbeats 4000000 in
set_option maxRecDepth 20000 in
theorem kX8_imageAt (g : Gt) {h : AH} {b : Nat} {la lb c0 c1 c2 i : Int} (x0 : XO h b la lb c0 c1 c2) (g_i : rgI i) : CnW g mX8_imageAt 1 [.ref b, .int (iI i)] h (if i = 0 then .ref (b + 97) else if i = 1 then .ref (b + 193) else .null) := by
  refine Cn.mk (by decide +kernel) (Nat.le_of_ble_eq_true rfl) ?_
  intro x sz hx hr
  show Zj g x (sz, 0, 0) h 0 [(0, .ref b), (1, .int (iI i))] []
  refine z_iload_n hx dX8_imageAt_0 rfl 1 rfl ?_
  by_cases c_1 : i = 0
  ·
    refine z_lookup (off := 27) (tgt := 28) hx dX8_imageAt_1 (by omega) (by decide) (by rw [c_1]; decide) (by decide) ?_
    refine z_aload_n hx dX8_imageAt_28 rfl 0 rfl ?_
    refine z_get hx dX8_imageAt_29 fl_X8_16 x0 rfl ?_
    refine z_aret hx hr dX8_imageAt_32 rfl (q_w (by (repeat (first | rw [if_pos (by omega)] | rw [if_neg (by omega)]))))
  by_cases c_2 : i = 1
  ·
    refine z_lookup (off := 32) (tgt := 33) hx dX8_imageAt_1 (by omega) (by decide) (by rw [c_2]; decide) (by decide) ?_
    refine z_aload_n hx dX8_imageAt_33 rfl 0 rfl ?_
    refine z_get hx dX8_imageAt_34 fl_X8_19 x0 rfl ?_
    refine z_aret hx hr dX8_imageAt_37 rfl (q_w (by (repeat (first | rw [if_pos (by omega)] | rw [if_neg (by omega)]))))
  refine z_lookup (off := 37) (tgt := 38) hx dX8_imageAt_1 (by omega) (by decide) (by simp [Op.lookupswitch.offset, c_1, Ne.symm c_1, c_2, Ne.symm c_2]) (by decide) ?_
  refine z_null hx dX8_imageAt_38 ?_
  refine z_aretN hx hr dX8_imageAt_39 rfl (q_w (by (repeat (first | rw [if_pos (by omega)] | rw [if_neg (by omega)]))))

theorem kX8_imageAt0 (g : Gt) {h : AH} {b : Nat} {la lb c0 c1 c2 i : Int} (x0 : XO h b la lb c0 c1 c2) (g_i : rgI i) (hc : i = 0) : CnR g mX8_imageAt 1 [.ref b, .int (iI i)] h (b + 97) := by
  have q := kX8_imageAt g (i := i) x0 g_i
  rw [if_pos hc] at q
  exact q
theorem kX8_imageAt1 (g : Gt) {h : AH} {b : Nat} {la lb c0 c1 c2 i : Int} (x0 : XO h b la lb c0 c1 c2) (g_i : rgI i) (hc : i = 1) : CnR g mX8_imageAt 1 [.ref b, .int (iI i)] h (b + 193) := by
  have q := kX8_imageAt g (i := i) x0 g_i
  rw [if_neg (by omega), if_pos hc] at q
  exact q
theorem kX8_imageAtN (g : Gt) {h : AH} {b : Nat} {la lb c0 c1 c2 i : Int} (x0 : XO h b la lb c0 c1 c2) (g_i : rgI i) (hc : ¬ (0 ≤ i ∧ i ≤ 1)) : CnN g mX8_imageAt 1 [.ref b, .int (iI i)] h := by
  have q := kX8_imageAt g (i := i) x0 g_i
  rw [if_neg (by omega), if_neg (by omega)] at q
  exact q

set_option maxHeartbeats 4000000 in
set_option maxRecDepth 20000 in
theorem kX8_image_0 (g : Gt) {h : AH} {b : Nat} {S : Nat → Int → Int} {i : Int} (hX : XR h b S) (hV : invM S) (g_i : rgI i) (hc : i = 0) : CnJ g mX8_image 5 [.ref b, .int (iI i)] h (imageA S i).1 (QX h b (imageA S i).2) := by
  refine Cn.mk (by decide +kernel) (Nat.le_of_ble_eq_true rfl) ?_
  intro x sz hx hr
  show Zj g x (sz, 0, 0) h 0 [(0, .ref b), (1, .int (iI i))] []
  obtain ⟨F, pi, Fs, kq, N, T, x0, hK, hi0, hi1, htx, htr, hrb, heb, hhb, ⟨hR, hPR, hNn⟩, htt⟩ := hX
  obtain ⟨k0, k1, k2, k3, k4, k5⟩ := hK
  have hN := hV.1
  have hI := hN.1
  have hn := hI.n
  have rn := hR.n
  have h58 : 0 ≤ S 1 58 ∧ S 1 58 ≤ 8 := ⟨(hI.rg 58 (by decide)).1, hN.2.2.2.1⟩
  have h39 : 0 ≤ S 1 39 ∧ S 1 39 ≤ 6 := ⟨(hI.rg 39 (by decide)).1, hN.2.2.1⟩
  have h0 : 0 ≤ S 1 0 ∧ S 1 0 ≤ 999 := ⟨hN.2.1.2, hN.2.1.1⟩
  have hmx : ∀ i, 0 ≤ i → i < S 1 58 → inv (mixF (S 1) i) := fun i a b => (hN.2.2.2.2.1 i a b).1
  have hno : ∀ i, 0 ≤ i → i < S 1 39 → S 1 (40 + 3 * i) < 5 ∧ S 1 (40 + 3 * i + 1) ≤ 40 ∧ S 1 (40 + 3 * i + 2) ≤ 9 := fun i a b => by have q := hN.2.2.2.2.2 i a b; rw [show 41 + 3 * i = 40 + 3 * i + 1 by omega, show 42 + 3 * i = 40 + 3 * i + 2 by omega] at q; exact q
  have hTo : outR (S 2) := hV.2.1
  have hL := hV.2.2.2.1
  have htt2 := hV.2.2.2.2.1
  obtain ⟨F1, pi1, Fs1, m1, n1, N1, ⟨j0, j1, j2, j3, j4, j5⟩, ir⟩ := hi0
  have hi01 := hV.2.2.2.2.2 0 (by decide)
  have hk01 : S 5 0 = 0 ∨ S 5 0 = 1 := hi01.imp id (fun q => q.1)
  have ho := hV.2.2.2.2.2 1 (by decide)
  refine z_aload_n hx dX8_image_0 rfl 0 rfl ?_
  refine z_iload_n hx dX8_image_1 rfl 1 rfl ?_
  refine z_cVR (as := [.int (iI i)]) (rest := []) hx dX8_image_2 lk_X8_260 wm_X8_imageAt wv_X8_imageAt (rcv_obj hx x0 rfl) mo_X8_imageAt (kX8_imageAt0 g x0 g_i hc) (by decide) rfl rfl (Nat.le_of_ble_eq_true rfl) ?_
  refine z_astore_n hx dX8_image_5 rfl (by decide) [1, 2, 0] (lv' := [(0, .ref b), (1, .int (iI i)), (2, .ref (b + 97))]) rfl ?_
  refine z_aload_n hx dX8_image_6 rfl 2 rfl ?_
  refine z_ifnonnull (tgt := 17) hx dX8_image_7 (by decide) ?_
  refine z_aload_n hx dX8_image_17 rfl 2 rfl ?_
  refine z_aload_n hx dX8_image_18 rfl 0 rfl ?_
  refine z_get hx dX8_image_19 fl_X8_10 x0 rfl ?_
  refine z_cVV (as := [.ref (b + 1)]) (rest := []) hx dX8_image_22 lk_X8_264 wm_X3_becomes wv_X3_becomes (rcv_obj hx j0 rfl) mo_X3_becomes (kX3_becomes g (f := (S 1)) (F := F1) (pi := pi1) (Fs := Fs1) (m := m1) (n := n1) (kp := (S 5 0)) (N := N1) ⟨j0, j1, j2, j3, j4, j5⟩ (N2 := N) ⟨k0, k1, k2, k3, k4, k5⟩ hR hPR hNn hN (by omega)) (by decide) rfl rfl (Nat.le_of_ble_eq_true rfl) (fun h_1 q_2 => ?_)
  obtain ⟨F_3, pi_4, Fs_5, N_6, ⟨m_7, m_8, m_9, m_10, m_11, m_12⟩, hR_13, hQ_14, hN_15, hf_16⟩ := q_2
  have h_17 := hf_16.at (by omega) x0
  have h_18 := hf_16.at (by omega) k0
  have h_19 := CM.fr k1 hf_16 (by omega)
  have h_20 := PM.fr k2 hf_16 (by omega)
  have h_21 := hf_16.at (by omega) k3
  have h_22 := hf_16.at (by omega) k4
  have h_23 := hf_16.at (by omega) k5
  have h_24 := IB.fr hi1 hf_16 (by omega)
  have h_25 := TB.fr htx hf_16 (by omega)
  have h_26 := CB.fr htr hf_16 (by omega)
  have h_27 := RB.fr hrb hf_16 (by omega)
  have h_28 := EB.fr heb hf_16 (by omega)
  have h_29 := HB.fr hhb hf_16 (by omega)
  have fr_30 : Fr h h_1 b 367 := hf_16.wd (by omega) (by omega)
  refine z_aload_n hx dX8_image_25 rfl 2 rfl ?_
  refine z_iconst hx dX8_image_26 ?_
  refine z_putQ hx dX8_image_27 fl_X8_267 m_7 ⟨rfl, rfl⟩ (Nat.le_of_ble_eq_true rfl) (fun h_31 hs_32 hf_33 => ?_)
  have h_34 := CM.fr m_8 hf_33 (by omega)
  have h_35 := PM.fr m_9 hf_33 (by omega)
  have h_36 := hf_33.at (by omega) m_10
  have h_37 := hf_33.at (by omega) m_11
  have h_38 := hf_33.at (by omega) m_12
  have h_39 := hf_33.at (by omega) h_17
  have h_40 := hf_33.at (by omega) h_18
  have h_41 := CM.fr h_19 hf_33 (by omega)
  have h_42 := PM.fr h_20 hf_33 (by omega)
  have h_43 := hf_33.at (by omega) h_21
  have h_44 := hf_33.at (by omega) h_22
  have h_45 := hf_33.at (by omega) h_23
  have h_46 := IB.fr h_24 hf_33 (by omega)
  have h_47 := TB.fr h_25 hf_33 (by omega)
  have h_48 := CB.fr h_26 hf_33 (by omega)
  have h_49 := RB.fr h_27 hf_33 (by omega)
  have h_50 := EB.fr h_28 hf_33 (by omega)
  have h_51 := HB.fr h_29 hf_33 (by omega)
  have fr_52 := fr_30.tr (hf_33.wd (by omega) (by omega))
  refine z_iconst hx dX8_image_30 ?_
  refine z_iret hx hr dX8_image_31 rfl rfl (q_j (by unfold imageA; (repeat (first | rw [if_pos (by omega)] | rw [if_neg (by omega)])); (try first | rfl | omega)) (by unfold imageA; (repeat (first | rw [if_pos (by omega)] | rw [if_neg (by omega)])); show XC h_31 b (S 0) (S 1) (fcp (S 1) (S 4) 0 (267 * i) 267) (fup (S 5) i 1) (S 6) (S 7) ∧ Fr h h_31 b 367; exact ⟨⟨F, pi, Fs, kq, N, T, h_39, KM.eq ⟨h_40, h_41, h_42, h_43, h_44, h_45⟩ (rfl) (rfl), (IB_kp (show fup (S 5) i 1 0 = 1 by subst hc; exact fup_s _ _ _) ⟨F_3, pi_4, Fs_5, _, _, N_6, ⟨hs_32, h_34, h_35, h_36, h_37, h_38⟩, fun _ => IRl_ext (f := S 1) ⟨hR_13, rfl, hQ_14, rfl, hN_15⟩ hN (fun j x y => by show fcp (S 1) (S 4) 0 (267 * i) 267 (267 * 0 + j) = S 1 j; rw [fcp_in (by omega)]; congr 1; omega)⟩), IB_ext (q := fcp (S 4) (S 1) (267 * 1) 0 267) h_46 (show fup (S 5) i 1 1 = S 5 1 from fup_n (by omega)) (fun w9 => (ho.resolve_left (by omega)).2) (fun j x y => by show S 4 (267 * 1 + j) = _; rw [fcp_in (by omega)]; congr 1; omega) (fun j x y => by show fcp (S 1) (S 4) 0 (267 * i) 267 (267 * 1 + j) = _; rw [fcp_out (by omega), fcp_in (by omega)]; congr 1; omega), h_47, h_48, h_49, h_50, h_51, ⟨hR, hPR, hNn⟩, htt⟩, fr_52⟩))

set_option maxHeartbeats 4000000 in
set_option maxRecDepth 20000 in
theorem kX8_image_1 (g : Gt) {h : AH} {b : Nat} {S : Nat → Int → Int} {i : Int} (hX : XR h b S) (hV : invM S) (g_i : rgI i) (hc : i = 1) : CnJ g mX8_image 5 [.ref b, .int (iI i)] h (imageA S i).1 (QX h b (imageA S i).2) := by
  refine Cn.mk (by decide +kernel) (Nat.le_of_ble_eq_true rfl) ?_
  intro x sz hx hr
  show Zj g x (sz, 0, 0) h 0 [(0, .ref b), (1, .int (iI i))] []
  obtain ⟨F, pi, Fs, kq, N, T, x0, hK, hi0, hi1, htx, htr, hrb, heb, hhb, ⟨hR, hPR, hNn⟩, htt⟩ := hX
  obtain ⟨k0, k1, k2, k3, k4, k5⟩ := hK
  have hN := hV.1
  have hI := hN.1
  have hn := hI.n
  have rn := hR.n
  have h58 : 0 ≤ S 1 58 ∧ S 1 58 ≤ 8 := ⟨(hI.rg 58 (by decide)).1, hN.2.2.2.1⟩
  have h39 : 0 ≤ S 1 39 ∧ S 1 39 ≤ 6 := ⟨(hI.rg 39 (by decide)).1, hN.2.2.1⟩
  have h0 : 0 ≤ S 1 0 ∧ S 1 0 ≤ 999 := ⟨hN.2.1.2, hN.2.1.1⟩
  have hmx : ∀ i, 0 ≤ i → i < S 1 58 → inv (mixF (S 1) i) := fun i a b => (hN.2.2.2.2.1 i a b).1
  have hno : ∀ i, 0 ≤ i → i < S 1 39 → S 1 (40 + 3 * i) < 5 ∧ S 1 (40 + 3 * i + 1) ≤ 40 ∧ S 1 (40 + 3 * i + 2) ≤ 9 := fun i a b => by have q := hN.2.2.2.2.2 i a b; rw [show 41 + 3 * i = 40 + 3 * i + 1 by omega, show 42 + 3 * i = 40 + 3 * i + 2 by omega] at q; exact q
  have hTo : outR (S 2) := hV.2.1
  have hL := hV.2.2.2.1
  have htt2 := hV.2.2.2.2.1
  obtain ⟨F1, pi1, Fs1, m1, n1, N1, ⟨j0, j1, j2, j3, j4, j5⟩, ir⟩ := hi1
  have hi01 := hV.2.2.2.2.2 1 (by decide)
  have hk01 : S 5 1 = 0 ∨ S 5 1 = 1 := hi01.imp id (fun q => q.1)
  have ho := hV.2.2.2.2.2 0 (by decide)
  refine z_aload_n hx dX8_image_0 rfl 0 rfl ?_
  refine z_iload_n hx dX8_image_1 rfl 1 rfl ?_
  refine z_cVR (as := [.int (iI i)]) (rest := []) hx dX8_image_2 lk_X8_260 wm_X8_imageAt wv_X8_imageAt (rcv_obj hx x0 rfl) mo_X8_imageAt (kX8_imageAt1 g x0 g_i hc) (by decide) rfl rfl (Nat.le_of_ble_eq_true rfl) ?_
  refine z_astore_n hx dX8_image_5 rfl (by decide) [1, 2, 0] (lv' := [(0, .ref b), (1, .int (iI i)), (2, .ref (b + 193))]) rfl ?_
  refine z_aload_n hx dX8_image_6 rfl 2 rfl ?_
  refine z_ifnonnull (tgt := 17) hx dX8_image_7 (by decide) ?_
  refine z_aload_n hx dX8_image_17 rfl 2 rfl ?_
  refine z_aload_n hx dX8_image_18 rfl 0 rfl ?_
  refine z_get hx dX8_image_19 fl_X8_10 x0 rfl ?_
  refine z_cVV (as := [.ref (b + 1)]) (rest := []) hx dX8_image_22 lk_X8_264 wm_X3_becomes wv_X3_becomes (rcv_obj hx j0 rfl) mo_X3_becomes (kX3_becomes g (f := (S 1)) (F := F1) (pi := pi1) (Fs := Fs1) (m := m1) (n := n1) (kp := (S 5 1)) (N := N1) ⟨j0, j1, j2, j3, j4, j5⟩ (N2 := N) ⟨k0, k1, k2, k3, k4, k5⟩ hR hPR hNn hN (by omega)) (by decide) rfl rfl (Nat.le_of_ble_eq_true rfl) (fun h_1 q_2 => ?_)
  obtain ⟨F_3, pi_4, Fs_5, N_6, ⟨m_7, m_8, m_9, m_10, m_11, m_12⟩, hR_13, hQ_14, hN_15, hf_16⟩ := q_2
  have h_17 := hf_16.at (by omega) x0
  have h_18 := hf_16.at (by omega) k0
  have h_19 := CM.fr k1 hf_16 (by omega)
  have h_20 := PM.fr k2 hf_16 (by omega)
  have h_21 := hf_16.at (by omega) k3
  have h_22 := hf_16.at (by omega) k4
  have h_23 := hf_16.at (by omega) k5
  have h_24 := IB.fr hi0 hf_16 (by omega)
  have h_25 := TB.fr htx hf_16 (by omega)
  have h_26 := CB.fr htr hf_16 (by omega)
  have h_27 := RB.fr hrb hf_16 (by omega)
  have h_28 := EB.fr heb hf_16 (by omega)
  have h_29 := HB.fr hhb hf_16 (by omega)
  have fr_30 : Fr h h_1 b 367 := hf_16.wd (by omega) (by omega)
  refine z_aload_n hx dX8_image_25 rfl 2 rfl ?_
  refine z_iconst hx dX8_image_26 ?_
  refine z_putQ hx dX8_image_27 fl_X8_267 m_7 ⟨rfl, rfl⟩ (Nat.le_of_ble_eq_true rfl) (fun h_31 hs_32 hf_33 => ?_)
  have h_34 := CM.fr m_8 hf_33 (by omega)
  have h_35 := PM.fr m_9 hf_33 (by omega)
  have h_36 := hf_33.at (by omega) m_10
  have h_37 := hf_33.at (by omega) m_11
  have h_38 := hf_33.at (by omega) m_12
  have h_39 := hf_33.at (by omega) h_17
  have h_40 := hf_33.at (by omega) h_18
  have h_41 := CM.fr h_19 hf_33 (by omega)
  have h_42 := PM.fr h_20 hf_33 (by omega)
  have h_43 := hf_33.at (by omega) h_21
  have h_44 := hf_33.at (by omega) h_22
  have h_45 := hf_33.at (by omega) h_23
  have h_46 := IB.fr h_24 hf_33 (by omega)
  have h_47 := TB.fr h_25 hf_33 (by omega)
  have h_48 := CB.fr h_26 hf_33 (by omega)
  have h_49 := RB.fr h_27 hf_33 (by omega)
  have h_50 := EB.fr h_28 hf_33 (by omega)
  have h_51 := HB.fr h_29 hf_33 (by omega)
  have fr_52 := fr_30.tr (hf_33.wd (by omega) (by omega))
  refine z_iconst hx dX8_image_30 ?_
  refine z_iret hx hr dX8_image_31 rfl rfl (q_j (by unfold imageA; (repeat (first | rw [if_pos (by omega)] | rw [if_neg (by omega)])); (try first | rfl | omega)) (by unfold imageA; (repeat (first | rw [if_pos (by omega)] | rw [if_neg (by omega)])); show XC h_31 b (S 0) (S 1) (fcp (S 1) (S 4) 0 (267 * i) 267) (fup (S 5) i 1) (S 6) (S 7) ∧ Fr h h_31 b 367; exact ⟨⟨F, pi, Fs, kq, N, T, h_39, KM.eq ⟨h_40, h_41, h_42, h_43, h_44, h_45⟩ (rfl) (rfl), IB_ext (q := fcp (S 4) (S 1) (267 * 0) 0 267) h_46 (show fup (S 5) i 1 0 = S 5 0 from fup_n (by omega)) (fun w9 => (ho.resolve_left (by omega)).2) (fun j x y => by show S 4 (267 * 0 + j) = _; rw [fcp_in (by omega)]; congr 1; omega) (fun j x y => by show fcp (S 1) (S 4) 0 (267 * i) 267 (267 * 0 + j) = _; rw [fcp_out (by omega), fcp_in (by omega)]; congr 1; omega), (IB_kp (show fup (S 5) i 1 1 = 1 by subst hc; exact fup_s _ _ _) ⟨F_3, pi_4, Fs_5, _, _, N_6, ⟨hs_32, h_34, h_35, h_36, h_37, h_38⟩, fun _ => IRl_ext (f := S 1) ⟨hR_13, rfl, hQ_14, rfl, hN_15⟩ hN (fun j x y => by show fcp (S 1) (S 4) 0 (267 * i) 267 (267 * 1 + j) = S 1 j; rw [fcp_in (by omega)]; congr 1; omega)⟩), h_47, h_48, h_49, h_50, h_51, ⟨hR, hPR, hNn⟩, htt⟩, fr_52⟩))

set_option maxHeartbeats 4000000 in
set_option maxRecDepth 20000 in
theorem kX8_image_N (g : Gt) {h : AH} {b : Nat} {S : Nat → Int → Int} {i : Int} (hX : XR h b S) (hV : invM S) (g_i : rgI i) (hc : ¬ (0 ≤ i ∧ i ≤ 1)) : CnJ g mX8_image 5 [.ref b, .int (iI i)] h (imageA S i).1 (QX h b (imageA S i).2) := by
  refine Cn.mk (by decide +kernel) (Nat.le_of_ble_eq_true rfl) ?_
  intro x sz hx hr
  show Zj g x (sz, 0, 0) h 0 [(0, .ref b), (1, .int (iI i))] []
  obtain ⟨F, pi, Fs, kq, N, T, x0, hK, hi0, hi1, htx, htr, hrb, heb, hhb, ⟨hR, hPR, hNn⟩, htt⟩ := hX
  obtain ⟨k0, k1, k2, k3, k4, k5⟩ := hK
  have hN := hV.1
  have hI := hN.1
  have hn := hI.n
  have rn := hR.n
  have h58 : 0 ≤ S 1 58 ∧ S 1 58 ≤ 8 := ⟨(hI.rg 58 (by decide)).1, hN.2.2.2.1⟩
  have h39 : 0 ≤ S 1 39 ∧ S 1 39 ≤ 6 := ⟨(hI.rg 39 (by decide)).1, hN.2.2.1⟩
  have h0 : 0 ≤ S 1 0 ∧ S 1 0 ≤ 999 := ⟨hN.2.1.2, hN.2.1.1⟩
  have hmx : ∀ i, 0 ≤ i → i < S 1 58 → inv (mixF (S 1) i) := fun i a b => (hN.2.2.2.2.1 i a b).1
  have hno : ∀ i, 0 ≤ i → i < S 1 39 → S 1 (40 + 3 * i) < 5 ∧ S 1 (40 + 3 * i + 1) ≤ 40 ∧ S 1 (40 + 3 * i + 2) ≤ 9 := fun i a b => by have q := hN.2.2.2.2.2 i a b; rw [show 41 + 3 * i = 40 + 3 * i + 1 by omega, show 42 + 3 * i = 40 + 3 * i + 2 by omega] at q; exact q
  have hTo : outR (S 2) := hV.2.1
  have hL := hV.2.2.2.1
  have htt2 := hV.2.2.2.2.1
  refine z_aload_n hx dX8_image_0 rfl 0 rfl ?_
  refine z_iload_n hx dX8_image_1 rfl 1 rfl ?_
  refine z_cVN (as := [.int (iI i)]) (rest := []) hx dX8_image_2 lk_X8_260 wm_X8_imageAt wv_X8_imageAt (rcv_obj hx x0 rfl) mo_X8_imageAt (kX8_imageAtN g x0 g_i hc) (by decide) rfl rfl (Nat.le_of_ble_eq_true rfl) ?_
  refine z_aNstore_n hx dX8_image_5 rfl (by decide) [1, 2, 0] (lv' := [(0, .ref b), (1, .int (iI i)), (2, .null)]) rfl ?_
  refine z_aloadN_n hx dX8_image_6 rfl 2 rfl ?_
  refine z_ifnonnullN hx dX8_image_7 ?_
  refine z_aload_n hx dX8_image_10 rfl 0 rfl ?_
  refine z_bipush hx dX8_image_11 (by decide) ?_
  refine z_cVJ (as := [.int (iI (-2))]) (rest := []) hx dX8_image_13 lk_X8_88 wm_X8_bad wv_X8_bad (rcv_obj hx x0 rfl) mo_X8_bad (kX8_bad g (v := (-2)) x0) (by decide) rfl rfl (Nat.le_of_ble_eq_true rfl) (fun h_1 q_2 => ?_)
  obtain ⟨hs_3, hf_4⟩ := q_2
  have h_5 := hf_4.at (by omega) k0
  have h_6 := CM.fr k1 hf_4 (by omega)
  have h_7 := PM.fr k2 hf_4 (by omega)
  have h_8 := hf_4.at (by omega) k3
  have h_9 := hf_4.at (by omega) k4
  have h_10 := hf_4.at (by omega) k5
  have h_11 := IB.fr hi0 hf_4 (by omega)
  have h_12 := IB.fr hi1 hf_4 (by omega)
  have h_13 := TB.fr htx hf_4 (by omega)
  have h_14 := CB.fr htr hf_4 (by omega)
  have h_15 := RB.fr hrb hf_4 (by omega)
  have h_16 := EB.fr heb hf_4 (by omega)
  have h_17 := HB.fr hhb hf_4 (by omega)
  have fr_18 : Fr h h_1 b 367 := hf_4.wd (by omega) (by omega)
  refine z_iret hx hr dX8_image_16 rfl rfl (q_j (by unfold imageA; (repeat (first | rw [if_pos (by omega)] | rw [if_neg (by omega)])); (try first | rfl | omega)) (by unfold imageA; (repeat (first | rw [if_pos (by omega)] | rw [if_neg (by omega)])); show XC h_1 b (S 0) (S 1) (S 4) (S 5) (fup (S 6) 0 ((S 6) 0 + 1)) (S 7) ∧ Fr h h_1 b 367; exact ⟨⟨F, pi, Fs, kq, N, T, hs_3, KM.eq ⟨h_5, h_6, h_7, h_8, h_9, h_10⟩ (rfl) (rfl), h_11, h_12, h_13, h_14, h_15, h_16, h_17, ⟨hR, hPR, hNn⟩, htt⟩, fr_18⟩))

set_option maxHeartbeats 4000000 in
set_option maxRecDepth 20000 in
theorem kX8_from_0 (g : Gt) {h : AH} {b : Nat} {S : Nat → Int → Int} {i : Int} (hX : XR h b S) (hV : invM S) (g_i : rgI i) (hc : i = 0) : CnJ g mX8_from 5 [.ref b, .int (iI i)] h (fromA S i).1 (QX h b (fromA S i).2) := by
  refine Cn.mk (by decide +kernel) (Nat.le_of_ble_eq_true rfl) ?_
  intro x sz hx hr
  show Zj g x (sz, 0, 0) h 0 [(0, .ref b), (1, .int (iI i))] []
  obtain ⟨F, pi, Fs, kq, N, T, x0, hK, hi0, hi1, htx, htr, hrb, heb, hhb, ⟨hR, hPR, hNn⟩, htt⟩ := hX
  obtain ⟨k0, k1, k2, k3, k4, k5⟩ := hK
  have hN := hV.1
  have hI := hN.1
  have hn := hI.n
  have rn := hR.n
  have h58 : 0 ≤ S 1 58 ∧ S 1 58 ≤ 8 := ⟨(hI.rg 58 (by decide)).1, hN.2.2.2.1⟩
  have h39 : 0 ≤ S 1 39 ∧ S 1 39 ≤ 6 := ⟨(hI.rg 39 (by decide)).1, hN.2.2.1⟩
  have h0 : 0 ≤ S 1 0 ∧ S 1 0 ≤ 999 := ⟨hN.2.1.2, hN.2.1.1⟩
  have hmx : ∀ i, 0 ≤ i → i < S 1 58 → inv (mixF (S 1) i) := fun i a b => (hN.2.2.2.2.1 i a b).1
  have hno : ∀ i, 0 ≤ i → i < S 1 39 → S 1 (40 + 3 * i) < 5 ∧ S 1 (40 + 3 * i + 1) ≤ 40 ∧ S 1 (40 + 3 * i + 2) ≤ 9 := fun i a b => by have q := hN.2.2.2.2.2 i a b; rw [show 41 + 3 * i = 40 + 3 * i + 1 by omega, show 42 + 3 * i = 40 + 3 * i + 2 by omega] at q; exact q
  have hTo : outR (S 2) := hV.2.1
  have hL := hV.2.2.2.1
  have htt2 := hV.2.2.2.2.1
  obtain ⟨F1, pi1, Fs1, m1, n1, N1, ⟨j0, j1, j2, j3, j4, j5⟩, ir⟩ := hi0
  have hi01 := hV.2.2.2.2.2 0 (by decide)
  have hk01 : S 5 0 = 0 ∨ S 5 0 = 1 := hi01.imp id (fun q => q.1)
  have ho := hV.2.2.2.2.2 1 (by decide)
  refine z_aload_n hx dX8_from_0 rfl 0 rfl ?_
  refine z_iload_n hx dX8_from_1 rfl 1 rfl ?_
  refine z_cVR (as := [.int (iI i)]) (rest := []) hx dX8_from_2 lk_X8_260 wm_X8_imageAt wv_X8_imageAt (rcv_obj hx x0 rfl) mo_X8_imageAt (kX8_imageAt0 g x0 g_i hc) (by decide) rfl rfl (Nat.le_of_ble_eq_true rfl) ?_
  refine z_astore_n hx dX8_from_5 rfl (by decide) [1, 2, 0] (lv' := [(0, .ref b), (1, .int (iI i)), (2, .ref (b + 97))]) rfl ?_
  refine z_aload_n hx dX8_from_6 rfl 2 rfl ?_
  refine z_ifnonnull (tgt := 17) hx dX8_from_7 (by decide) ?_
  refine z_aload_n hx dX8_from_17 rfl 2 rfl ?_
  refine z_get hx dX8_from_18 fl_X8_267 j0 rfl ?_
  refine z_if_ne (tgt := 29) hx dX8_from_21 (by decide) (by omega) (fun c_1 => ?_) (fun c_1 => ?_)
  ·
    have hq := (hi01.resolve_left (by omega)).2
    obtain ⟨iR, rfl, iP, rfl, iN⟩ : IRl F1 Fs1 m1 n1 N1 (fcp (S 4) (S 1) (267 * 0) 0 267) := IRl_ext2 (ir (by omega)) hq (fun j x y => by show S 4 (267 * 0 + j) = _; rw [fcp_in (by omega)]; congr 1; omega) (fun j x y => rfl)
    refine z_aload_n hx dX8_from_29 rfl 0 rfl ?_
    refine z_get hx dX8_from_30 fl_X8_10 x0 rfl ?_
    refine z_aload_n hx dX8_from_33 rfl 2 rfl ?_
    refine z_cVV (as := [.ref (b + 97)]) (rest := []) hx dX8_from_34 lk_X8_264 wm_X3_becomes wv_X3_becomes (rcv_obj hx k0 rfl) mo_X3_becomes (kX3_becomes g (f := (fcp (S 4) (S 1) (267 * 0) 0 267)) (F := F) (pi := pi) (Fs := Fs) (m := (S 1 58)) (n := (S 1 39)) (kp := kq) (N := N) ⟨k0, k1, k2, k3, k4, k5⟩ (N2 := N1) ⟨j0, j1, j2, j3, j4, j5⟩ iR iP iN hq (by omega)) (by decide) rfl rfl (Nat.le_of_ble_eq_true rfl) (fun h_2 q_3 => ?_)
    obtain ⟨F_4, pi_5, Fs_6, N_7, ⟨m_8, m_9, m_10, m_11, m_12, m_13⟩, hR_14, hQ_15, hN_16, hf_17⟩ := q_3
    have h_18 := hf_17.at (by omega) x0
    have h_19 := IB.fr hi1 hf_17 (by omega)
    have h_20 := TB.fr htx hf_17 (by omega)
    have h_21 := CB.fr htr hf_17 (by omega)
    have h_22 := RB.fr hrb hf_17 (by omega)
    have h_23 := EB.fr heb hf_17 (by omega)
    have h_24 := HB.fr hhb hf_17 (by omega)
    have h_25 := hf_17.at (by omega) j0
    have h_26 := CM.fr j1 hf_17 (by omega)
    have h_27 := PM.fr j2 hf_17 (by omega)
    have h_28 := hf_17.at (by omega) j3
    have h_29 := hf_17.at (by omega) j4
    have h_30 := hf_17.at (by omega) j5
    have fr_31 : Fr h h_2 b 367 := hf_17.wd (by omega) (by omega)
    refine z_iconst hx dX8_from_37 ?_
    refine z_iret hx hr dX8_from_38 rfl rfl (q_j (by unfold fromA; subst hc; (repeat (first | rw [if_pos (by omega)] | rw [if_neg (by omega)]))) (by unfold fromA; subst hc; (repeat (first | rw [if_pos (by omega)] | rw [if_neg (by omega)])); show XC h_2 b (S 0) (fcp (S 4) (S 1) (267 * 0) 0 267) (S 4) (S 5) (S 6) (S 7) ∧ Fr h h_2 b 367; exact ⟨⟨F_4, pi_5, Fs_6, kq, N_7, T, h_18, KM.eq ⟨m_8, m_9, m_10, m_11, m_12, m_13⟩ (rfl) (rfl), ⟨F1, pi1, Fs1, _, _, N1, ⟨h_25, h_26, h_27, h_28, h_29, h_30⟩, ir⟩, h_19, h_20, h_21, h_22, h_23, h_24, ⟨hR_14, hQ_15, hN_16⟩, htt⟩, fr_31⟩))
  ·
    refine z_aload_n hx dX8_from_24 rfl 0 rfl ?_
    refine z_cVJ (as := []) (rest := []) hx dX8_from_25 lk_X8_176 wm_X8_no wv_X8_no (rcv_obj hx x0 rfl) mo_X8_no (kX8_no g  x0) (by decide) rfl rfl (Nat.le_of_ble_eq_true rfl) (fun h_32 q_33 => ?_)
    obtain ⟨hs_34, hf_35⟩ := q_33
    have h_36 := hf_35.at (by omega) k0
    have h_37 := CM.fr k1 hf_35 (by omega)
    have h_38 := PM.fr k2 hf_35 (by omega)
    have h_39 := hf_35.at (by omega) k3
    have h_40 := hf_35.at (by omega) k4
    have h_41 := hf_35.at (by omega) k5
    have h_42 := IB.fr hi1 hf_35 (by omega)
    have h_43 := TB.fr htx hf_35 (by omega)
    have h_44 := CB.fr htr hf_35 (by omega)
    have h_45 := RB.fr hrb hf_35 (by omega)
    have h_46 := EB.fr heb hf_35 (by omega)
    have h_47 := HB.fr hhb hf_35 (by omega)
    have h_48 := hf_35.at (by omega) j0
    have h_49 := CM.fr j1 hf_35 (by omega)
    have h_50 := PM.fr j2 hf_35 (by omega)
    have h_51 := hf_35.at (by omega) j3
    have h_52 := hf_35.at (by omega) j4
    have h_53 := hf_35.at (by omega) j5
    have fr_54 : Fr h h_32 b 367 := hf_35.wd (by omega) (by omega)
    refine z_iret hx hr dX8_from_28 rfl rfl (q_j (by unfold fromA; subst hc; (repeat (first | rw [if_pos (by omega)] | rw [if_neg (by omega)]))) (by unfold fromA; subst hc; (repeat (first | rw [if_pos (by omega)] | rw [if_neg (by omega)])); show XC h_32 b (S 0) (S 1) (S 4) (S 5) (fup (S 6) 1 ((S 6) 1 + 1)) (S 7) ∧ Fr h h_32 b 367; exact ⟨⟨F, pi, Fs, kq, N, T, hs_34, KM.eq ⟨h_36, h_37, h_38, h_39, h_40, h_41⟩ (rfl) (rfl), ⟨F1, pi1, Fs1, _, _, N1, ⟨h_48, h_49, h_50, h_51, h_52, h_53⟩, ir⟩, h_42, h_43, h_44, h_45, h_46, h_47, ⟨hR, hPR, hNn⟩, htt⟩, fr_54⟩))

set_option maxHeartbeats 4000000 in
set_option maxRecDepth 20000 in
theorem kX8_from_1 (g : Gt) {h : AH} {b : Nat} {S : Nat → Int → Int} {i : Int} (hX : XR h b S) (hV : invM S) (g_i : rgI i) (hc : i = 1) : CnJ g mX8_from 5 [.ref b, .int (iI i)] h (fromA S i).1 (QX h b (fromA S i).2) := by
  refine Cn.mk (by decide +kernel) (Nat.le_of_ble_eq_true rfl) ?_
  intro x sz hx hr
  show Zj g x (sz, 0, 0) h 0 [(0, .ref b), (1, .int (iI i))] []
  obtain ⟨F, pi, Fs, kq, N, T, x0, hK, hi0, hi1, htx, htr, hrb, heb, hhb, ⟨hR, hPR, hNn⟩, htt⟩ := hX
  obtain ⟨k0, k1, k2, k3, k4, k5⟩ := hK
  have hN := hV.1
  have hI := hN.1
  have hn := hI.n
  have rn := hR.n
  have h58 : 0 ≤ S 1 58 ∧ S 1 58 ≤ 8 := ⟨(hI.rg 58 (by decide)).1, hN.2.2.2.1⟩
  have h39 : 0 ≤ S 1 39 ∧ S 1 39 ≤ 6 := ⟨(hI.rg 39 (by decide)).1, hN.2.2.1⟩
  have h0 : 0 ≤ S 1 0 ∧ S 1 0 ≤ 999 := ⟨hN.2.1.2, hN.2.1.1⟩
  have hmx : ∀ i, 0 ≤ i → i < S 1 58 → inv (mixF (S 1) i) := fun i a b => (hN.2.2.2.2.1 i a b).1
  have hno : ∀ i, 0 ≤ i → i < S 1 39 → S 1 (40 + 3 * i) < 5 ∧ S 1 (40 + 3 * i + 1) ≤ 40 ∧ S 1 (40 + 3 * i + 2) ≤ 9 := fun i a b => by have q := hN.2.2.2.2.2 i a b; rw [show 41 + 3 * i = 40 + 3 * i + 1 by omega, show 42 + 3 * i = 40 + 3 * i + 2 by omega] at q; exact q
  have hTo : outR (S 2) := hV.2.1
  have hL := hV.2.2.2.1
  have htt2 := hV.2.2.2.2.1
  obtain ⟨F1, pi1, Fs1, m1, n1, N1, ⟨j0, j1, j2, j3, j4, j5⟩, ir⟩ := hi1
  have hi01 := hV.2.2.2.2.2 1 (by decide)
  have hk01 : S 5 1 = 0 ∨ S 5 1 = 1 := hi01.imp id (fun q => q.1)
  have ho := hV.2.2.2.2.2 0 (by decide)
  refine z_aload_n hx dX8_from_0 rfl 0 rfl ?_
  refine z_iload_n hx dX8_from_1 rfl 1 rfl ?_
  refine z_cVR (as := [.int (iI i)]) (rest := []) hx dX8_from_2 lk_X8_260 wm_X8_imageAt wv_X8_imageAt (rcv_obj hx x0 rfl) mo_X8_imageAt (kX8_imageAt1 g x0 g_i hc) (by decide) rfl rfl (Nat.le_of_ble_eq_true rfl) ?_
  refine z_astore_n hx dX8_from_5 rfl (by decide) [1, 2, 0] (lv' := [(0, .ref b), (1, .int (iI i)), (2, .ref (b + 193))]) rfl ?_
  refine z_aload_n hx dX8_from_6 rfl 2 rfl ?_
  refine z_ifnonnull (tgt := 17) hx dX8_from_7 (by decide) ?_
  refine z_aload_n hx dX8_from_17 rfl 2 rfl ?_
  refine z_get hx dX8_from_18 fl_X8_267 j0 rfl ?_
  refine z_if_ne (tgt := 29) hx dX8_from_21 (by decide) (by omega) (fun c_1 => ?_) (fun c_1 => ?_)
  ·
    have hq := (hi01.resolve_left (by omega)).2
    obtain ⟨iR, rfl, iP, rfl, iN⟩ : IRl F1 Fs1 m1 n1 N1 (fcp (S 4) (S 1) (267 * 1) 0 267) := IRl_ext2 (ir (by omega)) hq (fun j x y => by show S 4 (267 * 1 + j) = _; rw [fcp_in (by omega)]; congr 1; omega) (fun j x y => rfl)
    refine z_aload_n hx dX8_from_29 rfl 0 rfl ?_
    refine z_get hx dX8_from_30 fl_X8_10 x0 rfl ?_
    refine z_aload_n hx dX8_from_33 rfl 2 rfl ?_
    refine z_cVV (as := [.ref (b + 193)]) (rest := []) hx dX8_from_34 lk_X8_264 wm_X3_becomes wv_X3_becomes (rcv_obj hx k0 rfl) mo_X3_becomes (kX3_becomes g (f := (fcp (S 4) (S 1) (267 * 1) 0 267)) (F := F) (pi := pi) (Fs := Fs) (m := (S 1 58)) (n := (S 1 39)) (kp := kq) (N := N) ⟨k0, k1, k2, k3, k4, k5⟩ (N2 := N1) ⟨j0, j1, j2, j3, j4, j5⟩ iR iP iN hq (by omega)) (by decide) rfl rfl (Nat.le_of_ble_eq_true rfl) (fun h_2 q_3 => ?_)
    obtain ⟨F_4, pi_5, Fs_6, N_7, ⟨m_8, m_9, m_10, m_11, m_12, m_13⟩, hR_14, hQ_15, hN_16, hf_17⟩ := q_3
    have h_18 := hf_17.at (by omega) x0
    have h_19 := IB.fr hi0 hf_17 (by omega)
    have h_20 := TB.fr htx hf_17 (by omega)
    have h_21 := CB.fr htr hf_17 (by omega)
    have h_22 := RB.fr hrb hf_17 (by omega)
    have h_23 := EB.fr heb hf_17 (by omega)
    have h_24 := HB.fr hhb hf_17 (by omega)
    have h_25 := hf_17.at (by omega) j0
    have h_26 := CM.fr j1 hf_17 (by omega)
    have h_27 := PM.fr j2 hf_17 (by omega)
    have h_28 := hf_17.at (by omega) j3
    have h_29 := hf_17.at (by omega) j4
    have h_30 := hf_17.at (by omega) j5
    have fr_31 : Fr h h_2 b 367 := hf_17.wd (by omega) (by omega)
    refine z_iconst hx dX8_from_37 ?_
    refine z_iret hx hr dX8_from_38 rfl rfl (q_j (by unfold fromA; subst hc; (repeat (first | rw [if_pos (by omega)] | rw [if_neg (by omega)]))) (by unfold fromA; subst hc; (repeat (first | rw [if_pos (by omega)] | rw [if_neg (by omega)])); show XC h_2 b (S 0) (fcp (S 4) (S 1) (267 * 1) 0 267) (S 4) (S 5) (S 6) (S 7) ∧ Fr h h_2 b 367; exact ⟨⟨F_4, pi_5, Fs_6, kq, N_7, T, h_18, KM.eq ⟨m_8, m_9, m_10, m_11, m_12, m_13⟩ (rfl) (rfl), h_19, ⟨F1, pi1, Fs1, _, _, N1, ⟨h_25, h_26, h_27, h_28, h_29, h_30⟩, ir⟩, h_20, h_21, h_22, h_23, h_24, ⟨hR_14, hQ_15, hN_16⟩, htt⟩, fr_31⟩))
  ·
    refine z_aload_n hx dX8_from_24 rfl 0 rfl ?_
    refine z_cVJ (as := []) (rest := []) hx dX8_from_25 lk_X8_176 wm_X8_no wv_X8_no (rcv_obj hx x0 rfl) mo_X8_no (kX8_no g  x0) (by decide) rfl rfl (Nat.le_of_ble_eq_true rfl) (fun h_32 q_33 => ?_)
    obtain ⟨hs_34, hf_35⟩ := q_33
    have h_36 := hf_35.at (by omega) k0
    have h_37 := CM.fr k1 hf_35 (by omega)
    have h_38 := PM.fr k2 hf_35 (by omega)
    have h_39 := hf_35.at (by omega) k3
    have h_40 := hf_35.at (by omega) k4
    have h_41 := hf_35.at (by omega) k5
    have h_42 := IB.fr hi0 hf_35 (by omega)
    have h_43 := TB.fr htx hf_35 (by omega)
    have h_44 := CB.fr htr hf_35 (by omega)
    have h_45 := RB.fr hrb hf_35 (by omega)
    have h_46 := EB.fr heb hf_35 (by omega)
    have h_47 := HB.fr hhb hf_35 (by omega)
    have h_48 := hf_35.at (by omega) j0
    have h_49 := CM.fr j1 hf_35 (by omega)
    have h_50 := PM.fr j2 hf_35 (by omega)
    have h_51 := hf_35.at (by omega) j3
    have h_52 := hf_35.at (by omega) j4
    have h_53 := hf_35.at (by omega) j5
    have fr_54 : Fr h h_32 b 367 := hf_35.wd (by omega) (by omega)
    refine z_iret hx hr dX8_from_28 rfl rfl (q_j (by unfold fromA; subst hc; (repeat (first | rw [if_pos (by omega)] | rw [if_neg (by omega)]))) (by unfold fromA; subst hc; (repeat (first | rw [if_pos (by omega)] | rw [if_neg (by omega)])); show XC h_32 b (S 0) (S 1) (S 4) (S 5) (fup (S 6) 1 ((S 6) 1 + 1)) (S 7) ∧ Fr h h_32 b 367; exact ⟨⟨F, pi, Fs, kq, N, T, hs_34, KM.eq ⟨h_36, h_37, h_38, h_39, h_40, h_41⟩ (rfl) (rfl), h_42, ⟨F1, pi1, Fs1, _, _, N1, ⟨h_48, h_49, h_50, h_51, h_52, h_53⟩, ir⟩, h_43, h_44, h_45, h_46, h_47, ⟨hR, hPR, hNn⟩, htt⟩, fr_54⟩))

set_option maxHeartbeats 4000000 in
set_option maxRecDepth 20000 in
theorem kX8_from_N (g : Gt) {h : AH} {b : Nat} {S : Nat → Int → Int} {i : Int} (hX : XR h b S) (hV : invM S) (g_i : rgI i) (hc : ¬ (0 ≤ i ∧ i ≤ 1)) : CnJ g mX8_from 5 [.ref b, .int (iI i)] h (fromA S i).1 (QX h b (fromA S i).2) := by
  refine Cn.mk (by decide +kernel) (Nat.le_of_ble_eq_true rfl) ?_
  intro x sz hx hr
  show Zj g x (sz, 0, 0) h 0 [(0, .ref b), (1, .int (iI i))] []
  obtain ⟨F, pi, Fs, kq, N, T, x0, hK, hi0, hi1, htx, htr, hrb, heb, hhb, ⟨hR, hPR, hNn⟩, htt⟩ := hX
  obtain ⟨k0, k1, k2, k3, k4, k5⟩ := hK
  have hN := hV.1
  have hI := hN.1
  have hn := hI.n
  have rn := hR.n
  have h58 : 0 ≤ S 1 58 ∧ S 1 58 ≤ 8 := ⟨(hI.rg 58 (by decide)).1, hN.2.2.2.1⟩
  have h39 : 0 ≤ S 1 39 ∧ S 1 39 ≤ 6 := ⟨(hI.rg 39 (by decide)).1, hN.2.2.1⟩
  have h0 : 0 ≤ S 1 0 ∧ S 1 0 ≤ 999 := ⟨hN.2.1.2, hN.2.1.1⟩
  have hmx : ∀ i, 0 ≤ i → i < S 1 58 → inv (mixF (S 1) i) := fun i a b => (hN.2.2.2.2.1 i a b).1
  have hno : ∀ i, 0 ≤ i → i < S 1 39 → S 1 (40 + 3 * i) < 5 ∧ S 1 (40 + 3 * i + 1) ≤ 40 ∧ S 1 (40 + 3 * i + 2) ≤ 9 := fun i a b => by have q := hN.2.2.2.2.2 i a b; rw [show 41 + 3 * i = 40 + 3 * i + 1 by omega, show 42 + 3 * i = 40 + 3 * i + 2 by omega] at q; exact q
  have hTo : outR (S 2) := hV.2.1
  have hL := hV.2.2.2.1
  have htt2 := hV.2.2.2.2.1
  refine z_aload_n hx dX8_from_0 rfl 0 rfl ?_
  refine z_iload_n hx dX8_from_1 rfl 1 rfl ?_
  refine z_cVN (as := [.int (iI i)]) (rest := []) hx dX8_from_2 lk_X8_260 wm_X8_imageAt wv_X8_imageAt (rcv_obj hx x0 rfl) mo_X8_imageAt (kX8_imageAtN g x0 g_i hc) (by decide) rfl rfl (Nat.le_of_ble_eq_true rfl) ?_
  refine z_aNstore_n hx dX8_from_5 rfl (by decide) [1, 2, 0] (lv' := [(0, .ref b), (1, .int (iI i)), (2, .null)]) rfl ?_
  refine z_aloadN_n hx dX8_from_6 rfl 2 rfl ?_
  refine z_ifnonnullN hx dX8_from_7 ?_
  refine z_aload_n hx dX8_from_10 rfl 0 rfl ?_
  refine z_bipush hx dX8_from_11 (by decide) ?_
  refine z_cVJ (as := [.int (iI (-2))]) (rest := []) hx dX8_from_13 lk_X8_88 wm_X8_bad wv_X8_bad (rcv_obj hx x0 rfl) mo_X8_bad (kX8_bad g (v := (-2)) x0) (by decide) rfl rfl (Nat.le_of_ble_eq_true rfl) (fun h_1 q_2 => ?_)
  obtain ⟨hs_3, hf_4⟩ := q_2
  have h_5 := hf_4.at (by omega) k0
  have h_6 := CM.fr k1 hf_4 (by omega)
  have h_7 := PM.fr k2 hf_4 (by omega)
  have h_8 := hf_4.at (by omega) k3
  have h_9 := hf_4.at (by omega) k4
  have h_10 := hf_4.at (by omega) k5
  have h_11 := IB.fr hi0 hf_4 (by omega)
  have h_12 := IB.fr hi1 hf_4 (by omega)
  have h_13 := TB.fr htx hf_4 (by omega)
  have h_14 := CB.fr htr hf_4 (by omega)
  have h_15 := RB.fr hrb hf_4 (by omega)
  have h_16 := EB.fr heb hf_4 (by omega)
  have h_17 := HB.fr hhb hf_4 (by omega)
  have fr_18 : Fr h h_1 b 367 := hf_4.wd (by omega) (by omega)
  refine z_iret hx hr dX8_from_16 rfl rfl (q_j (by unfold fromA; (repeat (first | rw [if_pos (by omega)] | rw [if_neg (by omega)])); (try first | rfl | omega)) (by unfold fromA; (repeat (first | rw [if_pos (by omega)] | rw [if_neg (by omega)])); show XC h_1 b (S 0) (S 1) (S 4) (S 5) (fup (S 6) 0 ((S 6) 0 + 1)) (S 7) ∧ Fr h h_1 b 367; exact ⟨⟨F, pi, Fs, kq, N, T, hs_3, KM.eq ⟨h_5, h_6, h_7, h_8, h_9, h_10⟩ (rfl) (rfl), h_11, h_12, h_13, h_14, h_15, h_16, h_17, ⟨hR, hPR, hNn⟩, htt⟩, fr_18⟩))

theorem kX8_image (g : Gt) {h : AH} {b : Nat} {S : Nat → Int → Int} {i : Int} (hX : XR h b S) (hV : invM S) (g_i : rgI i) : CnJ g mX8_image 5 [.ref b, .int (iI i)] h (imageA S i).1 (QX h b (imageA S i).2) := by
  by_cases c0 : i = 0
  · exact kX8_image_0 g hX hV g_i c0
  · by_cases c1 : i = 1
    · exact kX8_image_1 g hX hV g_i c1
    · exact kX8_image_N g hX hV g_i (by omega)

theorem kX8_from (g : Gt) {h : AH} {b : Nat} {S : Nat → Int → Int} {i : Int} (hX : XR h b S) (hV : invM S) (g_i : rgI i) : CnJ g mX8_from 5 [.ref b, .int (iI i)] h (fromA S i).1 (QX h b (fromA S i).2) := by
  by_cases c0 : i = 0
  · exact kX8_from_0 g hX hV g_i c0
  · by_cases c1 : i = 1
    · exact kX8_from_1 g hX hV g_i c1
    · exact kX8_from_N g hX hV g_i (by omega)

