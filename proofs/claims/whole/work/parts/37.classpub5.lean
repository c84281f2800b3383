/-! the class: two, rain, years, digest -/
theorem twI_h {f : Int → Int} {a b i j : Int} (hn : 0 ≤ f 26 ∧ f 26 ≤ 5) (hi : 0 ≤ i ∧ i < f 26) (hj : 0 ≤ j ∧ j < f 26) : (((5 * i + j) / 5 < f 26 ∧ (5 * i + j) % 5 < f 26) ∧ rst f a ((5 * i + j) / 5) b ((5 * i + j) % 5) = 1) ↔ (rsg f a i b j = 1 ∧ rsg f b j a i = 1) := by
  rw [show (5 * i + j) / 5 = i by omega, show (5 * i + j) % 5 = j by omega, rst_iff hn.1]
  exact ⟨fun w => w.2, fun w => ⟨⟨hi.2, hj.2⟩, w⟩⟩
theorem twI_y {f : Int → Int} {a b k i j n : Int} (hn : 0 ≤ f 26 ∧ f 26 ≤ 5) (hi : 0 ≤ i ∧ i < f 26) (hj : 0 ≤ j ∧ j < f 26) (c1 : rsg f a i b j = 1) (c2 : rsg f b j a i = 1) (h : n = k) : twN f a b k (25 - (5 * i + j)).toNat (5 * i + j) n = 5 * i + j :=
  twN_y (by omega) ((twI_h hn hi hj).mpr ⟨c1, c2⟩) h
theorem twI_n {f : Int → Int} {a b k i j n : Int} (hn : 0 ≤ f 26 ∧ f 26 ≤ 5) (hi : 0 ≤ i ∧ i < f 26) (hj : 0 ≤ j ∧ j < f 26) (c1 : rsg f a i b j = 1) (c2 : rsg f b j a i = 1) (h : ¬ n = k) : twN f a b k (25 - (5 * i + j)).toNat (5 * i + j) n = twN f a b k (25 - (5 * i + (j + 1))).toNat (5 * i + (j + 1)) (n + 1) := by
  rw [twN_n (by omega) ((twI_h hn hi hj).mpr ⟨c1, c2⟩) h, show 5 * i + j + 1 = 5 * i + (j + 1) by omega]
theorem twI_o {f : Int → Int} {a b k i j n : Int} (hn : 0 ≤ f 26 ∧ f 26 ≤ 5) (hi : 0 ≤ i ∧ i < f 26) (hj : 0 ≤ j ∧ j < f 26) (c : ¬ (rsg f a i b j = 1 ∧ rsg f b j a i = 1)) : twN f a b k (25 - (5 * i + j)).toNat (5 * i + j) n = twN f a b k (25 - (5 * i + (j + 1))).toNat (5 * i + (j + 1)) n := by
  rw [twN_o (by omega) (fun w => c ((twI_h hn hi hj).mp w)), show 5 * i + j + 1 = 5 * i + (j + 1) by omega]
theorem twI_e {f : Int → Int} {a b k i n : Int} (hn : 0 ≤ f 26 ∧ f 26 ≤ 5) (hi : 0 ≤ i ∧ i < f 26) : twN f a b k (25 - (5 * i + f 26)).toNat (5 * i + f 26) n = twN f a b k (25 - 5 * (i + 1)).toNat (5 * (i + 1)) n :=
  twN_sk (by omega) (5 - f 26).toNat _ (by omega) (fun q x y => by omega)
theorem twI_f {f : Int → Int} {a b k n : Int} (hn : 0 ≤ f 26 ∧ f 26 ≤ 5) : twN f a b k (25 - 5 * f 26).toNat (5 * f 26) n = if k = -1 then n else -5 := by
  rw [twN_sk (q1 := 25) (by omega) (25 - 5 * f 26).toNat _ (by omega) (fun q x y => by omega), twN_e (by omega)]
def digestA (S : Nat → Int → Int) : Int × (Nat → Int → Int) := (digV S, S)

set_option maxHeartbeats 4000000 in
set_option maxRecDepth 20000 in
theorem kX8_two (g : Gt) {h : AH} {b : Nat} {S : Nat → Int → Int} {a : Int} {d : Int} {k : Int} (hX : XR h b S) (hV : invM S) (g_a : rgI a) (g_d : rgI d) (g_k : rgI k) : CnJ g mX8_two 6 [.ref b, .int (iI a), .int (iI d), .int (iI k)] h (twoA S a d k).1 (QX h b (twoA S a d k).2) := by
  refine Cn.mk (by decide +kernel) (Nat.le_of_ble_eq_true rfl) ?_
  intro x sz hx hr
  show Zj g x (sz, 0, 0) h 0 [(0, .ref b), (1, .int (iI a)), (2, .int (iI d)), (3, .int (iI k))] []
  have hX0 := hX
  obtain ⟨F, pi, Fs, kq, N, T, x0, hK, hi0, hi1, htx, htr, hrb, heb, hhb, ⟨hR, hPR, hNn⟩, htt⟩ := hX
  obtain ⟨k0, k1, k2, k3, k4, k5⟩ := hK
  have hN := hV.1
  have hI := hN.1
  have hn := hI.n
  have rn := hR.n
  have h58 : 0 ≤ S 1 58 ∧ S 1 58 ≤ 8 := ⟨(hI.rg 58 (by decide)).1, hN.2.2.2.1⟩
  have h39 : 0 ≤ S 1 39 ∧ S 1 39 ≤ 6 := ⟨(hI.rg 39 (by decide)).1, hN.2.2.1⟩
  have h0 : 0 ≤ S 1 0 ∧ S 1 0 ≤ 999 := ⟨hN.2.1.2, hN.2.1.1⟩
  have hmx : ∀ i, 0 ≤ i → i < S 1 58 → inv (mixF (S 1) i) := fun i a b => (hN.2.2.2.2.1 i a b).1
  have hno : ∀ i, 0 ≤ i → i < S 1 39 → S 1 (40 + 3 * i) < 5 ∧ S 1 (40 + 3 * i + 1) ≤ 40 ∧ S 1 (40 + 3 * i + 2) ≤ 9 := fun i a b => by have q := hN.2.2.2.2.2 i a b; rw [show 41 + 3 * i = 40 + 3 * i + 1 by omega, show 42 + 3 * i = 40 + 3 * i + 2 by omega] at q; exact q
  have hTo : outR (S 2) := hV.2.1
  have hL := hV.2.2.2.1
  have htt2 := hV.2.2.2.2.1
  refine z_aload_n hx dX8_two_0 rfl 0 rfl ?_
  refine z_iload_n hx dX8_two_1 rfl 1 rfl ?_
  refine z_cVI (as := [.int (iI a)]) (rest := []) hx dX8_two_2 lk_X8_194 wm_X8_isOneHunted wv_X8_isOneHunted (rcv_obj hx x0 rfl) mo_X8_isOneHunted (kX8_isOneHunted g (k := a) (F := F) (N := N) (f := (S 1)) x0 ⟨k0, k1, k2, k3, k4, k5⟩ hR hI (show rgI a by omega)) (by decide) rfl rfl (Nat.le_of_ble_eq_true rfl) ?_
  refine z_ifeq_b (tgt := 26) hx dX8_two_5 (by decide)  (fun c_1 => ?_) (fun c_1 => ?_)
  ·
    refine z_aload_n hx dX8_two_26 rfl 0 rfl ?_
    refine z_bipush hx dX8_two_27 (by decide) ?_
    refine z_cVJ (as := [.int (iI (-10))]) (rest := []) hx dX8_two_29 lk_X8_88 wm_X8_bad wv_X8_bad (rcv_obj hx x0 rfl) mo_X8_bad (kX8_bad g (v := (-10)) x0) (by decide) rfl rfl (Nat.le_of_ble_eq_true rfl) (fun h_2 q_3 => ?_)
    obtain ⟨hs_4, hf_5⟩ := q_3
    have h_6 := hf_5.at (by omega) k0
    have h_7 := CM.fr k1 hf_5 (by omega)
    have h_8 := PM.fr k2 hf_5 (by omega)
    have h_9 := hf_5.at (by omega) k3
    have h_10 := hf_5.at (by omega) k4
    have h_11 := hf_5.at (by omega) k5
    have h_12 := IB.fr hi0 hf_5 (by omega)
    have h_13 := IB.fr hi1 hf_5 (by omega)
    have h_14 := TB.fr htx hf_5 (by omega)
    have h_15 := CB.fr htr hf_5 (by omega)
    have h_16 := RB.fr hrb hf_5 (by omega)
    have h_17 := EB.fr heb hf_5 (by omega)
    have h_18 := HB.fr hhb hf_5 (by omega)
    have fr_19 : Fr h h_2 b 367 := hf_5.wd (by omega) (by omega)
    refine z_iret hx hr dX8_two_32 rfl rfl (q_j (by unfold twoA; (repeat (first | rw [if_pos (by omega)] | rw [if_neg (by omega)])); (try first | exact eW | exact eW.symm | rfl)) (by unfold twoA; (repeat (first | rw [if_pos (by omega)] | rw [if_neg (by omega)])); show XC h_2 b (S 0) (S 1) (S 4) (S 5) (fup (S 6) 0 ((S 6) 0 + 1)) (S 7) ∧ Fr h h_2 b 367; exact ⟨⟨F, pi, Fs, kq, N, T, hs_4, KM.eq ⟨h_6, h_7, h_8, h_9, h_10, h_11⟩ (rfl) (rfl), h_12, h_13, h_14, h_15, h_16, h_17, h_18, ⟨hR, hPR, hNn⟩, htt⟩, fr_19⟩))
  ·
    refine z_aload_n hx dX8_two_8 rfl 0 rfl ?_
    refine z_iload_n hx dX8_two_9 rfl 2 rfl ?_
    refine z_cVI (as := [.int (iI d)]) (rest := []) hx dX8_two_10 lk_X8_194 wm_X8_isOneHunted wv_X8_isOneHunted (rcv_obj hx x0 rfl) mo_X8_isOneHunted (kX8_isOneHunted g (k := d) (F := F) (N := N) (f := (S 1)) x0 ⟨k0, k1, k2, k3, k4, k5⟩ hR hI (show rgI d by omega)) (by decide) rfl rfl (Nat.le_of_ble_eq_true rfl) ?_
    refine z_ifeq_b (tgt := 26) hx dX8_two_13 (by decide)  (fun c_20 => ?_) (fun c_20 => ?_)
    ·
      refine z_aload_n hx dX8_two_26 rfl 0 rfl ?_
      refine z_bipush hx dX8_two_27 (by decide) ?_
      refine z_cVJ (as := [.int (iI (-10))]) (rest := []) hx dX8_two_29 lk_X8_88 wm_X8_bad wv_X8_bad (rcv_obj hx x0 rfl) mo_X8_bad (kX8_bad g (v := (-10)) x0) (by decide) rfl rfl (Nat.le_of_ble_eq_true rfl) (fun h_21 q_22 => ?_)
      obtain ⟨hs_23, hf_24⟩ := q_22
      have h_25 := hf_24.at (by omega) k0
      have h_26 := CM.fr k1 hf_24 (by omega)
      have h_27 := PM.fr k2 hf_24 (by omega)
      have h_28 := hf_24.at (by omega) k3
      have h_29 := hf_24.at (by omega) k4
      have h_30 := hf_24.at (by omega) k5
      have h_31 := IB.fr hi0 hf_24 (by omega)
      have h_32 := IB.fr hi1 hf_24 (by omega)
      have h_33 := TB.fr htx hf_24 (by omega)
      have h_34 := CB.fr htr hf_24 (by omega)
      have h_35 := RB.fr hrb hf_24 (by omega)
      have h_36 := EB.fr heb hf_24 (by omega)
      have h_37 := HB.fr hhb hf_24 (by omega)
      have fr_38 : Fr h h_21 b 367 := hf_24.wd (by omega) (by omega)
      refine z_iret hx hr dX8_two_32 rfl rfl (q_j (by unfold twoA; (repeat (first | rw [if_pos (by omega)] | rw [if_neg (by omega)])); (try first | exact eW | exact eW.symm | rfl)) (by unfold twoA; (repeat (first | rw [if_pos (by omega)] | rw [if_neg (by omega)])); show XC h_21 b (S 0) (S 1) (S 4) (S 5) (fup (S 6) 0 ((S 6) 0 + 1)) (S 7) ∧ Fr h h_21 b 367; exact ⟨⟨F, pi, Fs, kq, N, T, hs_23, KM.eq ⟨h_25, h_26, h_27, h_28, h_29, h_30⟩ (rfl) (rfl), h_31, h_32, h_33, h_34, h_35, h_36, h_37, ⟨hR, hPR, hNn⟩, htt⟩, fr_38⟩))
    ·
      refine z_iload_n hx dX8_two_16 rfl 1 rfl ?_
      refine z_iload_n hx dX8_two_17 rfl 2 rfl ?_
      refine z_icmp_eq (tgt := 26) hx dX8_two_18 (by decide) (by omega) (by omega) (fun c_39 => ?_) (fun c_39 => ?_)
      ·
        refine z_aload_n hx dX8_two_26 rfl 0 rfl ?_
        refine z_bipush hx dX8_two_27 (by decide) ?_
        refine z_cVJ (as := [.int (iI (-10))]) (rest := []) hx dX8_two_29 lk_X8_88 wm_X8_bad wv_X8_bad (rcv_obj hx x0 rfl) mo_X8_bad (kX8_bad g (v := (-10)) x0) (by decide) rfl rfl (Nat.le_of_ble_eq_true rfl) (fun h_40 q_41 => ?_)
        obtain ⟨hs_42, hf_43⟩ := q_41
        have h_44 := hf_43.at (by omega) k0
        have h_45 := CM.fr k1 hf_43 (by omega)
        have h_46 := PM.fr k2 hf_43 (by omega)
        have h_47 := hf_43.at (by omega) k3
        have h_48 := hf_43.at (by omega) k4
        have h_49 := hf_43.at (by omega) k5
        have h_50 := IB.fr hi0 hf_43 (by omega)
        have h_51 := IB.fr hi1 hf_43 (by omega)
        have h_52 := TB.fr htx hf_43 (by omega)
        have h_53 := CB.fr htr hf_43 (by omega)
        have h_54 := RB.fr hrb hf_43 (by omega)
        have h_55 := EB.fr heb hf_43 (by omega)
        have h_56 := HB.fr hhb hf_43 (by omega)
        have fr_57 : Fr h h_40 b 367 := hf_43.wd (by omega) (by omega)
        refine z_iret hx hr dX8_two_32 rfl rfl (q_j (by unfold twoA; (repeat (first | rw [if_pos (by omega)] | rw [if_neg (by omega)])); (try first | exact eW | exact eW.symm | rfl)) (by unfold twoA; (repeat (first | rw [if_pos (by omega)] | rw [if_neg (by omega)])); show XC h_40 b (S 0) (S 1) (S 4) (S 5) (fup (S 6) 0 ((S 6) 0 + 1)) (S 7) ∧ Fr h h_40 b 367; exact ⟨⟨F, pi, Fs, kq, N, T, hs_42, KM.eq ⟨h_44, h_45, h_46, h_47, h_48, h_49⟩ (rfl) (rfl), h_50, h_51, h_52, h_53, h_54, h_55, h_56, ⟨hR, hPR, hNn⟩, htt⟩, fr_57⟩))
      ·
        refine z_iload_n hx dX8_two_21 rfl 3 rfl ?_
        refine z_iconst hx dX8_two_22 ?_
        refine z_icmp_ge (tgt := 33) hx dX8_two_23 (by decide) (by omega) (by decide) (fun c_58 => ?_) (fun c_58 => ?_)
        ·
          refine z_aload_n hx dX8_two_33 rfl 0 rfl ?_
          refine z_get hx dX8_two_34 fl_X8_10 x0 rfl ?_
          refine z_get hx dX8_two_37 fl_X8_71 k0 rfl ?_
          refine z_get hx dX8_two_40 fl_X8_209 k1.1 rfl ?_
          refine z_iload_n hx dX8_two_43 rfl 1 rfl ?_
          have cva := cv_c (S 1 (17 + a))
          refine z_iald hx dX8_two_44 k1.2.2.2.2.2.2.1 (by omega) (by decide) ?_
          have rp_59 := hR.p a (by first | omega | decide)
          have ip_60 := hI.p a (by first | omega | decide)
          have cc_61 := cv_c ((S 1) (17 + a))
          refine z_iconst hx dX8_two_45 ?_
          refine z_icmp_ne (tgt := 65) hx dX8_two_46 (by decide) (by omega) (by decide) (fun c_62 => ?_) (fun c_62 => ?_)
          ·
            refine z_aload_n hx dX8_two_65 rfl 0 rfl ?_
            refine z_cVJ (as := []) (rest := []) hx dX8_two_66 lk_X8_176 wm_X8_no wv_X8_no (rcv_obj hx x0 rfl) mo_X8_no (kX8_no g  x0) (by decide) rfl rfl (Nat.le_of_ble_eq_true rfl) (fun h_63 q_64 => ?_)
            obtain ⟨hs_65, hf_66⟩ := q_64
            have h_67 := hf_66.at (by omega) k0
            have h_68 := CM.fr k1 hf_66 (by omega)
            have h_69 := PM.fr k2 hf_66 (by omega)
            have h_70 := hf_66.at (by omega) k3
            have h_71 := hf_66.at (by omega) k4
            have h_72 := hf_66.at (by omega) k5
            have h_73 := IB.fr hi0 hf_66 (by omega)
            have h_74 := IB.fr hi1 hf_66 (by omega)
            have h_75 := TB.fr htx hf_66 (by omega)
            have h_76 := CB.fr htr hf_66 (by omega)
            have h_77 := RB.fr hrb hf_66 (by omega)
            have h_78 := EB.fr heb hf_66 (by omega)
            have h_79 := HB.fr hhb hf_66 (by omega)
            have fr_80 : Fr h h_63 b 367 := hf_66.wd (by omega) (by omega)
            refine z_iret hx hr dX8_two_69 rfl rfl (q_j (by unfold twoA; (repeat (first | rw [if_pos (by omega)] | rw [if_neg (by omega)])); (try first | exact eW | exact eW.symm | rfl)) (by unfold twoA; (repeat (first | rw [if_pos (by omega)] | rw [if_neg (by omega)])); show XC h_63 b (S 0) (S 1) (S 4) (S 5) (fup (S 6) 1 ((S 6) 1 + 1)) (S 7) ∧ Fr h h_63 b 367; exact ⟨⟨F, pi, Fs, kq, N, T, hs_65, KM.eq ⟨h_67, h_68, h_69, h_70, h_71, h_72⟩ (rfl) (rfl), h_73, h_74, h_75, h_76, h_77, h_78, h_79, ⟨hR, hPR, hNn⟩, htt⟩, fr_80⟩))
          ·
            refine z_aload_n hx dX8_two_49 rfl 0 rfl ?_
            refine z_get hx dX8_two_50 fl_X8_10 x0 rfl ?_
            refine z_get hx dX8_two_53 fl_X8_71 k0 rfl ?_
            refine z_get hx dX8_two_56 fl_X8_209 k1.1 rfl ?_
            refine z_iload_n hx dX8_two_59 rfl 2 rfl ?_
            have cvd := cv_c (S 1 (17 + d))
            refine z_iald hx dX8_two_60 k1.2.2.2.2.2.2.1 (by omega) (by decide) ?_
            have rp_81 := hR.p d (by first | omega | decide)
            have ip_82 := hI.p d (by first | omega | decide)
            have cc_83 := cv_c ((S 1) (17 + d))
            refine z_iconst hx dX8_two_61 ?_
            refine z_icmp_eq (tgt := 70) hx dX8_two_62 (by decide) (by omega) (by decide) (fun c_84 => ?_) (fun c_84 => ?_)
            ·
              refine z_iconst hx dX8_two_70 ?_
              refine z_istore hx dX8_two_71 (by decide) [1, 2, 3, 4, 0] (lv' := [(0, .ref b), (1, .int (iI a)), (2, .int (iI d)), (3, .int (iI k)), (4, .int (iI 0))]) rfl ?_
              refine z_iconst hx dX8_two_73 ?_
              refine z_istore hx dX8_two_74 (by decide) [1, 2, 3, 4, 5, 0] (lv' := [(0, .ref b), (1, .int (iI a)), (2, .int (iI d)), (3, .int (iI k)), (4, .int (iI 0)), (5, .int (iI 0))]) rfl ?_
              have hL_85 : ∀ (mm : Nat) (v4 : Int) (v5 : Int), (0 ≤ v5 ∧ v5 ≤ S 1 26) → (0 ≤ v4 ∧ v4 ≤ 5 * v5) → (twN (S 1) a d k (25 - 5 * v5).toNat (5 * v5) v4 = twN (S 1) a d k 25 0 0) → S 1 26 - v5 < (mm : Int) → Zj g x (sz, 0, 0) h 76 [(0, .ref b), (1, .int (iI a)), (2, .int (iI d)), (3, .int (iI k)), (4, .int (iI v4)), (5, .int (iI v5))] [] := by
                intro mm
                induction mm with
                | zero => intro v4 v5 kv k49 eg hm; exfalso; omega
                | succ mm ih =>
                  intro v4 v5 kv k49 eg hm
                  have ih_86 := ih; clear ih
                  refine z_iload hx dX8_two_76 5 rfl ?_
                  refine z_aload_n hx dX8_two_78 rfl 0 rfl ?_
                  refine z_get hx dX8_two_79 fl_X8_10 x0 rfl ?_
                  refine z_get hx dX8_two_82 fl_X8_71 k0 rfl ?_
                  refine z_get hx dX8_two_85 fl_X8_74 k1.1 rfl ?_
                  refine z_icmp_ge (tgt := 164) hx dX8_two_88 (by decide) (by omega) (by omega) (fun c_87 => ?_) (fun c_87 => ?_)
                  ·
                    refine z_iload_n hx dX8_two_164 rfl 3 rfl ?_
                    refine z_iconst hx dX8_two_165 ?_
                    refine z_icmp_ne (tgt := 174) hx dX8_two_166 (by decide) (by omega) (by decide) (fun c_88 => ?_) (fun c_88 => ?_)
                    ·
                      have eW : twN (S 1) a d k 25 0 0 = -5 := by rw [← eg, show v5 = S 1 26 by omega, twI_f hn.1, if_neg (by omega)]
                      refine z_bipush hx dX8_two_174 (by decide) ?_
                      refine z_iret hx hr dX8_two_176 rfl rfl (q_j (by unfold twoA; (repeat (first | rw [if_pos (by omega)] | rw [if_neg (by omega)])); (try first | exact eW | exact eW.symm | rfl)) (by unfold twoA; (repeat (first | rw [if_pos (by omega)] | rw [if_neg (by omega)])); show XC h b (S 0) (S 1) (S 4) (S 5) (S 6) (S 7) ∧ Fr h h b 367; exact ⟨⟨F, pi, Fs, kq, N, T, x0, KM.eq ⟨k0, k1, k2, k3, k4, k5⟩ (rfl) (rfl), hi0, hi1, htx, htr, hrb, heb, hhb, ⟨hR, hPR, hNn⟩, htt⟩, Fr.rf⟩))
                    ·
                      have eW : twN (S 1) a d k 25 0 0 = v4 := by rw [← eg, show v5 = S 1 26 by omega, twI_f hn.1, if_pos (by omega)]
                      refine z_iload hx dX8_two_169 4 rfl ?_
                      refine z_goto (tgt := 176) hx dX8_two_171 (by decide) ?_
                      refine z_iret hx hr dX8_two_176 rfl rfl (q_j (by unfold twoA; (repeat (first | rw [if_pos (by omega)] | rw [if_neg (by omega)])); (try first | exact eW | exact eW.symm | rfl)) (by unfold twoA; (repeat (first | rw [if_pos (by omega)] | rw [if_neg (by omega)])); show XC h b (S 0) (S 1) (S 4) (S 5) (S 6) (S 7) ∧ Fr h h b 367; exact ⟨⟨F, pi, Fs, kq, N, T, x0, KM.eq ⟨k0, k1, k2, k3, k4, k5⟩ (rfl) (rfl), hi0, hi1, htx, htr, hrb, heb, hhb, ⟨hR, hPR, hNn⟩, htt⟩, Fr.rf⟩))
                  ·
                    refine z_iconst hx dX8_two_91 ?_
                    refine z_istore hx dX8_two_92 (by decide) [1, 2, 3, 4, 5, 6, 0] (lv' := [(0, .ref b), (1, .int (iI a)), (2, .int (iI d)), (3, .int (iI k)), (4, .int (iI v4)), (5, .int (iI v5)), (6, .int (iI 0))]) rfl ?_
                    have hL_89 : ∀ (mm : Nat) (w4 : Int) (v6 : Int), (0 ≤ v6 ∧ v6 ≤ S 1 26) → (0 ≤ w4 ∧ w4 ≤ 5 * v5 + v6) → (twN (S 1) a d k (25 - (5 * v5 + v6)).toNat (5 * v5 + v6) w4 = twN (S 1) a d k 25 0 0) → S 1 26 - v6 < (mm : Int) → Zj g x (sz, 0, 0) h 94 [(0, .ref b), (1, .int (iI a)), (2, .int (iI d)), (3, .int (iI k)), (4, .int (iI w4)), (5, .int (iI v5)), (6, .int (iI v6))] [] := by
                      intro mm
                      induction mm with
                      | zero => intro w4 v6 kw k59 eh hm; exfalso; omega
                      | succ mm ih =>
                        intro w4 v6 kw k59 eh hm
                        have ih_90 := ih; clear ih
                        refine z_iload hx dX8_two_94 6 rfl ?_
                        refine z_aload_n hx dX8_two_96 rfl 0 rfl ?_
                        refine z_get hx dX8_two_97 fl_X8_10 x0 rfl ?_
                        refine z_get hx dX8_two_100 fl_X8_71 k0 rfl ?_
                        refine z_get hx dX8_two_103 fl_X8_74 k1.1 rfl ?_
                        refine z_icmp_ge (tgt := 158) hx dX8_two_106 (by decide) (by omega) (by omega) (fun c_91 => ?_) (fun c_91 => ?_)
                        ·
                          refine z_iinc hx dX8_two_158 (by decide) 5 rfl [1, 2, 3, 4, 5, 0, 6] (lv' := [(0, .ref b), (1, .int (iI a)), (2, .int (iI d)), (3, .int (iI k)), (4, .int (iI w4)), (5, .int (iI (v5 + 1))), (6, .int (iI v6))]) rfl ?_
                          refine z_goto (tgt := 76) hx dX8_two_161 (by decide) ?_
                          refine z_sub [0, 1, 2, 3, 4, 5] (lv' := [(0, .ref b), (1, .int (iI a)), (2, .int (iI d)), (3, .int (iI k)), (4, .int (iI w4)), (5, .int (iI (v5 + 1)))]) rfl ?_
                          exact ih_86 _ _ (by omega) (by omega) (by rw [← twI_e hn.1 (by omega), show 5 * v5 + S 1 26 = 5 * v5 + v6 by omega]; exact eh)  (by omega)
                        ·
                          refine z_aload_n hx dX8_two_109 rfl 0 rfl ?_
                          refine z_iload_n hx dX8_two_110 rfl 1 rfl ?_
                          refine z_iload hx dX8_two_111 5 rfl ?_
                          refine z_iload_n hx dX8_two_113 rfl 2 rfl ?_
                          refine z_iload hx dX8_two_114 6 rfl ?_
                          refine z_cVI (as := [.int (iI a), .int (iI v5), .int (iI d), .int (iI v6)]) (rest := []) hx dX8_two_116 lk_X8_242 wm_X8_rests wv_X8_rests (rcv_obj hx x0 rfl) mo_X8_rests (kX8_rests g (p := a) (i := v5) (o := d) (j := v6) (F := F) (N := N) (f := (S 1)) x0 ⟨k0, k1, k2, k3, k4, k5⟩ hR hI (show 0 ≤ a ∧ a < (S 1) 37 by omega) (show 0 ≤ v5 ∧ v5 < (S 1) 26 by omega) (show rgI d by omega) (show rgI v6 by omega)) (by decide) rfl rfl (Nat.le_of_ble_eq_true rfl) ?_
                          refine z_ifeq_b (tgt := 152) hx dX8_two_119 (by decide)  (fun c_92 => ?_) (fun c_92 => ?_)
                          ·
                            refine z_iinc hx dX8_two_152 (by decide) 6 rfl [1, 2, 3, 4, 5, 6, 0] (lv' := [(0, .ref b), (1, .int (iI a)), (2, .int (iI d)), (3, .int (iI k)), (4, .int (iI w4)), (5, .int (iI v5)), (6, .int (iI (v6 + 1)))]) rfl ?_
                            refine z_goto (tgt := 94) hx dX8_two_155 (by decide) ?_
                            exact ih_90 _ _ (by omega) (by omega) (by first | (rw [← twI_n hn.1 (by omega) (by omega) (by assumption) (by assumption) (by omega)]; exact eh) | (rw [← twI_o hn.1 (by omega) (by omega) (fun w => absurd w.1 (by assumption))]; exact eh) | (rw [← twI_o hn.1 (by omega) (by omega) (fun w => absurd w.2 (by assumption))]; exact eh))  (by omega)
                          ·
                            refine z_aload_n hx dX8_two_122 rfl 0 rfl ?_
                            refine z_iload_n hx dX8_two_123 rfl 2 rfl ?_
                            refine z_iload hx dX8_two_124 6 rfl ?_
                            refine z_iload_n hx dX8_two_126 rfl 1 rfl ?_
                            refine z_iload hx dX8_two_127 5 rfl ?_
                            refine z_cVI (as := [.int (iI d), .int (iI v6), .int (iI a), .int (iI v5)]) (rest := []) hx dX8_two_129 lk_X8_242 wm_X8_rests wv_X8_rests (rcv_obj hx x0 rfl) mo_X8_rests (kX8_rests g (p := d) (i := v6) (o := a) (j := v5) (F := F) (N := N) (f := (S 1)) x0 ⟨k0, k1, k2, k3, k4, k5⟩ hR hI (show 0 ≤ d ∧ d < (S 1) 37 by omega) (show 0 ≤ v6 ∧ v6 < (S 1) 26 by omega) (show rgI a by omega) (show rgI v5 by omega)) (by decide) rfl rfl (Nat.le_of_ble_eq_true rfl) ?_
                            refine z_ifeq_b (tgt := 152) hx dX8_two_132 (by decide)  (fun c_93 => ?_) (fun c_93 => ?_)
                            ·
                              refine z_iinc hx dX8_two_152 (by decide) 6 rfl [1, 2, 3, 4, 5, 6, 0] (lv' := [(0, .ref b), (1, .int (iI a)), (2, .int (iI d)), (3, .int (iI k)), (4, .int (iI w4)), (5, .int (iI v5)), (6, .int (iI (v6 + 1)))]) rfl ?_
                              refine z_goto (tgt := 94) hx dX8_two_155 (by decide) ?_
                              exact ih_90 _ _ (by omega) (by omega) (by first | (rw [← twI_n hn.1 (by omega) (by omega) (by assumption) (by assumption) (by omega)]; exact eh) | (rw [← twI_o hn.1 (by omega) (by omega) (fun w => absurd w.1 (by assumption))]; exact eh) | (rw [← twI_o hn.1 (by omega) (by omega) (fun w => absurd w.2 (by assumption))]; exact eh))  (by omega)
                            ·
                              refine z_iload hx dX8_two_135 4 rfl ?_
                              refine z_iload_n hx dX8_two_137 rfl 3 rfl ?_
                              refine z_icmp_ne (tgt := 149) hx dX8_two_138 (by decide) (by omega) (by omega) (fun c_94 => ?_) (fun c_94 => ?_)
                              ·
                                refine z_iinc hx dX8_two_149 (by decide) 4 rfl [1, 2, 3, 4, 0, 5, 6] (lv' := [(0, .ref b), (1, .int (iI a)), (2, .int (iI d)), (3, .int (iI k)), (4, .int (iI (w4 + 1))), (5, .int (iI v5)), (6, .int (iI v6))]) rfl ?_
                                refine z_iinc hx dX8_two_152 (by decide) 6 rfl [1, 2, 3, 4, 5, 6, 0] (lv' := [(0, .ref b), (1, .int (iI a)), (2, .int (iI d)), (3, .int (iI k)), (4, .int (iI (w4 + 1))), (5, .int (iI v5)), (6, .int (iI (v6 + 1)))]) rfl ?_
                                refine z_goto (tgt := 94) hx dX8_two_155 (by decide) ?_
                                exact ih_90 _ _ (by omega) (by omega) (by first | (rw [← twI_n hn.1 (by omega) (by omega) (by assumption) (by assumption) (by omega)]; exact eh) | (rw [← twI_o hn.1 (by omega) (by omega) (fun w => absurd w.1 (by assumption))]; exact eh) | (rw [← twI_o hn.1 (by omega) (by omega) (fun w => absurd w.2 (by assumption))]; exact eh))  (by omega)
                              ·
                                refine z_iconst hx dX8_two_141 ?_
                                refine z_iload hx dX8_two_142 5 rfl ?_
                                refine z_imul hx dX8_two_144 ?_
                                refine z_iload hx dX8_two_145 6 rfl ?_
                                refine z_iadd hx dX8_two_147 ?_
                                have eW : twN (S 1) a d k 25 0 0 = 5 * v5 + v6 := by rw [← eh]; exact twI_y hn.1 (by omega) (by omega) (by assumption) (by assumption) (by omega)
                                refine z_iret hx hr dX8_two_148 rfl rfl (q_j (by unfold twoA; (repeat (first | rw [if_pos (by omega)] | rw [if_neg (by omega)])); (try first | exact eW | exact eW.symm | rfl)) (by unfold twoA; (repeat (first | rw [if_pos (by omega)] | rw [if_neg (by omega)])); show XC h b (S 0) (S 1) (S 4) (S 5) (S 6) (S 7) ∧ Fr h h b 367; exact ⟨⟨F, pi, Fs, kq, N, T, x0, KM.eq ⟨k0, k1, k2, k3, k4, k5⟩ (rfl) (rfl), hi0, hi1, htx, htr, hrb, heb, hhb, ⟨hR, hPR, hNn⟩, htt⟩, Fr.rf⟩))
                    exact hL_89 ((S 1 26 - 0) + 1 : Int).toNat _ _ (by omega) (by omega) (by rw [show 5 * v5 + 0 = 5 * v5 by omega]; exact eg)  (by omega)
              exact hL_85 ((S 1 26 - 0) + 1 : Int).toNat _ _ (by omega) (by omega) (by rfl)  (by omega)
            ·
              refine z_aload_n hx dX8_two_65 rfl 0 rfl ?_
              refine z_cVJ (as := []) (rest := []) hx dX8_two_66 lk_X8_176 wm_X8_no wv_X8_no (rcv_obj hx x0 rfl) mo_X8_no (kX8_no g  x0) (by decide) rfl rfl (Nat.le_of_ble_eq_true rfl) (fun h_95 q_96 => ?_)
              obtain ⟨hs_97, hf_98⟩ := q_96
              have h_99 := hf_98.at (by omega) k0
              have h_100 := CM.fr k1 hf_98 (by omega)
              have h_101 := PM.fr k2 hf_98 (by omega)
              have h_102 := hf_98.at (by omega) k3
              have h_103 := hf_98.at (by omega) k4
              have h_104 := hf_98.at (by omega) k5
              have h_105 := IB.fr hi0 hf_98 (by omega)
              have h_106 := IB.fr hi1 hf_98 (by omega)
              have h_107 := TB.fr htx hf_98 (by omega)
              have h_108 := CB.fr htr hf_98 (by omega)
              have h_109 := RB.fr hrb hf_98 (by omega)
              have h_110 := EB.fr heb hf_98 (by omega)
              have h_111 := HB.fr hhb hf_98 (by omega)
              have fr_112 : Fr h h_95 b 367 := hf_98.wd (by omega) (by omega)
              refine z_iret hx hr dX8_two_69 rfl rfl (q_j (by unfold twoA; (repeat (first | rw [if_pos (by omega)] | rw [if_neg (by omega)])); (try first | exact eW | exact eW.symm | rfl)) (by unfold twoA; (repeat (first | rw [if_pos (by omega)] | rw [if_neg (by omega)])); show XC h_95 b (S 0) (S 1) (S 4) (S 5) (fup (S 6) 1 ((S 6) 1 + 1)) (S 7) ∧ Fr h h_95 b 367; exact ⟨⟨F, pi, Fs, kq, N, T, hs_97, KM.eq ⟨h_99, h_100, h_101, h_102, h_103, h_104⟩ (rfl) (rfl), h_105, h_106, h_107, h_108, h_109, h_110, h_111, ⟨hR, hPR, hNn⟩, htt⟩, fr_112⟩))
        ·
          refine z_aload_n hx dX8_two_26 rfl 0 rfl ?_
          refine z_bipush hx dX8_two_27 (by decide) ?_
          refine z_cVJ (as := [.int (iI (-10))]) (rest := []) hx dX8_two_29 lk_X8_88 wm_X8_bad wv_X8_bad (rcv_obj hx x0 rfl) mo_X8_bad (kX8_bad g (v := (-10)) x0) (by decide) rfl rfl (Nat.le_of_ble_eq_true rfl) (fun h_113 q_114 => ?_)
          obtain ⟨hs_115, hf_116⟩ := q_114
          have h_117 := hf_116.at (by omega) k0
          have h_118 := CM.fr k1 hf_116 (by omega)
          have h_119 := PM.fr k2 hf_116 (by omega)
          have h_120 := hf_116.at (by omega) k3
          have h_121 := hf_116.at (by omega) k4
          have h_122 := hf_116.at (by omega) k5
          have h_123 := IB.fr hi0 hf_116 (by omega)
          have h_124 := IB.fr hi1 hf_116 (by omega)
          have h_125 := TB.fr htx hf_116 (by omega)
          have h_126 := CB.fr htr hf_116 (by omega)
          have h_127 := RB.fr hrb hf_116 (by omega)
          have h_128 := EB.fr heb hf_116 (by omega)
          have h_129 := HB.fr hhb hf_116 (by omega)
          have fr_130 : Fr h h_113 b 367 := hf_116.wd (by omega) (by omega)
          refine z_iret hx hr dX8_two_32 rfl rfl (q_j (by unfold twoA; (repeat (first | rw [if_pos (by omega)] | rw [if_neg (by omega)])); (try first | exact eW | exact eW.symm | rfl)) (by unfold twoA; (repeat (first | rw [if_pos (by omega)] | rw [if_neg (by omega)])); show XC h_113 b (S 0) (S 1) (S 4) (S 5) (fup (S 6) 0 ((S 6) 0 + 1)) (S 7) ∧ Fr h h_113 b 367; exact ⟨⟨F, pi, Fs, kq, N, T, hs_115, KM.eq ⟨h_117, h_118, h_119, h_120, h_121, h_122⟩ (rfl) (rfl), h_123, h_124, h_125, h_126, h_127, h_128, h_129, ⟨hR, hPR, hNn⟩, htt⟩, fr_130⟩))

set_option maxHeartbeats 4000000 in
set_option maxRecDepth 20000 in
theorem kX8_rain (g : Gt) {h : AH} {b : Nat} {S : Nat → Int → Int} {c : Int} (hX : XR h b S) (hV : invM S) (g_c : rgI c) : CnJ g mX8_rain 4 [.ref b, .int (iI c)] h (rainA S c).1 (QX h b (rainA S c).2) := by
  refine Cn.mk (by decide +kernel) (Nat.le_of_ble_eq_true rfl) ?_
  intro x sz hx hr
  show Zj g x (sz, 0, 0) h 0 [(0, .ref b), (1, .int (iI c))] []
  have hX0 := hX
  obtain ⟨F, pi, Fs, kq, N, T, x0, hK, hi0, hi1, htx, htr, hrb, heb, hhb, ⟨hR, hPR, hNn⟩, htt⟩ := hX
  obtain ⟨k0, k1, k2, k3, k4, k5⟩ := hK
  have hN := hV.1
  have hI := hN.1
  have hn := hI.n
  have rn := hR.n
  have h58 : 0 ≤ S 1 58 ∧ S 1 58 ≤ 8 := ⟨(hI.rg 58 (by decide)).1, hN.2.2.2.1⟩
  have h39 : 0 ≤ S 1 39 ∧ S 1 39 ≤ 6 := ⟨(hI.rg 39 (by decide)).1, hN.2.2.1⟩
  have h0 : 0 ≤ S 1 0 ∧ S 1 0 ≤ 999 := ⟨hN.2.1.2, hN.2.1.1⟩
  have hmx : ∀ i, 0 ≤ i → i < S 1 58 → inv (mixF (S 1) i) := fun i a b => (hN.2.2.2.2.1 i a b).1
  have hno : ∀ i, 0 ≤ i → i < S 1 39 → S 1 (40 + 3 * i) < 5 ∧ S 1 (40 + 3 * i + 1) ≤ 40 ∧ S 1 (40 + 3 * i + 2) ≤ 9 := fun i a b => by have q := hN.2.2.2.2.2 i a b; rw [show 41 + 3 * i = 40 + 3 * i + 1 by omega, show 42 + 3 * i = 40 + 3 * i + 2 by omega] at q; exact q
  have hTo : outR (S 2) := hV.2.1
  have hL := hV.2.2.2.1
  have htt2 := hV.2.2.2.2.1
  refine z_iload_n hx dX8_rain_0 rfl 1 rfl ?_
  refine z_iconst hx dX8_rain_1 ?_
  refine z_bipush hx dX8_rain_2 (by decide) ?_
  refine z_cSI (as := [.int (iI c), .int (iI 0), .int (iI 10)]) (rest := []) hx dX8_rain_4 lk_X8_80 wt_X8_isIn mo_X8_isIn (kX8_isIn g (a := c) (b := 0) (c := 10) (by omega) (by omega) (by omega)) (by decide) rfl rfl (Nat.le_of_ble_eq_true rfl) ?_
  refine z_ifne_b (tgt := 17) hx dX8_rain_7 (by decide)  (fun c_1 => ?_) (fun c_1 => ?_)
  ·
    refine z_aload_n hx dX8_rain_17 rfl 0 rfl ?_
    refine z_get hx dX8_rain_18 fl_X8_10 x0 rfl ?_
    refine z_get hx dX8_rain_21 fl_X8_71 k0 rfl ?_
    refine z_cVI (as := []) (rest := []) hx dX8_rain_24 lk_X8_206 wm_X1_manyUnder_ wv_X1_manyUnder_ (rcv_obj hx (And.left k1) rfl) mo_X1_manyUnder_ (kX1_manyUnder_ g (F := F) (f := (S 1))  k1 hR hI ) (by decide) rfl rfl (Nat.le_of_ble_eq_true rfl) ?_
    have f_2 := una_rg hI
    refine z_bipush hx dX8_rain_27 (by decide) ?_
    refine z_iload_n hx dX8_rain_29 rfl 1 rfl ?_
    refine z_isub hx dX8_rain_30 ?_
    refine z_imul hx dX8_rain_31 ?_
    have hu60 := mul_60 (a := una (S 1)) (b := 10 - c) (by have := una_rg hI; omega) (by omega)
    obtain ⟨u, eu⟩ : ∃ u : Int, u = una (S 1) * (10 - c) := ⟨_, rfl⟩
    rw [← eu] at hu60
    rw [show ((una (S 1)) * (10 - c)) = u from eu.symm]
    refine z_istore_n hx dX8_rain_32 rfl (by decide) [1, 2, 0] (lv' := [(0, .ref b), (1, .int (iI c)), (2, .int (iI u))]) rfl ?_
    refine z_iload_n hx dX8_rain_33 rfl 2 rfl ?_
    refine z_bipush hx dX8_rain_34 (by decide) ?_
    refine z_irem hx dX8_rain_36 (by omega) (by decide) ?_
    refine z_if_ne (tgt := 45) hx dX8_rain_37 (by decide) (by omega) (fun c_3 => ?_) (fun c_3 => ?_)
    ·
      refine z_iload_n hx dX8_rain_45 rfl 2 rfl ?_
      refine z_iconst hx dX8_rain_46 ?_
      refine z_irem hx dX8_rain_47 (by omega) (by decide) ?_
      refine z_if_ne (tgt := 55) hx dX8_rain_48 (by decide) (by omega) (fun c_4 => ?_) (fun c_4 => ?_)
      ·
        refine z_iload_n hx dX8_rain_55 rfl 2 rfl ?_
        refine z_iconst hx dX8_rain_56 ?_
        refine z_irem hx dX8_rain_57 (by omega) (by decide) ?_
        refine z_if_ne (tgt := 65) hx dX8_rain_58 (by decide) (by omega) (fun c_5 => ?_) (fun c_5 => ?_)
        ·
          refine z_iconst hx dX8_rain_65 ?_
          have ed : dvr u = 1 := by unfold dvr; (repeat' split) <;> omega
          refine z_istore_n hx dX8_rain_66 rfl (by decide) [1, 2, 3, 0] (lv' := [(0, .ref b), (1, .int (iI c)), (2, .int (iI u)), (3, .int (iI 1))]) rfl ?_
          refine z_aload_n hx dX8_rain_67 rfl 0 rfl ?_
          refine z_iload_n hx dX8_rain_68 rfl 2 rfl ?_
          refine z_iload_n hx dX8_rain_69 rfl 3 rfl ?_
          refine z_idiv hx dX8_rain_70 (by omega) (by decide) ?_
          refine z_i2l hx dX8_rain_71 (by omega) ?_
          refine z_putQ hx dX8_rain_72 fl_X8_54 x0 ⟨rfl, rfl⟩ (Nat.le_of_ble_eq_true rfl) (fun h_6 hs_7 hf_8 => ?_)
          have h_9 := hf_8.at (by omega) k0
          have h_10 := CM.fr k1 hf_8 (by omega)
          have h_11 := PM.fr k2 hf_8 (by omega)
          have h_12 := hf_8.at (by omega) k3
          have h_13 := hf_8.at (by omega) k4
          have h_14 := hf_8.at (by omega) k5
          have h_15 := IB.fr hi0 hf_8 (by omega)
          have h_16 := IB.fr hi1 hf_8 (by omega)
          have h_17 := TB.fr htx hf_8 (by omega)
          have h_18 := CB.fr htr hf_8 (by omega)
          have h_19 := RB.fr hrb hf_8 (by omega)
          have h_20 := EB.fr heb hf_8 (by omega)
          have h_21 := HB.fr hhb hf_8 (by omega)
          have fr_22 : Fr h h_6 b 367 := hf_8.wd (by omega) (by omega)
          refine z_aload_n hx dX8_rain_75 rfl 0 rfl ?_
          refine z_bipush hx dX8_rain_76 (by decide) ?_
          refine z_iload_n hx dX8_rain_78 rfl 3 rfl ?_
          refine z_idiv hx dX8_rain_79 (by omega) (by decide) ?_
          refine z_i2l hx dX8_rain_80 (by omega) ?_
          refine z_putQ hx dX8_rain_81 fl_X8_58 hs_7 ⟨rfl, rfl⟩ (Nat.le_of_ble_eq_true rfl) (fun h_23 hs_24 hf_25 => ?_)
          have h_26 := hf_25.at (by omega) h_9
          have h_27 := CM.fr h_10 hf_25 (by omega)
          have h_28 := PM.fr h_11 hf_25 (by omega)
          have h_29 := hf_25.at (by omega) h_12
          have h_30 := hf_25.at (by omega) h_13
          have h_31 := hf_25.at (by omega) h_14
          have h_32 := IB.fr h_15 hf_25 (by omega)
          have h_33 := IB.fr h_16 hf_25 (by omega)
          have h_34 := TB.fr h_17 hf_25 (by omega)
          have h_35 := CB.fr h_18 hf_25 (by omega)
          have h_36 := RB.fr h_19 hf_25 (by omega)
          have h_37 := EB.fr h_20 hf_25 (by omega)
          have h_38 := HB.fr h_21 hf_25 (by omega)
          have fr_39 := fr_22.tr (hf_25.wd (by omega) (by omega))
          refine z_iconst hx dX8_rain_84 ?_
          refine z_iret hx hr dX8_rain_85 rfl rfl (q_j (by unfold rainA; (repeat (first | rw [if_pos (by omega)] | rw [if_neg (by omega)])); (try first | rfl | omega)) (by unfold rainA; (repeat (first | rw [if_pos (by omega)] | rw [if_neg (by omega)])); (try rw [← eu]); (try unfold ranS); (try rw [ed]); show XC h_23 b (fup (fup (S 0) 6 (u / 1)) 7 (10 / 1)) (S 1) (S 4) (S 5) (S 6) (S 7) ∧ Fr h h_23 b 367; exact ⟨⟨F, pi, Fs, kq, N, T, hs_24, KM.eq ⟨h_26, h_27, h_28, h_29, h_30, h_31⟩ (rfl) (rfl), h_32, h_33, h_34, h_35, h_36, h_37, h_38, ⟨hR, hPR, hNn⟩, htt⟩, fr_39⟩))
        ·
          refine z_iconst hx dX8_rain_61 ?_
          refine z_goto (tgt := 66) hx dX8_rain_62 (by decide) ?_
          have ed : dvr u = 2 := by unfold dvr; (repeat' split) <;> omega
          refine z_istore_n hx dX8_rain_66 rfl (by decide) [1, 2, 3, 0] (lv' := [(0, .ref b), (1, .int (iI c)), (2, .int (iI u)), (3, .int (iI 2))]) rfl ?_
          refine z_aload_n hx dX8_rain_67 rfl 0 rfl ?_
          refine z_iload_n hx dX8_rain_68 rfl 2 rfl ?_
          refine z_iload_n hx dX8_rain_69 rfl 3 rfl ?_
          refine z_idiv hx dX8_rain_70 (by omega) (by decide) ?_
          refine z_i2l hx dX8_rain_71 (by omega) ?_
          refine z_putQ hx dX8_rain_72 fl_X8_54 x0 ⟨rfl, rfl⟩ (Nat.le_of_ble_eq_true rfl) (fun h_40 hs_41 hf_42 => ?_)
          have h_43 := hf_42.at (by omega) k0
          have h_44 := CM.fr k1 hf_42 (by omega)
          have h_45 := PM.fr k2 hf_42 (by omega)
          have h_46 := hf_42.at (by omega) k3
          have h_47 := hf_42.at (by omega) k4
          have h_48 := hf_42.at (by omega) k5
          have h_49 := IB.fr hi0 hf_42 (by omega)
          have h_50 := IB.fr hi1 hf_42 (by omega)
          have h_51 := TB.fr htx hf_42 (by omega)
          have h_52 := CB.fr htr hf_42 (by omega)
          have h_53 := RB.fr hrb hf_42 (by omega)
          have h_54 := EB.fr heb hf_42 (by omega)
          have h_55 := HB.fr hhb hf_42 (by omega)
          have fr_56 : Fr h h_40 b 367 := hf_42.wd (by omega) (by omega)
          refine z_aload_n hx dX8_rain_75 rfl 0 rfl ?_
          refine z_bipush hx dX8_rain_76 (by decide) ?_
          refine z_iload_n hx dX8_rain_78 rfl 3 rfl ?_
          refine z_idiv hx dX8_rain_79 (by omega) (by decide) ?_
          refine z_i2l hx dX8_rain_80 (by omega) ?_
          refine z_putQ hx dX8_rain_81 fl_X8_58 hs_41 ⟨rfl, rfl⟩ (Nat.le_of_ble_eq_true rfl) (fun h_57 hs_58 hf_59 => ?_)
          have h_60 := hf_59.at (by omega) h_43
          have h_61 := CM.fr h_44 hf_59 (by omega)
          have h_62 := PM.fr h_45 hf_59 (by omega)
          have h_63 := hf_59.at (by omega) h_46
          have h_64 := hf_59.at (by omega) h_47
          have h_65 := hf_59.at (by omega) h_48
          have h_66 := IB.fr h_49 hf_59 (by omega)
          have h_67 := IB.fr h_50 hf_59 (by omega)
          have h_68 := TB.fr h_51 hf_59 (by omega)
          have h_69 := CB.fr h_52 hf_59 (by omega)
          have h_70 := RB.fr h_53 hf_59 (by omega)
          have h_71 := EB.fr h_54 hf_59 (by omega)
          have h_72 := HB.fr h_55 hf_59 (by omega)
          have fr_73 := fr_56.tr (hf_59.wd (by omega) (by omega))
          refine z_iconst hx dX8_rain_84 ?_
          refine z_iret hx hr dX8_rain_85 rfl rfl (q_j (by unfold rainA; (repeat (first | rw [if_pos (by omega)] | rw [if_neg (by omega)])); (try first | rfl | omega)) (by unfold rainA; (repeat (first | rw [if_pos (by omega)] | rw [if_neg (by omega)])); (try rw [← eu]); (try unfold ranS); (try rw [ed]); show XC h_57 b (fup (fup (S 0) 6 (u / 2)) 7 (10 / 2)) (S 1) (S 4) (S 5) (S 6) (S 7) ∧ Fr h h_57 b 367; exact ⟨⟨F, pi, Fs, kq, N, T, hs_58, KM.eq ⟨h_60, h_61, h_62, h_63, h_64, h_65⟩ (rfl) (rfl), h_66, h_67, h_68, h_69, h_70, h_71, h_72, ⟨hR, hPR, hNn⟩, htt⟩, fr_73⟩))
      ·
        refine z_iconst hx dX8_rain_51 ?_
        refine z_goto (tgt := 66) hx dX8_rain_52 (by decide) ?_
        have ed : dvr u = 5 := by unfold dvr; (repeat' split) <;> omega
        refine z_istore_n hx dX8_rain_66 rfl (by decide) [1, 2, 3, 0] (lv' := [(0, .ref b), (1, .int (iI c)), (2, .int (iI u)), (3, .int (iI 5))]) rfl ?_
        refine z_aload_n hx dX8_rain_67 rfl 0 rfl ?_
        refine z_iload_n hx dX8_rain_68 rfl 2 rfl ?_
        refine z_iload_n hx dX8_rain_69 rfl 3 rfl ?_
        refine z_idiv hx dX8_rain_70 (by omega) (by decide) ?_
        refine z_i2l hx dX8_rain_71 (by omega) ?_
        refine z_putQ hx dX8_rain_72 fl_X8_54 x0 ⟨rfl, rfl⟩ (Nat.le_of_ble_eq_true rfl) (fun h_74 hs_75 hf_76 => ?_)
        have h_77 := hf_76.at (by omega) k0
        have h_78 := CM.fr k1 hf_76 (by omega)
        have h_79 := PM.fr k2 hf_76 (by omega)
        have h_80 := hf_76.at (by omega) k3
        have h_81 := hf_76.at (by omega) k4
        have h_82 := hf_76.at (by omega) k5
        have h_83 := IB.fr hi0 hf_76 (by omega)
        have h_84 := IB.fr hi1 hf_76 (by omega)
        have h_85 := TB.fr htx hf_76 (by omega)
        have h_86 := CB.fr htr hf_76 (by omega)
        have h_87 := RB.fr hrb hf_76 (by omega)
        have h_88 := EB.fr heb hf_76 (by omega)
        have h_89 := HB.fr hhb hf_76 (by omega)
        have fr_90 : Fr h h_74 b 367 := hf_76.wd (by omega) (by omega)
        refine z_aload_n hx dX8_rain_75 rfl 0 rfl ?_
        refine z_bipush hx dX8_rain_76 (by decide) ?_
        refine z_iload_n hx dX8_rain_78 rfl 3 rfl ?_
        refine z_idiv hx dX8_rain_79 (by omega) (by decide) ?_
        refine z_i2l hx dX8_rain_80 (by omega) ?_
        refine z_putQ hx dX8_rain_81 fl_X8_58 hs_75 ⟨rfl, rfl⟩ (Nat.le_of_ble_eq_true rfl) (fun h_91 hs_92 hf_93 => ?_)
        have h_94 := hf_93.at (by omega) h_77
        have h_95 := CM.fr h_78 hf_93 (by omega)
        have h_96 := PM.fr h_79 hf_93 (by omega)
        have h_97 := hf_93.at (by omega) h_80
        have h_98 := hf_93.at (by omega) h_81
        have h_99 := hf_93.at (by omega) h_82
        have h_100 := IB.fr h_83 hf_93 (by omega)
        have h_101 := IB.fr h_84 hf_93 (by omega)
        have h_102 := TB.fr h_85 hf_93 (by omega)
        have h_103 := CB.fr h_86 hf_93 (by omega)
        have h_104 := RB.fr h_87 hf_93 (by omega)
        have h_105 := EB.fr h_88 hf_93 (by omega)
        have h_106 := HB.fr h_89 hf_93 (by omega)
        have fr_107 := fr_90.tr (hf_93.wd (by omega) (by omega))
        refine z_iconst hx dX8_rain_84 ?_
        refine z_iret hx hr dX8_rain_85 rfl rfl (q_j (by unfold rainA; (repeat (first | rw [if_pos (by omega)] | rw [if_neg (by omega)])); (try first | rfl | omega)) (by unfold rainA; (repeat (first | rw [if_pos (by omega)] | rw [if_neg (by omega)])); (try rw [← eu]); (try unfold ranS); (try rw [ed]); show XC h_91 b (fup (fup (S 0) 6 (u / 5)) 7 (10 / 5)) (S 1) (S 4) (S 5) (S 6) (S 7) ∧ Fr h h_91 b 367; exact ⟨⟨F, pi, Fs, kq, N, T, hs_92, KM.eq ⟨h_94, h_95, h_96, h_97, h_98, h_99⟩ (rfl) (rfl), h_100, h_101, h_102, h_103, h_104, h_105, h_106, ⟨hR, hPR, hNn⟩, htt⟩, fr_107⟩))
    ·
      refine z_bipush hx dX8_rain_40 (by decide) ?_
      refine z_goto (tgt := 66) hx dX8_rain_42 (by decide) ?_
      have ed : dvr u = 10 := by unfold dvr; (repeat' split) <;> omega
      refine z_istore_n hx dX8_rain_66 rfl (by decide) [1, 2, 3, 0] (lv' := [(0, .ref b), (1, .int (iI c)), (2, .int (iI u)), (3, .int (iI 10))]) rfl ?_
      refine z_aload_n hx dX8_rain_67 rfl 0 rfl ?_
      refine z_iload_n hx dX8_rain_68 rfl 2 rfl ?_
      refine z_iload_n hx dX8_rain_69 rfl 3 rfl ?_
      refine z_idiv hx dX8_rain_70 (by omega) (by decide) ?_
      refine z_i2l hx dX8_rain_71 (by omega) ?_
      refine z_putQ hx dX8_rain_72 fl_X8_54 x0 ⟨rfl, rfl⟩ (Nat.le_of_ble_eq_true rfl) (fun h_108 hs_109 hf_110 => ?_)
      have h_111 := hf_110.at (by omega) k0
      have h_112 := CM.fr k1 hf_110 (by omega)
      have h_113 := PM.fr k2 hf_110 (by omega)
      have h_114 := hf_110.at (by omega) k3
      have h_115 := hf_110.at (by omega) k4
      have h_116 := hf_110.at (by omega) k5
      have h_117 := IB.fr hi0 hf_110 (by omega)
      have h_118 := IB.fr hi1 hf_110 (by omega)
      have h_119 := TB.fr htx hf_110 (by omega)
      have h_120 := CB.fr htr hf_110 (by omega)
      have h_121 := RB.fr hrb hf_110 (by omega)
      have h_122 := EB.fr heb hf_110 (by omega)
      have h_123 := HB.fr hhb hf_110 (by omega)
      have fr_124 : Fr h h_108 b 367 := hf_110.wd (by omega) (by omega)
      refine z_aload_n hx dX8_rain_75 rfl 0 rfl ?_
      refine z_bipush hx dX8_rain_76 (by decide) ?_
      refine z_iload_n hx dX8_rain_78 rfl 3 rfl ?_
      refine z_idiv hx dX8_rain_79 (by omega) (by decide) ?_
      refine z_i2l hx dX8_rain_80 (by omega) ?_
      refine z_putQ hx dX8_rain_81 fl_X8_58 hs_109 ⟨rfl, rfl⟩ (Nat.le_of_ble_eq_true rfl) (fun h_125 hs_126 hf_127 => ?_)
      have h_128 := hf_127.at (by omega) h_111
      have h_129 := CM.fr h_112 hf_127 (by omega)
      have h_130 := PM.fr h_113 hf_127 (by omega)
      have h_131 := hf_127.at (by omega) h_114
      have h_132 := hf_127.at (by omega) h_115
      have h_133 := hf_127.at (by omega) h_116
      have h_134 := IB.fr h_117 hf_127 (by omega)
      have h_135 := IB.fr h_118 hf_127 (by omega)
      have h_136 := TB.fr h_119 hf_127 (by omega)
      have h_137 := CB.fr h_120 hf_127 (by omega)
      have h_138 := RB.fr h_121 hf_127 (by omega)
      have h_139 := EB.fr h_122 hf_127 (by omega)
      have h_140 := HB.fr h_123 hf_127 (by omega)
      have fr_141 := fr_124.tr (hf_127.wd (by omega) (by omega))
      refine z_iconst hx dX8_rain_84 ?_
      refine z_iret hx hr dX8_rain_85 rfl rfl (q_j (by unfold rainA; (repeat (first | rw [if_pos (by omega)] | rw [if_neg (by omega)])); (try first | rfl | omega)) (by unfold rainA; (repeat (first | rw [if_pos (by omega)] | rw [if_neg (by omega)])); (try rw [← eu]); (try unfold ranS); (try rw [ed]); show XC h_125 b (fup (fup (S 0) 6 (u / 10)) 7 (10 / 10)) (S 1) (S 4) (S 5) (S 6) (S 7) ∧ Fr h h_125 b 367; exact ⟨⟨F, pi, Fs, kq, N, T, hs_126, KM.eq ⟨h_128, h_129, h_130, h_131, h_132, h_133⟩ (rfl) (rfl), h_134, h_135, h_136, h_137, h_138, h_139, h_140, ⟨hR, hPR, hNn⟩, htt⟩, fr_141⟩))
  ·
    refine z_aload_n hx dX8_rain_10 rfl 0 rfl ?_
    refine z_bipush hx dX8_rain_11 (by decide) ?_
    refine z_cVJ (as := [.int (iI (-2))]) (rest := []) hx dX8_rain_13 lk_X8_88 wm_X8_bad wv_X8_bad (rcv_obj hx x0 rfl) mo_X8_bad (kX8_bad g (v := (-2)) x0) (by decide) rfl rfl (Nat.le_of_ble_eq_true rfl) (fun h_142 q_143 => ?_)
    obtain ⟨hs_144, hf_145⟩ := q_143
    have h_146 := hf_145.at (by omega) k0
    have h_147 := CM.fr k1 hf_145 (by omega)
    have h_148 := PM.fr k2 hf_145 (by omega)
    have h_149 := hf_145.at (by omega) k3
    have h_150 := hf_145.at (by omega) k4
    have h_151 := hf_145.at (by omega) k5
    have h_152 := IB.fr hi0 hf_145 (by omega)
    have h_153 := IB.fr hi1 hf_145 (by omega)
    have h_154 := TB.fr htx hf_145 (by omega)
    have h_155 := CB.fr htr hf_145 (by omega)
    have h_156 := RB.fr hrb hf_145 (by omega)
    have h_157 := EB.fr heb hf_145 (by omega)
    have h_158 := HB.fr hhb hf_145 (by omega)
    have fr_159 : Fr h h_142 b 367 := hf_145.wd (by omega) (by omega)
    refine z_iret hx hr dX8_rain_16 rfl rfl (q_j (by unfold rainA; (repeat (first | rw [if_pos (by omega)] | rw [if_neg (by omega)])); (try first | rfl | omega)) (by unfold rainA; (repeat (first | rw [if_pos (by omega)] | rw [if_neg (by omega)])); (try rw [← eu]); (try unfold ranS); (try rw [ed]); show XC h_142 b (S 0) (S 1) (S 4) (S 5) (fup (S 6) 0 ((S 6) 0 + 1)) (S 7) ∧ Fr h h_142 b 367; exact ⟨⟨F, pi, Fs, kq, N, T, hs_144, KM.eq ⟨h_146, h_147, h_148, h_149, h_150, h_151⟩ (rfl) (rfl), h_152, h_153, h_154, h_155, h_156, h_157, h_158, ⟨hR, hPR, hNn⟩, htt⟩, fr_159⟩))

set_option maxHeartbeats 4000000 in
set_option maxRecDepth 20000 in
theorem kX8_years (g : Gt) {h : AH} {b : Nat} {S : Nat → Int → Int} {sd : Int} {n : Int} (hX : XR h b S) (hV : invM S) (g_sd : rgI sd) (g_n : rgI n) : CnJ g mX8_years 8 [.ref b, .int (iI sd), .int (iI n)] h (yearsA S sd n).1 (QX h b (yearsA S sd n).2) := by
  refine Cn.mk (by decide +kernel) (Nat.le_of_ble_eq_true rfl) ?_
  intro x sz hx hr
  show Zj g x (sz, 0, 0) h 0 [(0, .ref b), (1, .int (iI sd)), (2, .int (iI n))] []
  have hX0 := hX
  obtain ⟨F, pi, Fs, kq, N, T, x0, hK, hi0, hi1, htx, htr, hrb, heb, hhb, ⟨hR, hPR, hNn⟩, htt⟩ := hX
  obtain ⟨k0, k1, k2, k3, k4, k5⟩ := hK
  have hN := hV.1
  have hI := hN.1
  have hn := hI.n
  have rn := hR.n
  have h58 : 0 ≤ S 1 58 ∧ S 1 58 ≤ 8 := ⟨(hI.rg 58 (by decide)).1, hN.2.2.2.1⟩
  have h39 : 0 ≤ S 1 39 ∧ S 1 39 ≤ 6 := ⟨(hI.rg 39 (by decide)).1, hN.2.2.1⟩
  have h0 : 0 ≤ S 1 0 ∧ S 1 0 ≤ 999 := ⟨hN.2.1.2, hN.2.1.1⟩
  have hmx : ∀ i, 0 ≤ i → i < S 1 58 → inv (mixF (S 1) i) := fun i a b => (hN.2.2.2.2.1 i a b).1
  have hno : ∀ i, 0 ≤ i → i < S 1 39 → S 1 (40 + 3 * i) < 5 ∧ S 1 (40 + 3 * i + 1) ≤ 40 ∧ S 1 (40 + 3 * i + 2) ≤ 9 := fun i a b => by have q := hN.2.2.2.2.2 i a b; rw [show 41 + 3 * i = 40 + 3 * i + 1 by omega, show 42 + 3 * i = 40 + 3 * i + 2 by omega] at q; exact q
  have hTo : outR (S 2) := hV.2.1
  have hL := hV.2.2.2.1
  have htt2 := hV.2.2.2.2.1
  obtain ⟨Ft, trm⟩ := htr
  refine z_iload_n hx dX8_years_0 rfl 1 rfl ?_
  refine z_iconst hx dX8_years_1 ?_
  refine z_ldc (a := 999999) hx dX8_years_2 wq_X8_246 (by decide) ?_
  refine z_cSI (as := [.int (iI sd), .int (iI 0), .int (iI 999999)]) (rest := []) hx dX8_years_4 lk_X8_80 wt_X8_isIn mo_X8_isIn (kX8_isIn g (a := sd) (b := 0) (c := 999999) (by omega) (by omega) (by omega)) (by decide) rfl rfl (Nat.le_of_ble_eq_true rfl) ?_
  refine z_ifeq_b (tgt := 20) hx dX8_years_7 (by decide)  (fun c_1 => ?_) (fun c_1 => ?_)
  ·
    refine z_aload_n hx dX8_years_20 rfl 0 rfl ?_
    refine z_bipush hx dX8_years_21 (by decide) ?_
    refine z_cVJ (as := [.int (iI (-2))]) (rest := []) hx dX8_years_23 lk_X8_88 wm_X8_bad wv_X8_bad (rcv_obj hx x0 rfl) mo_X8_bad (kX8_bad g (v := (-2)) x0) (by decide) rfl rfl (Nat.le_of_ble_eq_true rfl) (fun h_2 q_3 => ?_)
    obtain ⟨hs_4, hf_5⟩ := q_3
    have h_6 := hf_5.at (by omega) k0
    have h_7 := CM.fr k1 hf_5 (by omega)
    have h_8 := PM.fr k2 hf_5 (by omega)
    have h_9 := hf_5.at (by omega) k3
    have h_10 := hf_5.at (by omega) k4
    have h_11 := hf_5.at (by omega) k5
    have h_12 := IB.fr hi0 hf_5 (by omega)
    have h_13 := IB.fr hi1 hf_5 (by omega)
    have h_14 := TB.fr htx hf_5 (by omega)
    have h_15 := RB.fr hrb hf_5 (by omega)
    have h_16 := EB.fr heb hf_5 (by omega)
    have h_17 := HB.fr hhb hf_5 (by omega)
    have h_18 := CM.fr trm hf_5 (by omega)
    have fr_19 : Fr h h_2 b 367 := hf_5.wd (by omega) (by omega)
    refine z_iret hx hr dX8_years_26 rfl rfl (q_j (by unfold yearsA; (repeat (first | rw [if_pos (by omega)] | rw [if_neg (by omega)])); (try first | exact e24 | exact e24.symm | rfl)) (by unfold yearsA; (repeat (first | rw [if_pos (by omega)] | rw [if_neg (by omega)])); show XC h_2 b (S 0) (S 1) (S 4) (S 5) (fup (S 6) 0 ((S 6) 0 + 1)) (S 7) ∧ Fr h h_2 b 367; exact ⟨⟨F, pi, Fs, kq, N, T, hs_4, KM.eq ⟨h_6, h_7, h_8, h_9, h_10, h_11⟩ (rfl) (rfl), h_12, h_13, h_14, ⟨_, h_18⟩, h_15, h_16, h_17, ⟨hR, hPR, hNn⟩, htt⟩, fr_19⟩))
  ·
    refine z_iload_n hx dX8_years_10 rfl 2 rfl ?_
    refine z_iconst hx dX8_years_11 ?_
    refine z_bipush hx dX8_years_12 (by decide) ?_
    refine z_cSI (as := [.int (iI n), .int (iI 0), .int (iI 30)]) (rest := []) hx dX8_years_14 lk_X8_80 wt_X8_isIn mo_X8_isIn (kX8_isIn g (a := n) (b := 0) (c := 30) (by omega) (by omega) (by omega)) (by decide) rfl rfl (Nat.le_of_ble_eq_true rfl) ?_
    refine z_ifne_b (tgt := 27) hx dX8_years_17 (by decide)  (fun c_20 => ?_) (fun c_20 => ?_)
    ·
      refine z_iload_n hx dX8_years_27 rfl 1 rfl ?_
      refine z_i2l hx dX8_years_28 (by omega) ?_
      refine z_lstore_n hx dX8_years_29 rfl (by decide) [1, 2, 3, 0] (lv' := [(0, .ref b), (1, .int (iI sd)), (2, .int (iI n)), (3, .long (lI sd))]) rfl ?_
      refine z_iconst hx dX8_years_30 ?_
      refine z_istore hx dX8_years_31 (by decide) [1, 2, 3, 4, 0] (lv' := [(0, .ref b), (1, .int (iI sd)), (2, .int (iI n)), (3, .long (lI sd)), (5, .int (iI 0))]) rfl ?_
      refine z_iconst hx dX8_years_33 ?_
      refine z_istore hx dX8_years_34 (by decide) [1, 2, 3, 4, 5, 0] (lv' := [(0, .ref b), (1, .int (iI sd)), (2, .int (iI n)), (3, .long (lI sd)), (5, .int (iI 0)), (6, .int (iI 0))]) rfl ?_
      have hL_21 : ∀ (mm : Nat) (v3 : Int) (v5 : Int) (v6 : Int) (gF : Nat → Int → Int) (g1 : Int → Int) (h_22 : AH), (0 ≤ v6 ∧ v6 ≤ n) → (0 ≤ v3 ∧ v3 < 2147483648) → (0 ≤ v5 ∧ v5 ≤ 8 * v6) → (itI v6 (yrG (S 1)) (sd, 0, S 2) = (v3, v5, g1)) → (outR g1) → (h_22 b = some (.inr (.inr (0, [.ref (b + 1), .ref (b + 97), .ref (b + 193), .ref (b + 289), .ref (b + 291), .ref (b + 301), .ref (b + 313), .ref (b + 366), .long (lI (S 0 6)), .long (lI (S 0 7)), .int (iI (S 6 0)), .int (iI (S 6 1)), .int (iI (S 6 2))])))) → (h_22 (b + 1) = some (.inr (.inr (3, [.ref ((b + 1) + 1), .ref ((b + 1) + 11), .ref ((b + 1) + 93), .ref ((b + 1) + 94), .ref ((b + 1) + 95), .int (iI (S 1 39)), .int (iI kq)])))) → (CM h_22 ((b + 1) + 1) F) → (PM h_22 ((b + 1) + 11) pi Fs (S 1 58)) → (h_22 ((b + 1) + 93) = some (.inl (0, 6, N 0))) → (h_22 ((b + 1) + 94) = some (.inl (0, 6, N 1))) → (h_22 ((b + 1) + 95) = some (.inl (0, 6, N 2))) → (IB h_22 (b + 97) (S 5 0) (img (S 4) 0)) → (IB h_22 (b + 193) (S 5 1) (img (S 4) 1)) → (TB h_22 (b + 289) T (S 0 8)) → (RB h_22 (b + 301)) → (EB h_22 (b + 313)) → (HB h_22 (b + 366)) → (CM h_22 (b + 291) gF) → (Fr h h_22 b 367) → n - v6 < (mm : Int) → Zj g x (sz, 0, 0) h_22 36 [(0, .ref b), (1, .int (iI sd)), (2, .int (iI n)), (3, .long (lI v3)), (5, .int (iI v5)), (6, .int (iI v6))] [] := by
        intro mm
        induction mm with
        | zero => intro v3 v5 v6 gF g1 h_22 kv k3o kq5 eg ho hk_23 hk_24 hk_25 hk_26 hk_27 hk_28 hk_29 hk_30 hk_31 hk_32 hk_33 hk_34 hk_35 hk_36 fr_37 hm; exfalso; omega
        | succ mm ih =>
          intro v3 v5 v6 gF g1 h_22 kv k3o kq5 eg ho hk_23 hk_24 hk_25 hk_26 hk_27 hk_28 hk_29 hk_30 hk_31 hk_32 hk_33 hk_34 hk_35 hk_36 fr_37 hm
          have ih_38 := ih; clear ih
          have icp : inv (cpn (S 1) g1) := inv_cpn hI ho
          have hRc : RLC F (cpn (S 1) g1) := RLC_ext hR hn (fun j x y => cpn_in ⟨x, by omega⟩)
          refine z_iload hx dX8_years_36 5 rfl ?_
          refine z_iload_n hx dX8_years_38 rfl 2 rfl ?_
          refine z_icmp_ge (tgt := 137) hx dX8_years_39 (by decide) (by omega) (by omega) (fun c_39 => ?_) (fun c_39 => ?_)
          ·
            have e24 : (itI n (yrG (S 1)) (sd, 0, S 2)).2.1 = v5 := by rw [show n = v6 by omega, eg]
            refine z_iload hx dX8_years_137 4 rfl ?_
            refine z_iret hx hr dX8_years_139 rfl rfl (q_j (by unfold yearsA; (repeat (first | rw [if_pos (by omega)] | rw [if_neg (by omega)])); (try first | exact e24 | exact e24.symm | rfl)) (by unfold yearsA; (repeat (first | rw [if_pos (by omega)] | rw [if_neg (by omega)])); show XC h_22 b (S 0) (S 1) (S 4) (S 5) (S 6) (S 7) ∧ Fr h h_22 b 367; exact ⟨⟨F, pi, Fs, kq, N, T, hk_23, KM.eq ⟨hk_24, hk_25, hk_26, hk_27, hk_28, hk_29⟩ (rfl) (rfl), hk_30, hk_31, hk_32, ⟨_, hk_36⟩, hk_33, hk_34, hk_35, ⟨hR, hPR, hNn⟩, htt⟩, fr_37⟩))
          ·
            refine z_aload_n hx dX8_years_42 rfl 0 rfl ?_
            refine z_get hx dX8_years_43 fl_X8_32 hk_23 rfl ?_
            refine z_aload_n hx dX8_years_46 rfl 0 rfl ?_
            refine z_get hx dX8_years_47 fl_X8_10 hk_23 rfl ?_
            refine z_get hx dX8_years_50 fl_X8_71 hk_24 rfl ?_
            refine z_cVV (as := [.ref ((b + 1) + 1)]) (rest := []) hx dX8_years_53 lk_X8_135 wm_X1_becomes wv_X1_becomes (rcv_obj hx (And.left hk_36) rfl) mo_X1_becomes (kX1_becomes g (F := gF) (G := F) (f := (cpn (S 1) g1)) hk_36 hk_25 hRc icp (by omega)) (by decide) rfl rfl (Nat.le_of_ble_eq_true rfl) (fun h_40 q_41 => ?_)
            obtain ⟨F_44, hC_42, hR_45, hf_43⟩ := q_41
            have h_46 := hf_43.at (by omega) hk_23
            have h_47 := hf_43.at (by omega) hk_24
            have h_48 := CM.fr hk_25 hf_43 (by omega)
            have h_49 := PM.fr hk_26 hf_43 (by omega)
            have h_50 := hf_43.at (by omega) hk_27
            have h_51 := hf_43.at (by omega) hk_28
            have h_52 := hf_43.at (by omega) hk_29
            have h_53 := IB.fr hk_30 hf_43 (by omega)
            have h_54 := IB.fr hk_31 hf_43 (by omega)
            have h_55 := TB.fr hk_32 hf_43 (by omega)
            have h_56 := RB.fr hk_33 hf_43 (by omega)
            have h_57 := EB.fr hk_34 hf_43 (by omega)
            have h_58 := HB.fr hk_35 hf_43 (by omega)
            have fr_59 := fr_37.tr (hf_43.wd (by omega) (by omega))
            refine z_iconst hx dX8_years_56 ?_
            refine z_istore hx dX8_years_57 (by decide) [1, 2, 3, 4, 5, 6, 0] (lv' := [(0, .ref b), (1, .int (iI sd)), (2, .int (iI n)), (3, .long (lI v3)), (5, .int (iI v5)), (6, .int (iI v6)), (7, .int (iI 0))]) rfl ?_
            have hL_60 : ∀ (mm : Nat) (v3b : Int) (v7 : Int) (gF2 : Nat → Int → Int) (g2 : Int → Int) (h_61 : AH), (0 ≤ v7 ∧ v7 ≤ S 1 37) → (0 ≤ v3b ∧ v3b < 2147483648) → (itI v7 yinG (v3, cpn (S 1) g1) = (v3b, g2)) → (inv g2) → (g2 37 = S 1 37) → (RLC gF2 g2) → (h_61 b = some (.inr (.inr (0, [.ref (b + 1), .ref (b + 97), .ref (b + 193), .ref (b + 289), .ref (b + 291), .ref (b + 301), .ref (b + 313), .ref (b + 366), .long (lI (S 0 6)), .long (lI (S 0 7)), .int (iI (S 6 0)), .int (iI (S 6 1)), .int (iI (S 6 2))])))) → (h_61 (b + 1) = some (.inr (.inr (3, [.ref ((b + 1) + 1), .ref ((b + 1) + 11), .ref ((b + 1) + 93), .ref ((b + 1) + 94), .ref ((b + 1) + 95), .int (iI (S 1 39)), .int (iI kq)])))) → (CM h_61 ((b + 1) + 1) F) → (PM h_61 ((b + 1) + 11) pi Fs (S 1 58)) → (h_61 ((b + 1) + 93) = some (.inl (0, 6, N 0))) → (h_61 ((b + 1) + 94) = some (.inl (0, 6, N 1))) → (h_61 ((b + 1) + 95) = some (.inl (0, 6, N 2))) → (IB h_61 (b + 97) (S 5 0) (img (S 4) 0)) → (IB h_61 (b + 193) (S 5 1) (img (S 4) 1)) → (TB h_61 (b + 289) T (S 0 8)) → (RB h_61 (b + 301)) → (EB h_61 (b + 313)) → (HB h_61 (b + 366)) → (CM h_61 (b + 291) gF2) → (Fr h h_61 b 367) → S 1 37 - v7 < (mm : Int) → Zj g x (sz, 0, 0) h_61 59 [(0, .ref b), (1, .int (iI sd)), (2, .int (iI n)), (3, .long (lI v3b)), (5, .int (iI v5)), (6, .int (iI v6)), (7, .int (iI v7))] [] := by
              intro mm
              induction mm with
              | zero => intro v3b v7 gF2 g2 h_61 kx kq3 ey ig2 i37 hrl2 hk_62 hk_63 hk_64 hk_65 hk_66 hk_67 hk_68 hk_69 hk_70 hk_71 hk_72 hk_73 hk_74 hk_75 fr_76 hm; exfalso; omega
              | succ mm ih =>
                intro v3b v7 gF2 g2 h_61 kx kq3 ey ig2 i37 hrl2 hk_62 hk_63 hk_64 hk_65 hk_66 hk_67 hk_68 hk_69 hk_70 hk_71 hk_72 hk_73 hk_74 hk_75 fr_76 hm
                have ih_77 := ih; clear ih
                have rn2 := hrl2.n
                refine z_iload hx dX8_years_59 6 rfl ?_
                refine z_aload_n hx dX8_years_61 rfl 0 rfl ?_
                refine z_get hx dX8_years_62 fl_X8_32 hk_62 rfl ?_
                refine z_get hx dX8_years_65 fl_X8_109 hk_75.1 rfl ?_
                refine z_icmp_ge (tgt := 110) hx dX8_years_68 (by decide) (by omega) (by omega) (fun c_78 => ?_) (fun c_78 => ?_)
                ·
                  refine z_aload_n hx dX8_years_110 rfl 0 rfl ?_
                  refine z_get hx dX8_years_111 fl_X8_32 hk_62 rfl ?_
                  refine z_bipush hx dX8_years_114 (by decide) ?_
                  refine z_cVV (as := [.int (iI 9)]) (rest := []) hx dX8_years_116 lk_X8_148 wm_X1_passHours wv_X1_passHours (rcv_obj hx (And.left hk_75) rfl) mo_X1_passHours (kX1_passHours g (F := gF2) (f := g2) (m := 9) hk_75 hrl2 ig2  (show 0 ≤ 9 ∧ 9 ≤ 100 by omega)) (by decide) rfl rfl (Nat.le_of_ble_eq_true rfl) (fun h_79 q_80 => ?_)
                  obtain ⟨F_83, hC_81, hR_84, hf_82⟩ := q_80
                  obtain ⟨f_86, ef_86⟩ : ∃ G : Int → Int, G = gon 9 g2 := ⟨_, rfl⟩
                  rw [← ef_86] at hR_84
                  have iv_87 := inv_gon ig2 (m := 9) (by omega)
                  rw [← ef_86] at iv_87
                  have h_88 := hf_82.at (by omega) hk_62
                  have h_89 := hf_82.at (by omega) hk_63
                  have h_90 := CM.fr hk_64 hf_82 (by omega)
                  have h_91 := PM.fr hk_65 hf_82 (by omega)
                  have h_92 := hf_82.at (by omega) hk_66
                  have h_93 := hf_82.at (by omega) hk_67
                  have h_94 := hf_82.at (by omega) hk_68
                  have h_95 := IB.fr hk_69 hf_82 (by omega)
                  have h_96 := IB.fr hk_70 hf_82 (by omega)
                  have h_97 := TB.fr hk_71 hf_82 (by omega)
                  have h_98 := RB.fr hk_72 hf_82 (by omega)
                  have h_99 := EB.fr hk_73 hf_82 (by omega)
                  have h_100 := HB.fr hk_74 hf_82 (by omega)
                  have fr_101 := fr_76.tr (hf_82.wd (by omega) (by omega))
                  have e7 : itI (S 1 37) yinG (v3, cpn (S 1) g1) = (v3b, g2) := by rw [← ey, show v7 = S 1 37 by omega]
                  have eT : f_86 = yrT (S 1) v3 g1 := by rw [ef_86]; unfold yrT; rw [e7]
                  have oT : outR f_86 := outR_cfx ho iv_87.1
                  have ht1 := pct_rg iv_87.1
                  refine z_iload hx dX8_years_119 4 rfl ?_
                  refine z_aload_n hx dX8_years_121 rfl 0 rfl ?_
                  refine z_get hx dX8_years_122 fl_X8_32 h_88 rfl ?_
                  refine z_cVI (as := []) (rest := [.int (iI v5)]) hx dX8_years_125 lk_X8_151 wm_X1_manyTaken wv_X1_manyTaken (rcv_obj hx (And.left hC_81) rfl) mo_X1_manyTaken (kX1_manyTaken g (F := F_83) (f := f_86)  hC_81 hR_84 iv_87.1 ) (by decide) rfl rfl (Nat.le_of_ble_eq_true rfl) ?_
                  have f_102 := popc_rg (v := tkn f_86)
                  have f_103 := tkn_rg iv_87.1
                  refine z_iadd hx dX8_years_128 ?_
                  refine z_istore hx dX8_years_129 (by decide) [1, 2, 3, 4, 0, 5, 6] (lv' := [(0, .ref b), (1, .int (iI sd)), (2, .int (iI n)), (3, .long (lI v3b)), (5, .int (iI (v5 + (popc (tkn f_86))))), (6, .int (iI v6)), (7, .int (iI v7))]) rfl ?_
                  refine z_iinc hx dX8_years_131 (by decide) 5 rfl [1, 2, 3, 4, 5, 0, 6] (lv' := [(0, .ref b), (1, .int (iI sd)), (2, .int (iI n)), (3, .long (lI v3b)), (5, .int (iI (v5 + (popc (tkn f_86))))), (6, .int (iI (v6 + 1))), (7, .int (iI v7))]) rfl ?_
                  refine z_goto (tgt := 36) hx dX8_years_134 (by decide) ?_
                  refine z_sub [0, 1, 2, 3, 4, 5] (lv' := [(0, .ref b), (1, .int (iI sd)), (2, .int (iI n)), (3, .long (lI v3b)), (5, .int (iI (v5 + (popc (tkn f_86))))), (6, .int (iI (v6 + 1)))]) rfl ?_
                  exact ih_38 _ _ _ F_83 f_86 _ (by omega) (by omega) (by omega) (by rw [itI_s _ _ (by omega), eg]; unfold yrG; dsimp only; rw [e7, ← eT]) (by exact oT) h_88 h_89 h_90 h_91 h_92 h_93 h_94 h_95 h_96 h_97 h_98 h_99 h_100 hC_81 fr_101 (by omega)
                ·
                  have hyx0 : 0 ≤ (v3b * 1103515245 + 12345) % 2147483648 ∧ (v3b * 1103515245 + 12345) % 2147483648 < 2147483648 := by omega
                  refine z_lload_n hx dX8_years_71 rfl 3 rfl ?_
                  refine z_ldc2 (a := 1103515245) hx dX8_years_72 wq_X8_247 (by decide) ?_
                  refine z_lmul hx dX8_years_75 ?_
                  refine z_ldc2 (a := 12345) hx dX8_years_76 wq_X8_249 (by decide) ?_
                  refine z_ladd hx dX8_years_79 ?_
                  refine z_ldc2 (a := 2147483648) hx dX8_years_80 wq_X8_251 (by decide) ?_
                  refine z_lrem hx dX8_years_83 (by omega) (by decide) ?_
                  refine z_lstore_n hx dX8_years_84 rfl (by decide) [1, 2, 3, 0, 4, 5, 6] (lv' := [(0, .ref b), (1, .int (iI sd)), (2, .int (iI n)), (3, .long (lI (((v3b * 1103515245) + 12345) % 2147483648))), (5, .int (iI v5)), (6, .int (iI v6)), (7, .int (iI v7))]) rfl ?_
                  refine z_aload_n hx dX8_years_85 rfl 0 rfl ?_
                  refine z_get hx dX8_years_86 fl_X8_32 hk_62 rfl ?_
                  refine z_iload hx dX8_years_89 6 rfl ?_
                  refine z_lload_n hx dX8_years_91 rfl 3 rfl ?_
                  refine z_ldc2 (a := 65536) hx dX8_years_92 wq_X8_253 (by decide) ?_
                  refine z_ldiv hx dX8_years_95 (by omega) (by decide) ?_
                  refine z_ldc2 (a := 24) hx dX8_years_96 wq_X8_255 (by decide) ?_
                  refine z_lrem hx dX8_years_99 (by omega) (by decide) ?_
                  refine z_l2i hx dX8_years_100 ?_
                  refine z_cVV (as := [.int (iI v7), .int (iI (((((v3b * 1103515245) + 12345) % 2147483648) / 65536) % 24))]) (rest := []) hx dX8_years_101 lk_X8_257 wm_X1_setFree wv_X1_setFree (rcv_obj hx (And.left hk_75) rfl) mo_X1_setFree (kX1_setFree g (F := gF2) (p := v7) (cell := (((((v3b * 1103515245) + 12345) % 2147483648) / 65536) % 24)) hk_75 (show 0 ≤ v7 ∧ v7 < 6 by omega) (show rgI (((((v3b * 1103515245) + 12345) % 2147483648) / 65536) % 24) by omega)) (by decide) rfl rfl (Nat.le_of_ble_eq_true rfl) (fun h_104 q_105 => ?_)
                  obtain ⟨hC_106, hf_107⟩ := q_105
                  obtain ⟨F_108, eF_108⟩ : ∃ G : Nat → Int → Int, G = sst (sst gF2 5 (fup (gF2 5) v7 (((((v3b * 1103515245) + 12345) % 2147483648) / 65536) % 24))) 6 (fup (gF2 6) v7 (-1)) := ⟨_, rfl⟩
                  rw [← eF_108] at hC_106
                  have h_109 := hf_107.at (by omega) hk_62
                  have h_110 := hf_107.at (by omega) hk_63
                  have h_111 := CM.fr hk_64 hf_107 (by omega)
                  have h_112 := PM.fr hk_65 hf_107 (by omega)
                  have h_113 := hf_107.at (by omega) hk_66
                  have h_114 := hf_107.at (by omega) hk_67
                  have h_115 := hf_107.at (by omega) hk_68
                  have h_116 := IB.fr hk_69 hf_107 (by omega)
                  have h_117 := IB.fr hk_70 hf_107 (by omega)
                  have h_118 := TB.fr hk_71 hf_107 (by omega)
                  have h_119 := RB.fr hk_72 hf_107 (by omega)
                  have h_120 := EB.fr hk_73 hf_107 (by omega)
                  have h_121 := HB.fr hk_74 hf_107 (by omega)
                  have fr_122 := fr_76.tr (hf_107.wd (by omega) (by omega))
                  have hyx : 0 ≤ yrX v3b ∧ yrX v3b < 2147483648 := by unfold yrX; omega
                  have hyc : 0 ≤ yrX v3b / 65536 % 24 ∧ yrX v3b / 65536 % 24 < 24 := by omega
                  have iy := inv_yin ig2 (p := v7) (c := yrX v3b / 65536 % 24) (by omega) hyc
                  have iy37 := iy.2 37 (by decide)
                  have ing := ig2.n
                  have hRy : RLC F_108 (fup (fup g2 (11 + v7) (yrX v3b / 65536 % 24)) (17 + v7) 0) := by rw [eF_108]; exact RLC_st (RLC_ce hrl2 ing (by omega)) (by rw [fup_n (by omega), fup_n (by omega), fup_n (by omega)]; exact ing) (by rw [fup_n (by omega)]; omega) (by decide)
                  refine z_iinc hx dX8_years_104 (by decide) 6 rfl [1, 2, 3, 4, 5, 6, 0] (lv' := [(0, .ref b), (1, .int (iI sd)), (2, .int (iI n)), (3, .long (lI (((v3b * 1103515245) + 12345) % 2147483648))), (5, .int (iI v5)), (6, .int (iI v6)), (7, .int (iI (v7 + 1)))]) rfl ?_
                  refine z_goto (tgt := 59) hx dX8_years_107 (by decide) ?_
                  exact ih_77 _ _ F_108 (fup (fup g2 (11 + v7) (yrX v3b / 65536 % 24)) (17 + v7) 0) _ (by omega) (by exact hyx) (by rw [itI_s _ _ (by omega), ey]; rfl) (by exact iy.1) (by rw [← i37]; exact iy37) (by exact hRy) h_109 h_110 h_111 h_112 h_113 h_114 h_115 h_116 h_117 h_118 h_119 h_120 h_121 hC_106 fr_122 (by omega)
            exact hL_60 ((S 1 37 - 0) + 1 : Int).toNat _ _ F_44 (cpn (S 1) g1) _ (by omega) (by omega) (by rfl) (by exact icp) (by exact cpn_in (by decide)) (by exact hR_45) h_46 h_47 h_48 h_49 h_50 h_51 h_52 h_53 h_54 h_55 h_56 h_57 h_58 hC_42 fr_59 (by omega)
      exact hL_21 ((n - 0) + 1 : Int).toNat _ _ _ Ft (S 2) _ (by omega) (by omega) (by omega) (by rfl) (by exact hTo) x0 k0 k1 k2 k3 k4 k5 hi0 hi1 htx hrb heb hhb trm Fr.rf (by omega)
    ·
      refine z_aload_n hx dX8_years_20 rfl 0 rfl ?_
      refine z_bipush hx dX8_years_21 (by decide) ?_
      refine z_cVJ (as := [.int (iI (-2))]) (rest := []) hx dX8_years_23 lk_X8_88 wm_X8_bad wv_X8_bad (rcv_obj hx x0 rfl) mo_X8_bad (kX8_bad g (v := (-2)) x0) (by decide) rfl rfl (Nat.le_of_ble_eq_true rfl) (fun h_123 q_124 => ?_)
      obtain ⟨hs_125, hf_126⟩ := q_124
      have h_127 := hf_126.at (by omega) k0
      have h_128 := CM.fr k1 hf_126 (by omega)
      have h_129 := PM.fr k2 hf_126 (by omega)
      have h_130 := hf_126.at (by omega) k3
      have h_131 := hf_126.at (by omega) k4
      have h_132 := hf_126.at (by omega) k5
      have h_133 := IB.fr hi0 hf_126 (by omega)
      have h_134 := IB.fr hi1 hf_126 (by omega)
      have h_135 := TB.fr htx hf_126 (by omega)
      have h_136 := RB.fr hrb hf_126 (by omega)
      have h_137 := EB.fr heb hf_126 (by omega)
      have h_138 := HB.fr hhb hf_126 (by omega)
      have h_139 := CM.fr trm hf_126 (by omega)
      have fr_140 : Fr h h_123 b 367 := hf_126.wd (by omega) (by omega)
      refine z_iret hx hr dX8_years_26 rfl rfl (q_j (by unfold yearsA; (repeat (first | rw [if_pos (by omega)] | rw [if_neg (by omega)])); (try first | exact e24 | exact e24.symm | rfl)) (by unfold yearsA; (repeat (first | rw [if_pos (by omega)] | rw [if_neg (by omega)])); show XC h_123 b (S 0) (S 1) (S 4) (S 5) (fup (S 6) 0 ((S 6) 0 + 1)) (S 7) ∧ Fr h h_123 b 367; exact ⟨⟨F, pi, Fs, kq, N, T, hs_125, KM.eq ⟨h_127, h_128, h_129, h_130, h_131, h_132⟩ (rfl) (rfl), h_133, h_134, h_135, ⟨_, h_139⟩, h_136, h_137, h_138, ⟨hR, hPR, hNn⟩, htt⟩, fr_140⟩))

set_option maxHeartbeats 4000000 in
set_option maxRecDepth 20000 in
theorem kX8_digest (g : Gt) {h : AH} {b : Nat} {S : Nat → Int → Int}  (hX : XR h b S) (hV : invM S)  : CnM g mX8_digest 6 [.ref b] h (digestA S).1 (QX h b (digestA S).2) := by
  refine Cn.mk (by decide +kernel) (Nat.le_of_ble_eq_true rfl) ?_
  intro x sz hx hr
  show Zj g x (sz, 0, 0) h 0 [(0, .ref b)] []
  have hX0 := hX
  obtain ⟨F, pi, Fs, kq, N, T, x0, hK, hi0, hi1, htx, htr, hrb, heb, hhb, ⟨hR, hPR, hNn⟩, htt⟩ := hX
  obtain ⟨k0, k1, k2, k3, k4, k5⟩ := hK
  have hN := hV.1
  have hI := hN.1
  have hn := hI.n
  have rn := hR.n
  have h58 : 0 ≤ S 1 58 ∧ S 1 58 ≤ 8 := ⟨(hI.rg 58 (by decide)).1, hN.2.2.2.1⟩
  have h39 : 0 ≤ S 1 39 ∧ S 1 39 ≤ 6 := ⟨(hI.rg 39 (by decide)).1, hN.2.2.1⟩
  have h0 : 0 ≤ S 1 0 ∧ S 1 0 ≤ 999 := ⟨hN.2.1.2, hN.2.1.1⟩
  have hmx : ∀ i, 0 ≤ i → i < S 1 58 → inv (mixF (S 1) i) := fun i a b => (hN.2.2.2.2.1 i a b).1
  have hno : ∀ i, 0 ≤ i → i < S 1 39 → S 1 (40 + 3 * i) < 5 ∧ S 1 (40 + 3 * i + 1) ≤ 40 ∧ S 1 (40 + 3 * i + 2) ≤ 9 := fun i a b => by have q := hN.2.2.2.2.2 i a b; rw [show 41 + 3 * i = 40 + 3 * i + 1 by omega, show 42 + 3 * i = 40 + 3 * i + 2 by omega] at q; exact q
  have hTo : outR (S 2) := hV.2.1
  have hL := hV.2.2.2.1
  have htt2 := hV.2.2.2.2.1
  refine z_ldc2 (a := 1409) hx dX8_digest_0 wq_X8_274 (by decide) ?_
  refine z_lstore_n hx dX8_digest_3 rfl (by decide) [1, 0] (lv' := [(0, .ref b), (1, .long (lI 1409))]) rfl ?_
  refine z_iconst hx dX8_digest_4 ?_
  refine z_istore_n hx dX8_digest_5 rfl (by decide) [1, 2, 0] (lv' := [(0, .ref b), (1, .long (lI 1409)), (3, .int (iI 0))]) rfl ?_
  have hL_1 : ∀ (mm : Nat) (d1 : Int) (a3 : Int), (0 ≤ a3 ∧ a3 ≤ 9) → (d1 = itI a3 (dg1 S) (1409)) → (9 : Int) - a3 < (mm : Int) → Zj g x (sz, 0, 0) h 6 [(0, .ref b), (1, .long (lI d1)), (3, .int (iI a3))] [] := by
    intro mm
    induction mm with
    | zero => intro d1 a3 ka ea hm; exfalso; omega
    | succ mm ih =>
      intro d1 a3 ka ea hm
      have ih_2 := ih; clear ih
      refine z_iload_n hx dX8_digest_6 rfl 2 rfl ?_
      refine z_bipush hx dX8_digest_7 (by decide) ?_
      refine z_icmp_gt (tgt := 31) hx dX8_digest_9 (by decide) (by omega) (by decide) (fun c_3 => ?_) (fun c_3 => ?_)
      ·
        have E1 : itI 9 (dg1 S) (1409) = d1 := by rw [ea, show a3 = 9 by omega]
        refine z_aload_n hx dX8_digest_31 rfl 0 rfl ?_
        refine z_get hx dX8_digest_32 fl_X8_10 x0 rfl ?_
        refine z_get hx dX8_digest_35 fl_X8_71 k0 rfl ?_
        refine z_lload_n hx dX8_digest_38 rfl 1 rfl ?_
        refine z_cVL (as := [.long (lI d1)]) (rest := []) hx dX8_digest_39 lk_X8_278 wm_X1_digestOn wv_X1_digestOn (rcv_obj hx (And.left k1) rfl) mo_X1_digestOn (kX1_digestOn g (F := F) (f := (S 1)) (e0 := d1) k1 hR hI) (by decide) rfl rfl (Nat.le_of_ble_eq_true rfl) ?_
        refine z_lstore_n hx dX8_digest_42 rfl (by decide) [1, 0, 2] (lv' := [(0, .ref b), (1, .long (lI (dgC (S 1) d1))), (3, .int (iI a3))]) rfl ?_
        refine z_aload_n hx dX8_digest_43 rfl 0 rfl ?_
        refine z_get hx dX8_digest_44 fl_X8_10 x0 rfl ?_
        refine z_lload_n hx dX8_digest_47 rfl 1 rfl ?_
        refine z_cVL (as := [.long (lI (dgC (S 1) d1))]) (rest := []) hx dX8_digest_48 lk_X8_282 wm_X3_digestNotesOn wv_X3_digestNotesOn (rcv_obj hx k0 rfl) mo_X3_digestNotesOn (kX3_digestNotesOn g (f := (S 1)) (N := N) (e0 := (dgC (S 1) d1)) ⟨k0, k1, k2, k3, k4, k5⟩ hR hPR hNn hN) (by decide) rfl rfl (Nat.le_of_ble_eq_true rfl) ?_
        refine z_lstore_n hx dX8_digest_51 rfl (by decide) [1, 0, 2] (lv' := [(0, .ref b), (1, .long (lI (itI (3 * (S 1) 39) (dg4 (S 1) 40) (dgC (S 1) d1)))), (3, .int (iI a3))]) rfl ?_
        refine z_ldc2 (a := 31) hx dX8_digest_52 wq_X8_276 (by decide) ?_
        refine z_lload_n hx dX8_digest_55 rfl 1 rfl ?_
        refine z_lmul hx dX8_digest_56 ?_
        refine z_aload_n hx dX8_digest_57 rfl 0 rfl ?_
        refine z_get hx dX8_digest_58 fl_X8_54 x0 rfl ?_
        refine z_ladd hx dX8_digest_61 ?_
        refine z_lstore_n hx dX8_digest_62 rfl (by decide) [1, 0, 2] (lv' := [(0, .ref b), (1, .long (lI ((31 * (itI (3 * (S 1) 39) (dg4 (S 1) 40) (dgC (S 1) d1))) + (S 0 6)))), (3, .int (iI a3))]) rfl ?_
        refine z_ldc2 (a := 31) hx dX8_digest_63 wq_X8_276 (by decide) ?_
        refine z_lload_n hx dX8_digest_66 rfl 1 rfl ?_
        refine z_lmul hx dX8_digest_67 ?_
        refine z_aload_n hx dX8_digest_68 rfl 0 rfl ?_
        refine z_get hx dX8_digest_69 fl_X8_58 x0 rfl ?_
        refine z_ladd hx dX8_digest_72 ?_
        refine z_lret hx hr dX8_digest_73 rfl (q_m (by unfold digestA digV; dsimp only; rw [E1]; rfl) (by skip; show XC h b (S 0) (S 1) (S 4) (S 5) (S 6) (S 7) ∧ Fr h h b 367; exact ⟨⟨F, pi, Fs, kq, N, T, x0, KM.eq ⟨k0, k1, k2, k3, k4, k5⟩ (rfl) (rfl), hi0, hi1, htx, htr, hrb, heb, hhb, ⟨hR, hPR, hNn⟩, htt⟩, Fr.rf⟩))
      ·
        refine z_ldc2 (a := 31) hx dX8_digest_12 wq_X8_276 (by decide) ?_
        refine z_lload_n hx dX8_digest_15 rfl 1 rfl ?_
        refine z_lmul hx dX8_digest_16 ?_
        refine z_aload_n hx dX8_digest_17 rfl 0 rfl ?_
        refine z_iload_n hx dX8_digest_18 rfl 2 rfl ?_
        refine z_cVI (as := [.int (iI a3)]) (rest := [.long (lI (31 * d1))]) hx dX8_digest_19 lk_X8_271 wm_X8_countOf wv_X8_countOf (rcv_obj hx x0 rfl) mo_X8_countOf (kX8_countOf g (S := S) (w := a3) hX0 hV (show 0 ≤ a3 ∧ a3 ≤ 8 by omega)) (by decide) rfl rfl (Nat.le_of_ble_eq_true rfl) ?_
        have f_4 := cntV_rg hV a3
        refine z_i2l hx dX8_digest_22 (by omega) ?_
        refine z_ladd hx dX8_digest_23 ?_
        refine z_lstore_n hx dX8_digest_24 rfl (by decide) [1, 0, 2] (lv' := [(0, .ref b), (1, .long (lI ((31 * d1) + (cntV S a3)))), (3, .int (iI a3))]) rfl ?_
        refine z_iinc hx dX8_digest_25 (by decide) 2 rfl [1, 2, 0] (lv' := [(0, .ref b), (1, .long (lI ((31 * d1) + (cntV S a3)))), (3, .int (iI (a3 + 1)))]) rfl ?_
        refine z_goto (tgt := 6) hx dX8_digest_28 (by decide) ?_
        exact ih_2 _ _ (by omega) (by rw [itI_s _ _ (by omega), ← ea]; rfl)  (by omega)
  exact hL_1 (((9 : Int) - 0) + 1 : Int).toNat _ _ (by omega) (by rfl)  (by omega)

