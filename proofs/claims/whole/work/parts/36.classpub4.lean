/-! the class: place, stitches, feel, inside, two, rain, years, digest -/

set_option maxHeartbeats 4000000 in
set_option maxRecDepth 20000 in
theorem kX8_stitches (g : Gt) {h : AH} {b : Nat} {S : Nat → Int → Int} {k : Int} {n : Int} (hX : XR h b S) (hV : invM S) (g_k : rgI k) (g_n : rgI n) : CnJ g mX8_stitches 4 [.ref b, .int (iI k), .int (iI n)] h (stitchesA S k n).1 (QX h b (stitchesA S k n).2) := by
  refine Cn.mk (by decide +kernel) (Nat.le_of_ble_eq_true rfl) ?_
  intro x sz hx hr
  show Zj g x (sz, 0, 0) h 0 [(0, .ref b), (1, .int (iI k)), (2, .int (iI n))] []
  have hX0 := hX
  obtain ⟨F, pi, Fs, kq, N, T, x0, hK, hi0, hi1, htx, htr, hrb, heb, hhb, ⟨hR, hPR, hNn⟩, htt⟩ := hX
  obtain ⟨k0, k1, k2, k3, k4, k5⟩ := hK
  have hN := hV.1
  have hI := hN.1
  have hn := hI.n
  have rn := hR.n
  have h58 : 0 ≤ S 1 58 ∧ S 1 58 ≤ 8 := ⟨(hI.rg 58 (by decide)).1, hN.2.2.2.1⟩
  have h39 : 0 ≤ S 1 39 ∧ S 1 39 ≤ 6 := ⟨(hI.rg 39 (by decide)).1, hN.2.2.1⟩
  have h0 : 0 ≤ S 1 0 ∧ S 1 0 ≤ 999 := ⟨hN.2.1.2, hN.2.1.1⟩
  have hmx : ∀ i, 0 ≤ i → i < S 1 58 → inv (mixF (S 1) i) := fun i a b => (hN.2.2.2.2.1 i a b).1
  have hno : ∀ i, 0 ≤ i → i < S 1 39 → S 1 (40 + 3 * i) < 5 ∧ S 1 (40 + 3 * i + 1) ≤ 40 ∧ S 1 (40 + 3 * i + 2) ≤ 9 := fun i a b => by have q := hN.2.2.2.2.2 i a b; rw [show 41 + 3 * i = 40 + 3 * i + 1 by omega, show 42 + 3 * i = 40 + 3 * i + 2 by omega] at q; exact q
  have hTo : outR (S 2) := hV.2.1
  have hL := hV.2.2.2.1
  have htt2 := hV.2.2.2.2.1
  refine z_aload_n hx dX8_stitches_0 rfl 0 rfl ?_
  refine z_iload_n hx dX8_stitches_1 rfl 1 rfl ?_
  refine z_cVI (as := [.int (iI k)]) (rest := []) hx dX8_stitches_2 lk_X8_154 wm_X8_isCosy wv_X8_isCosy (rcv_obj hx x0 rfl) mo_X8_isCosy (kX8_isCosy g (k := k) (F := F) (N := N) (f := (S 1)) x0 ⟨k0, k1, k2, k3, k4, k5⟩ hR hI (show rgI k by omega)) (by decide) rfl rfl (Nat.le_of_ble_eq_true rfl) ?_
  refine z_ifeq_b (tgt := 18) hx dX8_stitches_5 (by decide)  (fun c_1 => ?_) (fun c_1 => ?_)
  ·
    refine z_aload_n hx dX8_stitches_18 rfl 0 rfl ?_
    refine z_bipush hx dX8_stitches_19 (by decide) ?_
    refine z_cVJ (as := [.int (iI (-2))]) (rest := []) hx dX8_stitches_21 lk_X8_88 wm_X8_bad wv_X8_bad (rcv_obj hx x0 rfl) mo_X8_bad (kX8_bad g (v := (-2)) x0) (by decide) rfl rfl (Nat.le_of_ble_eq_true rfl) (fun h_2 q_3 => ?_)
    obtain ⟨hs_4, hf_5⟩ := q_3
    have h_6 := hf_5.at (by omega) k0
    have h_7 := CM.fr k1 hf_5 (by omega)
    have h_8 := PM.fr k2 hf_5 (by omega)
    have h_9 := hf_5.at (by omega) k3
    have h_10 := hf_5.at (by omega) k4
    have h_11 := hf_5.at (by omega) k5
    have h_12 := IB.fr hi0 hf_5 (by omega)
    have h_13 := IB.fr hi1 hf_5 (by omega)
    have h_14 := TB.fr htx hf_5 (by omega)
    have h_15 := CB.fr htr hf_5 (by omega)
    have h_16 := RB.fr hrb hf_5 (by omega)
    have h_17 := EB.fr heb hf_5 (by omega)
    have h_18 := HB.fr hhb hf_5 (by omega)
    have fr_19 : Fr h h_2 b 367 := hf_5.wd (by omega) (by omega)
    refine z_iret hx hr dX8_stitches_24 rfl rfl (q_j (by unfold stitchesA; (repeat (first | rw [if_pos (by omega)] | rw [if_neg (by omega)])); (try rw [← eg]); (try rfl)) (by unfold stitchesA; (repeat (first | rw [if_pos (by omega)] | rw [if_neg (by omega)])); show XC h_2 b (S 0) (S 1) (S 4) (S 5) (fup (S 6) 0 ((S 6) 0 + 1)) (S 7) ∧ Fr h h_2 b 367; exact ⟨⟨F, pi, Fs, kq, N, T, hs_4, KM.eq ⟨h_6, h_7, h_8, h_9, h_10, h_11⟩ (rfl) (rfl), h_12, h_13, h_14, h_15, h_16, h_17, h_18, ⟨hR, hPR, hNn⟩, htt⟩, fr_19⟩))
  ·
    refine z_iload_n hx dX8_stitches_8 rfl 2 rfl ?_
    refine z_iconst hx dX8_stitches_9 ?_
    refine z_bipush hx dX8_stitches_10 (by decide) ?_
    refine z_cSI (as := [.int (iI n), .int (iI 0), .int (iI 9)]) (rest := []) hx dX8_stitches_12 lk_X8_80 wt_X8_isIn mo_X8_isIn (kX8_isIn g (a := n) (b := 0) (c := 9) (by omega) (by omega) (by omega)) (by decide) rfl rfl (Nat.le_of_ble_eq_true rfl) ?_
    refine z_ifne_b (tgt := 25) hx dX8_stitches_15 (by decide)  (fun c_20 => ?_) (fun c_20 => ?_)
    ·
      refine z_aload_n hx dX8_stitches_25 rfl 0 rfl ?_
      refine z_get hx dX8_stitches_26 fl_X8_10 x0 rfl ?_
      refine z_get hx dX8_stitches_29 fl_X8_71 k0 rfl ?_
      refine z_get hx dX8_stitches_32 fl_X8_157 k1.1 rfl ?_
      refine z_iload_n hx dX8_stitches_35 rfl 1 rfl ?_
      refine z_iald hx dX8_stitches_36 k1.2.2.2.2.1 (by omega) (by decide) ?_
      have rk_21 := hR.k k (by first | omega | decide)
      have ik_22 := hI.k k (by first | omega | decide)
      refine z_istore_n hx dX8_stitches_37 rfl (by decide) [1, 2, 3, 0] (lv' := [(0, .ref b), (1, .int (iI k)), (2, .int (iI n)), (3, .int (iI (F 4 k)))]) rfl ?_
      refine z_iconst hx dX8_stitches_38 ?_
      refine z_istore hx dX8_stitches_39 (by decide) [1, 2, 3, 4, 0] (lv' := [(0, .ref b), (1, .int (iI k)), (2, .int (iI n)), (3, .int (iI (F 4 k))), (4, .int (iI 0))]) rfl ?_
      have hL_23 : ∀ (mm : Nat) (v4 : Int), (0 ≤ v4 ∧ v4 ≤ S 1 (6 + k) + 1) → (fnd (fun d => decide (n ≤ hol (S 1 (27 + k)) (S 1 (32 + k)) (S 1 (6 + k) - d))) (S 1 (6 + k) + 1 - v4).toNat v4 = fnd (fun d => decide (n ≤ hol (S 1 (27 + k)) (S 1 (32 + k)) (S 1 (6 + k) - d))) (S 1 (6 + k) + 1).toNat 0) → S 1 (6 + k) + 1 - v4 < (mm : Int) → Zj g x (sz, 0, 0) h 41 [(0, .ref b), (1, .int (iI k)), (2, .int (iI n)), (3, .int (iI (F 4 k))), (4, .int (iI v4))] [] := by
        intro mm
        induction mm with
        | zero => intro v4 kv eg hm; exfalso; omega
        | succ mm ih =>
          intro v4 kv eg hm
          have ih_24 := ih; clear ih
          have hkk := hI.k k (by omega)
          have rkk := hR.k k (by omega)
          refine z_iload hx dX8_stitches_41 4 rfl ?_
          refine z_iload_n hx dX8_stitches_43 rfl 3 rfl ?_
          refine z_icmp_gt (tgt := 81) hx dX8_stitches_44 (by decide) (by omega) (by omega) (fun c_25 => ?_) (fun c_25 => ?_)
          ·
            have eW : fnd (fun d => decide (n ≤ hol (S 1 (27 + k)) (S 1 (32 + k)) (S 1 (6 + k) - d))) (S 1 (6 + k) + 1 - v4).toNat v4 = -1 := by rw [show (S 1 (6 + k) + 1 - v4).toNat = 0 by omega]; rfl
            rw [eW] at eg
            refine z_iconst hx dX8_stitches_81 ?_
            refine z_iret hx hr dX8_stitches_82 rfl rfl (q_j (by unfold stitchesA; (repeat (first | rw [if_pos (by omega)] | rw [if_neg (by omega)])); (try rw [← eg]); (try rfl)) (by unfold stitchesA; (repeat (first | rw [if_pos (by omega)] | rw [if_neg (by omega)])); show XC h b (S 0) (S 1) (S 4) (S 5) (S 6) (S 7) ∧ Fr h h b 367; exact ⟨⟨F, pi, Fs, kq, N, T, x0, KM.eq ⟨k0, k1, k2, k3, k4, k5⟩ (rfl) (rfl), hi0, hi1, htx, htr, hrb, heb, hhb, ⟨hR, hPR, hNn⟩, htt⟩, Fr.rf⟩))
          ·
            refine z_aload_n hx dX8_stitches_47 rfl 0 rfl ?_
            refine z_aload_n hx dX8_stitches_48 rfl 0 rfl ?_
            refine z_get hx dX8_stitches_49 fl_X8_10 x0 rfl ?_
            refine z_get hx dX8_stitches_52 fl_X8_71 k0 rfl ?_
            refine z_get hx dX8_stitches_55 fl_X8_182 k1.1 rfl ?_
            refine z_iload_n hx dX8_stitches_58 rfl 1 rfl ?_
            refine z_iald hx dX8_stitches_59 k1.2.1 (by omega) (by decide) ?_
            have rk_26 := hR.k k (by first | omega | decide)
            have ik_27 := hI.k k (by first | omega | decide)
            refine z_iload_n hx dX8_stitches_60 rfl 1 rfl ?_
            refine z_iload_n hx dX8_stitches_61 rfl 3 rfl ?_
            refine z_iload hx dX8_stitches_62 4 rfl ?_
            refine z_isub hx dX8_stitches_64 ?_
            refine z_cVI (as := [.int (iI (F 1 k)), .int (iI k), .int (iI ((F 4 k) - v4))]) (rest := []) hx dX8_stitches_65 lk_X8_219 wm_X8_holdsAs wv_X8_holdsAs (rcv_obj hx x0 rfl) mo_X8_holdsAs (kX8_holdsAs g (kd := (F 1 k)) (k := k) (w := ((F 4 k) - v4)) (F := F) (N := N) (f := (S 1)) x0 ⟨k0, k1, k2, k3, k4, k5⟩ hR hI (show 0 ≤ (F 1 k) ∧ (F 1 k) ≤ 5 by omega) (show 0 ≤ k ∧ k < (S 1) 26 by omega) (show 0 ≤ ((F 4 k) - v4) ∧ ((F 4 k) - v4) ≤ 40 by omega)) (by decide) rfl rfl (Nat.le_of_ble_eq_true rfl) ?_
            have f_28 := hol_rg (k := (F 1 k)) (s := (S 1) (32 + k)) (w := ((F 4 k) - v4)) (by omega) (by have := (hI).k k (by have := (hI).n; omega); omega) (by omega)
            have eh : hol (F 1 k) (S 1 (32 + k)) (F 4 k - v4) = hol (S 1 (27 + k)) (S 1 (32 + k)) (S 1 (6 + k) - v4) := by rw [show F 1 k = S 1 (27 + k) by omega, show F 4 k = S 1 (6 + k) by omega]
            refine z_iload_n hx dX8_stitches_68 rfl 2 rfl ?_
            refine z_icmp_lt (tgt := 75) hx dX8_stitches_69 (by decide) (by omega) (by omega) (fun c_29 => ?_) (fun c_29 => ?_)
            ·
              refine z_iinc hx dX8_stitches_75 (by decide) 4 rfl [1, 2, 3, 4, 0] (lv' := [(0, .ref b), (1, .int (iI k)), (2, .int (iI n)), (3, .int (iI (F 4 k))), (4, .int (iI (v4 + 1)))]) rfl ?_
              refine z_goto (tgt := 41) hx dX8_stitches_78 (by decide) ?_
              exact ih_24 _ (by omega) (by rw [← eg]; exact (fnd_n (by omega) (by simp; omega)).symm)  (by omega)
            ·
              have eW := fnd_y (P := (fun d => decide (n ≤ hol (S 1 (27 + k)) (S 1 (32 + k)) (S 1 (6 + k) - d)))) (m := (S 1 (6 + k) + 1 - v4).toNat) (i := v4) (by omega) (by simp; omega)
              rw [eW] at eg
              refine z_iload hx dX8_stitches_72 4 rfl ?_
              refine z_iret hx hr dX8_stitches_74 rfl rfl (q_j (by unfold stitchesA; (repeat (first | rw [if_pos (by omega)] | rw [if_neg (by omega)])); (try rw [← eg]); (try rfl)) (by unfold stitchesA; (repeat (first | rw [if_pos (by omega)] | rw [if_neg (by omega)])); show XC h b (S 0) (S 1) (S 4) (S 5) (S 6) (S 7) ∧ Fr h h b 367; exact ⟨⟨F, pi, Fs, kq, N, T, x0, KM.eq ⟨k0, k1, k2, k3, k4, k5⟩ (rfl) (rfl), hi0, hi1, htx, htr, hrb, heb, hhb, ⟨hR, hPR, hNn⟩, htt⟩, Fr.rf⟩))
      exact hL_23 ((S 1 (6 + k) + 1 - 0) + 1 : Int).toNat _ (by omega) (by rw [show S 1 (6 + k) + 1 - 0 = S 1 (6 + k) + 1 by omega])  (by omega)
    ·
      refine z_aload_n hx dX8_stitches_18 rfl 0 rfl ?_
      refine z_bipush hx dX8_stitches_19 (by decide) ?_
      refine z_cVJ (as := [.int (iI (-2))]) (rest := []) hx dX8_stitches_21 lk_X8_88 wm_X8_bad wv_X8_bad (rcv_obj hx x0 rfl) mo_X8_bad (kX8_bad g (v := (-2)) x0) (by decide) rfl rfl (Nat.le_of_ble_eq_true rfl) (fun h_30 q_31 => ?_)
      obtain ⟨hs_32, hf_33⟩ := q_31
      have h_34 := hf_33.at (by omega) k0
      have h_35 := CM.fr k1 hf_33 (by omega)
      have h_36 := PM.fr k2 hf_33 (by omega)
      have h_37 := hf_33.at (by omega) k3
      have h_38 := hf_33.at (by omega) k4
      have h_39 := hf_33.at (by omega) k5
      have h_40 := IB.fr hi0 hf_33 (by omega)
      have h_41 := IB.fr hi1 hf_33 (by omega)
      have h_42 := TB.fr htx hf_33 (by omega)
      have h_43 := CB.fr htr hf_33 (by omega)
      have h_44 := RB.fr hrb hf_33 (by omega)
      have h_45 := EB.fr heb hf_33 (by omega)
      have h_46 := HB.fr hhb hf_33 (by omega)
      have fr_47 : Fr h h_30 b 367 := hf_33.wd (by omega) (by omega)
      refine z_iret hx hr dX8_stitches_24 rfl rfl (q_j (by unfold stitchesA; (repeat (first | rw [if_pos (by omega)] | rw [if_neg (by omega)])); (try rw [← eg]); (try rfl)) (by unfold stitchesA; (repeat (first | rw [if_pos (by omega)] | rw [if_neg (by omega)])); show XC h_30 b (S 0) (S 1) (S 4) (S 5) (fup (S 6) 0 ((S 6) 0 + 1)) (S 7) ∧ Fr h h_30 b 367; exact ⟨⟨F, pi, Fs, kq, N, T, hs_32, KM.eq ⟨h_34, h_35, h_36, h_37, h_38, h_39⟩ (rfl) (rfl), h_40, h_41, h_42, h_43, h_44, h_45, h_46, ⟨hR, hPR, hNn⟩, htt⟩, fr_47⟩))

set_option maxHeartbeats 4000000 in
set_option maxRecDepth 20000 in
theorem kX8_place (g : Gt) {h : AH} {b : Nat} {S : Nat → Int → Int} {k : Int} {m : Int} (hX : XR h b S) (hV : invM S) (g_k : rgI k) (g_m : rgI m) : CnJ g mX8_place 8 [.ref b, .int (iI k), .int (iI m)] h (placeA S k m).1 (QX h b (placeA S k m).2) := by
  refine Cn.mk (by decide +kernel) (Nat.le_of_ble_eq_true rfl) ?_
  intro x sz hx hr
  show Zj g x (sz, 0, 0) h 0 [(0, .ref b), (1, .int (iI k)), (2, .int (iI m))] []
  have hX0 := hX
  obtain ⟨F, pi, Fs, kq, N, T, x0, hK, hi0, hi1, htx, htr, hrb, heb, hhb, ⟨hR, hPR, hNn⟩, htt⟩ := hX
  obtain ⟨k0, k1, k2, k3, k4, k5⟩ := hK
  have hN := hV.1
  have hI := hN.1
  have hn := hI.n
  have rn := hR.n
  have h58 : 0 ≤ S 1 58 ∧ S 1 58 ≤ 8 := ⟨(hI.rg 58 (by decide)).1, hN.2.2.2.1⟩
  have h39 : 0 ≤ S 1 39 ∧ S 1 39 ≤ 6 := ⟨(hI.rg 39 (by decide)).1, hN.2.2.1⟩
  have h0 : 0 ≤ S 1 0 ∧ S 1 0 ≤ 999 := ⟨hN.2.1.2, hN.2.1.1⟩
  have hmx : ∀ i, 0 ≤ i → i < S 1 58 → inv (mixF (S 1) i) := fun i a b => (hN.2.2.2.2.1 i a b).1
  have hno : ∀ i, 0 ≤ i → i < S 1 39 → S 1 (40 + 3 * i) < 5 ∧ S 1 (40 + 3 * i + 1) ≤ 40 ∧ S 1 (40 + 3 * i + 2) ≤ 9 := fun i a b => by have q := hN.2.2.2.2.2 i a b; rw [show 41 + 3 * i = 40 + 3 * i + 1 by omega, show 42 + 3 * i = 40 + 3 * i + 2 by omega] at q; exact q
  have hTo : outR (S 2) := hV.2.1
  have hL := hV.2.2.2.1
  have htt2 := hV.2.2.2.2.1
  obtain ⟨Ft, trm⟩ := htr
  refine z_aload_n hx dX8_place_0 rfl 0 rfl ?_
  refine z_iload_n hx dX8_place_1 rfl 1 rfl ?_
  refine z_cVI (as := [.int (iI k)]) (rest := []) hx dX8_place_2 lk_X8_154 wm_X8_isCosy wv_X8_isCosy (rcv_obj hx x0 rfl) mo_X8_isCosy (kX8_isCosy g (k := k) (F := F) (N := N) (f := (S 1)) x0 ⟨k0, k1, k2, k3, k4, k5⟩ hR hI (show rgI k by omega)) (by decide) rfl rfl (Nat.le_of_ble_eq_true rfl) ?_
  refine z_ifeq_b (tgt := 18) hx dX8_place_5 (by decide)  (fun c_1 => ?_) (fun c_1 => ?_)
  ·
    refine z_aload_n hx dX8_place_18 rfl 0 rfl ?_
    refine z_bipush hx dX8_place_19 (by decide) ?_
    refine z_cVJ (as := [.int (iI (-2))]) (rest := []) hx dX8_place_21 lk_X8_88 wm_X8_bad wv_X8_bad (rcv_obj hx x0 rfl) mo_X8_bad (kX8_bad g (v := (-2)) x0) (by decide) rfl rfl (Nat.le_of_ble_eq_true rfl) (fun h_2 q_3 => ?_)
    obtain ⟨hs_4, hf_5⟩ := q_3
    have h_6 := hf_5.at (by omega) k0
    have h_7 := CM.fr k1 hf_5 (by omega)
    have h_8 := PM.fr k2 hf_5 (by omega)
    have h_9 := hf_5.at (by omega) k3
    have h_10 := hf_5.at (by omega) k4
    have h_11 := hf_5.at (by omega) k5
    have h_12 := IB.fr hi0 hf_5 (by omega)
    have h_13 := IB.fr hi1 hf_5 (by omega)
    have h_14 := TB.fr htx hf_5 (by omega)
    have h_15 := RB.fr hrb hf_5 (by omega)
    have h_16 := EB.fr heb hf_5 (by omega)
    have h_17 := HB.fr hhb hf_5 (by omega)
    have h_18 := CM.fr trm hf_5 (by omega)
    have fr_19 : Fr h h_2 b 367 := hf_5.wd (by omega) (by omega)
    refine z_iret hx hr dX8_place_24 rfl rfl (q_j (by unfold placeA; (repeat (first | rw [if_pos (by omega)] | rw [if_neg (by omega)])); (try first | exact e24 | exact e24.symm | rfl)) (by unfold placeA; (repeat (first | rw [if_pos (by omega)] | rw [if_neg (by omega)])); show XC h_2 b (S 0) (S 1) (S 4) (S 5) (fup (S 6) 0 ((S 6) 0 + 1)) (S 7) ∧ Fr h h_2 b 367; exact ⟨⟨F, pi, Fs, kq, N, T, hs_4, KM.eq ⟨h_6, h_7, h_8, h_9, h_10, h_11⟩ (rfl) (rfl), h_12, h_13, h_14, ⟨_, h_18⟩, h_15, h_16, h_17, ⟨hR, hPR, hNn⟩, htt⟩, fr_19⟩))
  ·
    refine z_iload_n hx dX8_place_8 rfl 2 rfl ?_
    refine z_iconst hx dX8_place_9 ?_
    refine z_bipush hx dX8_place_10 (by decide) ?_
    refine z_cSI (as := [.int (iI m), .int (iI 0), .int (iI 20)]) (rest := []) hx dX8_place_12 lk_X8_80 wt_X8_isIn mo_X8_isIn (kX8_isIn g (a := m) (b := 0) (c := 20) (by omega) (by omega) (by omega)) (by decide) rfl rfl (Nat.le_of_ble_eq_true rfl) ?_
    refine z_ifne_b (tgt := 25) hx dX8_place_15 (by decide)  (fun c_20 => ?_) (fun c_20 => ?_)
    ·
      refine z_iconst hx dX8_place_25 ?_
      refine z_istore_n hx dX8_place_26 rfl (by decide) [1, 2, 3, 0] (lv' := [(0, .ref b), (1, .int (iI k)), (2, .int (iI m)), (3, .int (iI 0))]) rfl ?_
      refine z_bipush hx dX8_place_27 (by decide) ?_
      refine z_istore hx dX8_place_29 (by decide) [1, 2, 3, 4, 0] (lv' := [(0, .ref b), (1, .int (iI k)), (2, .int (iI m)), (3, .int (iI 0)), (4, .int (iI 7))]) rfl ?_
      refine z_iconst hx dX8_place_31 ?_
      refine z_istore hx dX8_place_32 (by decide) [1, 2, 3, 4, 5, 0] (lv' := [(0, .ref b), (1, .int (iI k)), (2, .int (iI m)), (3, .int (iI 0)), (4, .int (iI 7)), (5, .int (iI 0))]) rfl ?_
      refine z_iconst hx dX8_place_34 ?_
      refine z_istore hx dX8_place_35 (by decide) [1, 2, 3, 4, 5, 6, 0] (lv' := [(0, .ref b), (1, .int (iI k)), (2, .int (iI m)), (3, .int (iI 0)), (4, .int (iI 7)), (5, .int (iI 0)), (6, .int (iI 0))]) rfl ?_
      have hL_21 : ∀ (mm : Nat) (v3 : Int) (v4 : Int) (v5 : Int) (v6 : Int) (gF : Nat → Int → Int) (a3 : Int) (a4 : Int) (g1 : Int → Int) (h_22 : AH), (0 ≤ v6 ∧ v6 ≤ 24) → (0 ≤ v3 ∧ v3 ≤ 23) → ((v6 = 0 ∧ a3 = -1 ∧ v3 = 0 ∧ v4 = 7 ∧ v5 = 0) ∨ (1 ≤ v6 ∧ a3 = v3 ∧ a4 = 10 * v4 - v5 ∧ (0 ≤ v4 ∧ v4 ≤ 6) ∧ 0 ≤ v5 ∧ v5 ≤ 6)) → (itI v6 (plG (S 1) k m) (-1, 0, S 2) = (a3, a4, g1)) → (outR g1) → (h_22 b = some (.inr (.inr (0, [.ref (b + 1), .ref (b + 97), .ref (b + 193), .ref (b + 289), .ref (b + 291), .ref (b + 301), .ref (b + 313), .ref (b + 366), .long (lI (S 0 6)), .long (lI (S 0 7)), .int (iI (S 6 0)), .int (iI (S 6 1)), .int (iI (S 6 2))])))) → (h_22 (b + 1) = some (.inr (.inr (3, [.ref ((b + 1) + 1), .ref ((b + 1) + 11), .ref ((b + 1) + 93), .ref ((b + 1) + 94), .ref ((b + 1) + 95), .int (iI (S 1 39)), .int (iI kq)])))) → (CM h_22 ((b + 1) + 1) F) → (PM h_22 ((b + 1) + 11) pi Fs (S 1 58)) → (h_22 ((b + 1) + 93) = some (.inl (0, 6, N 0))) → (h_22 ((b + 1) + 94) = some (.inl (0, 6, N 1))) → (h_22 ((b + 1) + 95) = some (.inl (0, 6, N 2))) → (IB h_22 (b + 97) (S 5 0) (img (S 4) 0)) → (IB h_22 (b + 193) (S 5 1) (img (S 4) 1)) → (TB h_22 (b + 289) T (S 0 8)) → (RB h_22 (b + 301)) → (EB h_22 (b + 313)) → (HB h_22 (b + 366)) → (CM h_22 (b + 291) gF) → (Fr h h_22 b 367) → (24 : Int) - v6 < (mm : Int) → Zj g x (sz, 0, 0) h_22 37 [(0, .ref b), (1, .int (iI k)), (2, .int (iI m)), (3, .int (iI v3)), (4, .int (iI v4)), (5, .int (iI v5)), (6, .int (iI v6))] [] := by
        intro mm
        induction mm with
        | zero => intro v3 v4 v5 v6 gF a3 a4 g1 h_22 kv k3 hs eg ho hk_23 hk_24 hk_25 hk_26 hk_27 hk_28 hk_29 hk_30 hk_31 hk_32 hk_33 hk_34 hk_35 hk_36 fr_37 hm; exfalso; omega
        | succ mm ih =>
          intro v3 v4 v5 v6 gF a3 a4 g1 h_22 kv k3 hs eg ho hk_23 hk_24 hk_25 hk_26 hk_27 hk_28 hk_29 hk_30 hk_31 hk_32 hk_33 hk_34 hk_35 hk_36 fr_37 hm
          have ih_38 := ih; clear ih
          have icp : inv (cpn (S 1) g1) := inv_cpn hI ho
          have hRc : RLC F (cpn (S 1) g1) := RLC_ext hR hn (fun j x y => cpn_in ⟨x, by omega⟩)
          have t26 : cpn (S 1) g1 26 = S 1 26 := cpn_in (by decide)
          refine z_iload hx dX8_place_37 6 rfl ?_
          refine z_bipush hx dX8_place_39 (by decide) ?_
          refine z_icmp_ge (tgt := 132) hx dX8_place_41 (by decide) (by omega) (by decide) (fun c_39 => ?_) (fun c_39 => ?_)
          ·
            have e24 : (itI 24 (plG (S 1) k m) (-1, 0, S 2)).1 = v3 := by rw [show (24 : Int) = v6 by omega, eg]; omega
            refine z_iload_n hx dX8_place_132 rfl 3 rfl ?_
            refine z_iret hx hr dX8_place_133 rfl rfl (q_j (by unfold placeA; (repeat (first | rw [if_pos (by omega)] | rw [if_neg (by omega)])); (try first | exact e24 | exact e24.symm | rfl)) (by unfold placeA; (repeat (first | rw [if_pos (by omega)] | rw [if_neg (by omega)])); show XC h_22 b (S 0) (S 1) (S 4) (S 5) (S 6) (S 7) ∧ Fr h h_22 b 367; exact ⟨⟨F, pi, Fs, kq, N, T, hk_23, KM.eq ⟨hk_24, hk_25, hk_26, hk_27, hk_28, hk_29⟩ (rfl) (rfl), hk_30, hk_31, hk_32, ⟨_, hk_36⟩, hk_33, hk_34, hk_35, ⟨hR, hPR, hNn⟩, htt⟩, fr_37⟩))
          ·
            refine z_aload_n hx dX8_place_44 rfl 0 rfl ?_
            refine z_get hx dX8_place_45 fl_X8_32 hk_23 rfl ?_
            refine z_aload_n hx dX8_place_48 rfl 0 rfl ?_
            refine z_get hx dX8_place_49 fl_X8_10 hk_23 rfl ?_
            refine z_get hx dX8_place_52 fl_X8_71 hk_24 rfl ?_
            refine z_cVV (as := [.ref ((b + 1) + 1)]) (rest := []) hx dX8_place_55 lk_X8_135 wm_X1_becomes wv_X1_becomes (rcv_obj hx (And.left hk_36) rfl) mo_X1_becomes (kX1_becomes g (F := gF) (G := F) (f := (cpn (S 1) g1)) hk_36 hk_25 hRc icp (by omega)) (by decide) rfl rfl (Nat.le_of_ble_eq_true rfl) (fun h_40 q_41 => ?_)
            obtain ⟨F_44, hC_42, hR_45, hf_43⟩ := q_41
            have h_46 := hf_43.at (by omega) hk_23
            have h_47 := hf_43.at (by omega) hk_24
            have h_48 := CM.fr hk_25 hf_43 (by omega)
            have h_49 := PM.fr hk_26 hf_43 (by omega)
            have h_50 := hf_43.at (by omega) hk_27
            have h_51 := hf_43.at (by omega) hk_28
            have h_52 := hf_43.at (by omega) hk_29
            have h_53 := IB.fr hk_30 hf_43 (by omega)
            have h_54 := IB.fr hk_31 hf_43 (by omega)
            have h_55 := TB.fr hk_32 hf_43 (by omega)
            have h_56 := RB.fr hk_33 hf_43 (by omega)
            have h_57 := EB.fr hk_34 hf_43 (by omega)
            have h_58 := HB.fr hk_35 hf_43 (by omega)
            have fr_59 := fr_37.tr (hf_43.wd (by omega) (by omega))
            refine z_aload_n hx dX8_place_58 rfl 0 rfl ?_
            refine z_get hx dX8_place_59 fl_X8_32 h_46 rfl ?_
            refine z_iload_n hx dX8_place_62 rfl 1 rfl ?_
            refine z_iload hx dX8_place_63 6 rfl ?_
            refine z_cVV (as := [.int (iI k), .int (iI v6)]) (rest := []) hx dX8_place_65 lk_X8_173 wm_X1_moveCosy wv_X1_moveCosy (rcv_obj hx (And.left hC_42) rfl) mo_X1_moveCosy (kX1_moveCosy g (F := F_44) (f := (cpn (S 1) g1)) (k := k) (ce9 := v6) hC_42 hR_45 icp  (show 0 ≤ k ∧ k < (cpn (S 1) g1) 26 by omega) (show 0 ≤ v6 ∧ v6 < 24 by omega)) (by decide) rfl rfl (Nat.le_of_ble_eq_true rfl) (fun h_60 q_61 => ?_)
            obtain ⟨F_64, hC_62, hR_65, hf_63⟩ := q_61
            obtain ⟨f_67, ef_67⟩ : ∃ G : Int → Int, G = brt (cpn (S 1) g1) k v6 := ⟨_, rfl⟩
            rw [← ef_67] at hR_65
            have iv_68 := inv_brt icp (k := k) (c := v6) (by omega) (by omega)
            rw [← ef_67] at iv_68
            have h_69 := hf_63.at (by omega) h_46
            have h_70 := hf_63.at (by omega) h_47
            have h_71 := CM.fr h_48 hf_63 (by omega)
            have h_72 := PM.fr h_49 hf_63 (by omega)
            have h_73 := hf_63.at (by omega) h_50
            have h_74 := hf_63.at (by omega) h_51
            have h_75 := hf_63.at (by omega) h_52
            have h_76 := IB.fr h_53 hf_63 (by omega)
            have h_77 := IB.fr h_54 hf_63 (by omega)
            have h_78 := TB.fr h_55 hf_63 (by omega)
            have h_79 := RB.fr h_56 hf_63 (by omega)
            have h_80 := EB.fr h_57 hf_63 (by omega)
            have h_81 := HB.fr h_58 hf_63 (by omega)
            have fr_82 := fr_59.tr (hf_63.wd (by omega) (by omega))
            refine z_aload_n hx dX8_place_68 rfl 0 rfl ?_
            refine z_get hx dX8_place_69 fl_X8_32 h_69 rfl ?_
            refine z_iload_n hx dX8_place_72 rfl 2 rfl ?_
            refine z_cVV (as := [.int (iI m)]) (rest := []) hx dX8_place_73 lk_X8_148 wm_X1_passHours wv_X1_passHours (rcv_obj hx (And.left hC_62) rfl) mo_X1_passHours (kX1_passHours g (F := F_64) (f := f_67) (m := m) hC_62 hR_65 iv_68.1  (show 0 ≤ m ∧ m ≤ 100 by omega)) (by decide) rfl rfl (Nat.le_of_ble_eq_true rfl) (fun h_83 q_84 => ?_)
            obtain ⟨F_87, hC_85, hR_88, hf_86⟩ := q_84
            obtain ⟨f_90, ef_90⟩ : ∃ G : Int → Int, G = gon m f_67 := ⟨_, rfl⟩
            rw [← ef_90] at hR_88
            have iv_91 := inv_gon iv_68.1 (m := m) (by omega)
            rw [← ef_90] at iv_91
            have h_92 := hf_86.at (by omega) h_69
            have h_93 := hf_86.at (by omega) h_70
            have h_94 := CM.fr h_71 hf_86 (by omega)
            have h_95 := PM.fr h_72 hf_86 (by omega)
            have h_96 := hf_86.at (by omega) h_73
            have h_97 := hf_86.at (by omega) h_74
            have h_98 := hf_86.at (by omega) h_75
            have h_99 := IB.fr h_76 hf_86 (by omega)
            have h_100 := IB.fr h_77 hf_86 (by omega)
            have h_101 := TB.fr h_78 hf_86 (by omega)
            have h_102 := RB.fr h_79 hf_86 (by omega)
            have h_103 := EB.fr h_80 hf_86 (by omega)
            have h_104 := HB.fr h_81 hf_86 (by omega)
            have fr_105 := fr_82.tr (hf_86.wd (by omega) (by omega))
            have eT : f_90 = plT (S 1) k m v6 g1 := by rw [ef_90, ef_67]; rfl
            have oT : outR f_90 := outR_cfx ho iv_91.1
            have ht1 := pct_rg iv_91.1
            have ht2 := una_rg iv_91.1
            refine z_aload_n hx dX8_place_76 rfl 0 rfl ?_
            refine z_get hx dX8_place_77 fl_X8_32 h_92 rfl ?_
            refine z_cVI (as := []) (rest := []) hx dX8_place_80 lk_X8_151 wm_X1_manyTaken wv_X1_manyTaken (rcv_obj hx (And.left hC_85) rfl) mo_X1_manyTaken (kX1_manyTaken g (F := F_87) (f := f_90)  hC_85 hR_88 iv_91.1 ) (by decide) rfl rfl (Nat.le_of_ble_eq_true rfl) ?_
            have f_106 := popc_rg (v := tkn f_90)
            have f_107 := tkn_rg iv_91.1
            refine z_istore hx dX8_place_83 (by decide) [1, 2, 3, 4, 5, 6, 7, 0] (lv' := [(0, .ref b), (1, .int (iI k)), (2, .int (iI m)), (3, .int (iI v3)), (4, .int (iI v4)), (5, .int (iI v5)), (6, .int (iI v6)), (7, .int (iI (popc (tkn f_90))))]) rfl ?_
            refine z_aload_n hx dX8_place_85 rfl 0 rfl ?_
            refine z_get hx dX8_place_86 fl_X8_32 h_92 rfl ?_
            refine z_cVI (as := []) (rest := []) hx dX8_place_89 lk_X8_206 wm_X1_manyUnder_ wv_X1_manyUnder_ (rcv_obj hx (And.left hC_85) rfl) mo_X1_manyUnder_ (kX1_manyUnder_ g (F := F_87) (f := f_90)  hC_85 hR_88 iv_91.1 ) (by decide) rfl rfl (Nat.le_of_ble_eq_true rfl) ?_
            have f_108 := una_rg iv_91.1
            refine z_istore hx dX8_place_92 (by decide) [1, 2, 3, 4, 5, 6, 7, 8, 0] (lv' := [(0, .ref b), (1, .int (iI k)), (2, .int (iI m)), (3, .int (iI v3)), (4, .int (iI v4)), (5, .int (iI v5)), (6, .int (iI v6)), (7, .int (iI (popc (tkn f_90)))), (8, .int (iI (una f_90)))]) rfl ?_
            refine z_iload hx dX8_place_94 7 rfl ?_
            refine z_iload hx dX8_place_96 4 rfl ?_
            refine z_icmp_lt (tgt := 115) hx dX8_place_98 (by decide) (by omega) (by omega) (fun c_109 => ?_) (fun c_109 => ?_)
            ·
              refine z_iload hx dX8_place_115 6 rfl ?_
              refine z_istore_n hx dX8_place_117 rfl (by decide) [1, 2, 3, 0, 4, 5, 6, 7, 8] (lv' := [(0, .ref b), (1, .int (iI k)), (2, .int (iI m)), (3, .int (iI v6)), (4, .int (iI v4)), (5, .int (iI v5)), (6, .int (iI v6)), (7, .int (iI (popc (tkn f_90)))), (8, .int (iI (una f_90)))]) rfl ?_
              refine z_iload hx dX8_place_118 7 rfl ?_
              refine z_istore hx dX8_place_120 (by decide) [1, 2, 3, 4, 0, 5, 6, 7, 8] (lv' := [(0, .ref b), (1, .int (iI k)), (2, .int (iI m)), (3, .int (iI v6)), (4, .int (iI (popc (tkn f_90)))), (5, .int (iI v5)), (6, .int (iI v6)), (7, .int (iI (popc (tkn f_90)))), (8, .int (iI (una f_90)))]) rfl ?_
              refine z_iload hx dX8_place_122 8 rfl ?_
              refine z_istore hx dX8_place_124 (by decide) [1, 2, 3, 4, 5, 0, 6, 7, 8] (lv' := [(0, .ref b), (1, .int (iI k)), (2, .int (iI m)), (3, .int (iI v6)), (4, .int (iI (popc (tkn f_90)))), (5, .int (iI (una f_90))), (6, .int (iI v6)), (7, .int (iI (popc (tkn f_90)))), (8, .int (iI (una f_90)))]) rfl ?_
              refine z_iinc hx dX8_place_126 (by decide) 6 rfl [1, 2, 3, 4, 5, 6, 0, 7, 8] (lv' := [(0, .ref b), (1, .int (iI k)), (2, .int (iI m)), (3, .int (iI v6)), (4, .int (iI (popc (tkn f_90)))), (5, .int (iI (una f_90))), (6, .int (iI (v6 + 1))), (7, .int (iI (popc (tkn f_90)))), (8, .int (iI (una f_90)))]) rfl ?_
              refine z_goto (tgt := 37) hx dX8_place_129 (by decide) ?_
              refine z_sub [0, 1, 2, 3, 4, 5, 6] (lv' := [(0, .ref b), (1, .int (iI k)), (2, .int (iI m)), (3, .int (iI v6)), (4, .int (iI (popc (tkn f_90)))), (5, .int (iI (una f_90))), (6, .int (iI (v6 + 1)))]) rfl ?_
              exact ih_38 _ _ _ _ F_87 v6 (10 * popc (tkn f_90) - una f_90) f_90 _ (by omega) (by omega) (by omega) (by rw [itI_s _ _ (by omega), eg]; unfold plG; dsimp only; rw [← eT]; first | rw [if_pos (by omega)] | rw [if_neg (by omega)] | (exfalso; omega)) (by exact oT) h_92 h_93 h_94 h_95 h_96 h_97 h_98 h_99 h_100 h_101 h_102 h_103 h_104 hC_85 fr_105 (by omega)
            ·
              refine z_iload hx dX8_place_101 7 rfl ?_
              refine z_iload hx dX8_place_103 4 rfl ?_
              refine z_icmp_ne (tgt := 126) hx dX8_place_105 (by decide) (by omega) (by omega) (fun c_110 => ?_) (fun c_110 => ?_)
              ·
                refine z_iinc hx dX8_place_126 (by decide) 6 rfl [1, 2, 3, 4, 5, 6, 0, 7, 8] (lv' := [(0, .ref b), (1, .int (iI k)), (2, .int (iI m)), (3, .int (iI v3)), (4, .int (iI v4)), (5, .int (iI v5)), (6, .int (iI (v6 + 1))), (7, .int (iI (popc (tkn f_90)))), (8, .int (iI (una f_90)))]) rfl ?_
                refine z_goto (tgt := 37) hx dX8_place_129 (by decide) ?_
                refine z_sub [0, 1, 2, 3, 4, 5, 6] (lv' := [(0, .ref b), (1, .int (iI k)), (2, .int (iI m)), (3, .int (iI v3)), (4, .int (iI v4)), (5, .int (iI v5)), (6, .int (iI (v6 + 1)))]) rfl ?_
                exact ih_38 _ _ _ _ F_87 a3 a4 f_90 _ (by omega) (by omega) (by omega) (by rw [itI_s _ _ (by omega), eg]; unfold plG; dsimp only; rw [← eT]; first | rw [if_pos (by omega)] | rw [if_neg (by omega)] | (exfalso; omega)) (by exact oT) h_92 h_93 h_94 h_95 h_96 h_97 h_98 h_99 h_100 h_101 h_102 h_103 h_104 hC_85 fr_105 (by omega)
              ·
                refine z_iload hx dX8_place_108 8 rfl ?_
                refine z_iload hx dX8_place_110 5 rfl ?_
                refine z_icmp_le (tgt := 126) hx dX8_place_112 (by decide) (by omega) (by omega) (fun c_111 => ?_) (fun c_111 => ?_)
                ·
                  refine z_iinc hx dX8_place_126 (by decide) 6 rfl [1, 2, 3, 4, 5, 6, 0, 7, 8] (lv' := [(0, .ref b), (1, .int (iI k)), (2, .int (iI m)), (3, .int (iI v3)), (4, .int (iI v4)), (5, .int (iI v5)), (6, .int (iI (v6 + 1))), (7, .int (iI (popc (tkn f_90)))), (8, .int (iI (una f_90)))]) rfl ?_
                  refine z_goto (tgt := 37) hx dX8_place_129 (by decide) ?_
                  refine z_sub [0, 1, 2, 3, 4, 5, 6] (lv' := [(0, .ref b), (1, .int (iI k)), (2, .int (iI m)), (3, .int (iI v3)), (4, .int (iI v4)), (5, .int (iI v5)), (6, .int (iI (v6 + 1)))]) rfl ?_
                  exact ih_38 _ _ _ _ F_87 a3 a4 f_90 _ (by omega) (by omega) (by omega) (by rw [itI_s _ _ (by omega), eg]; unfold plG; dsimp only; rw [← eT]; first | rw [if_pos (by omega)] | rw [if_neg (by omega)] | (exfalso; omega)) (by exact oT) h_92 h_93 h_94 h_95 h_96 h_97 h_98 h_99 h_100 h_101 h_102 h_103 h_104 hC_85 fr_105 (by omega)
                ·
                  refine z_iload hx dX8_place_115 6 rfl ?_
                  refine z_istore_n hx dX8_place_117 rfl (by decide) [1, 2, 3, 0, 4, 5, 6, 7, 8] (lv' := [(0, .ref b), (1, .int (iI k)), (2, .int (iI m)), (3, .int (iI v6)), (4, .int (iI v4)), (5, .int (iI v5)), (6, .int (iI v6)), (7, .int (iI (popc (tkn f_90)))), (8, .int (iI (una f_90)))]) rfl ?_
                  refine z_iload hx dX8_place_118 7 rfl ?_
                  refine z_istore hx dX8_place_120 (by decide) [1, 2, 3, 4, 0, 5, 6, 7, 8] (lv' := [(0, .ref b), (1, .int (iI k)), (2, .int (iI m)), (3, .int (iI v6)), (4, .int (iI (popc (tkn f_90)))), (5, .int (iI v5)), (6, .int (iI v6)), (7, .int (iI (popc (tkn f_90)))), (8, .int (iI (una f_90)))]) rfl ?_
                  refine z_iload hx dX8_place_122 8 rfl ?_
                  refine z_istore hx dX8_place_124 (by decide) [1, 2, 3, 4, 5, 0, 6, 7, 8] (lv' := [(0, .ref b), (1, .int (iI k)), (2, .int (iI m)), (3, .int (iI v6)), (4, .int (iI (popc (tkn f_90)))), (5, .int (iI (una f_90))), (6, .int (iI v6)), (7, .int (iI (popc (tkn f_90)))), (8, .int (iI (una f_90)))]) rfl ?_
                  refine z_iinc hx dX8_place_126 (by decide) 6 rfl [1, 2, 3, 4, 5, 6, 0, 7, 8] (lv' := [(0, .ref b), (1, .int (iI k)), (2, .int (iI m)), (3, .int (iI v6)), (4, .int (iI (popc (tkn f_90)))), (5, .int (iI (una f_90))), (6, .int (iI (v6 + 1))), (7, .int (iI (popc (tkn f_90)))), (8, .int (iI (una f_90)))]) rfl ?_
                  refine z_goto (tgt := 37) hx dX8_place_129 (by decide) ?_
                  refine z_sub [0, 1, 2, 3, 4, 5, 6] (lv' := [(0, .ref b), (1, .int (iI k)), (2, .int (iI m)), (3, .int (iI v6)), (4, .int (iI (popc (tkn f_90)))), (5, .int (iI (una f_90))), (6, .int (iI (v6 + 1)))]) rfl ?_
                  exact ih_38 _ _ _ _ F_87 v6 (10 * popc (tkn f_90) - una f_90) f_90 _ (by omega) (by omega) (by omega) (by rw [itI_s _ _ (by omega), eg]; unfold plG; dsimp only; rw [← eT]; first | rw [if_pos (by omega)] | rw [if_neg (by omega)] | (exfalso; omega)) (by exact oT) h_92 h_93 h_94 h_95 h_96 h_97 h_98 h_99 h_100 h_101 h_102 h_103 h_104 hC_85 fr_105 (by omega)
      exact hL_21 (((24 : Int) - 0) + 1 : Int).toNat _ _ _ _ Ft (-1) 0 (S 2) _ (by omega) (by omega) (by omega) (by rfl) (by exact hTo) x0 k0 k1 k2 k3 k4 k5 hi0 hi1 htx hrb heb hhb trm Fr.rf (by omega)
    ·
      refine z_aload_n hx dX8_place_18 rfl 0 rfl ?_
      refine z_bipush hx dX8_place_19 (by decide) ?_
      refine z_cVJ (as := [.int (iI (-2))]) (rest := []) hx dX8_place_21 lk_X8_88 wm_X8_bad wv_X8_bad (rcv_obj hx x0 rfl) mo_X8_bad (kX8_bad g (v := (-2)) x0) (by decide) rfl rfl (Nat.le_of_ble_eq_true rfl) (fun h_112 q_113 => ?_)
      obtain ⟨hs_114, hf_115⟩ := q_113
      have h_116 := hf_115.at (by omega) k0
      have h_117 := CM.fr k1 hf_115 (by omega)
      have h_118 := PM.fr k2 hf_115 (by omega)
      have h_119 := hf_115.at (by omega) k3
      have h_120 := hf_115.at (by omega) k4
      have h_121 := hf_115.at (by omega) k5
      have h_122 := IB.fr hi0 hf_115 (by omega)
      have h_123 := IB.fr hi1 hf_115 (by omega)
      have h_124 := TB.fr htx hf_115 (by omega)
      have h_125 := RB.fr hrb hf_115 (by omega)
      have h_126 := EB.fr heb hf_115 (by omega)
      have h_127 := HB.fr hhb hf_115 (by omega)
      have h_128 := CM.fr trm hf_115 (by omega)
      have fr_129 : Fr h h_112 b 367 := hf_115.wd (by omega) (by omega)
      refine z_iret hx hr dX8_place_24 rfl rfl (q_j (by unfold placeA; (repeat (first | rw [if_pos (by omega)] | rw [if_neg (by omega)])); (try first | exact e24 | exact e24.symm | rfl)) (by unfold placeA; (repeat (first | rw [if_pos (by omega)] | rw [if_neg (by omega)])); show XC h_112 b (S 0) (S 1) (S 4) (S 5) (fup (S 6) 0 ((S 6) 0 + 1)) (S 7) ∧ Fr h h_112 b 367; exact ⟨⟨F, pi, Fs, kq, N, T, hs_114, KM.eq ⟨h_116, h_117, h_118, h_119, h_120, h_121⟩ (rfl) (rfl), h_122, h_123, h_124, ⟨_, h_128⟩, h_125, h_126, h_127, ⟨hR, hPR, hNn⟩, htt⟩, fr_129⟩))

set_option maxHeartbeats 4000000 in
set_option maxRecDepth 20000 in
theorem kX8_mostAlike (g : Gt) {h : AH} {b : Nat} {la lb c0 c1 c2 : Int} {F : Nat → Int → Int} {pi : Int → Int} {Fs : Int → Nat → Int → Int} {m n kq : Int} {N : Nat → Int → Int} {f : Int → Int} {st k w : Int} {hf : Int → Int} (x0 : XO h b la lb c0 c1 c2) (hK : KM h (b + 1) F pi Fs m n kq N) (hR : RLC F f) (hI : inv f) (hh : h (b + 366) = some (.inl (0, 6, hf))) (hst : 0 ≤ st ∧ st < 64) (hk : 0 ≤ k ∧ k < f 26) (hw : 0 ≤ w ∧ w ≤ 40) : CnJ g mX8_mostAlike 4 [.ref b, .int (iI st), .int (iI k), .int (iI w)] h (mosA st (f (32 + k)) w) (fun h' => (∃ g9 : Int → Int, h' (b + 366) = some (.inl (0, 6, g9))) ∧ Fr h h' (b + 366) 1) := by
  refine Cn.mk (by decide +kernel) (Nat.le_of_ble_eq_true rfl) ?_
  intro x sz hx hr
  show Zj g x (sz, 0, 0) h 0 [(0, .ref b), (1, .int (iI st)), (2, .int (iI k)), (3, .int (iI w))] []
  obtain ⟨k0, k1, k2, k3, k4, k5⟩ := hK
  have hn := hI.n
  have rn := hR.n
  refine z_iconst hx dX8_mostAlike_0 ?_
  refine z_istore hx dX8_mostAlike_1 (by decide) [1, 2, 3, 4, 0] (lv' := [(0, .ref b), (1, .int (iI st)), (2, .int (iI k)), (3, .int (iI w)), (4, .int (iI 0))]) rfl ?_
  have hL_1 : ∀ (mm : Nat) (v4 : Int) (gh : Int → Int) (h_2 : AH), (0 ≤ v4 ∧ v4 ≤ 6) → (∀ q, 0 ≤ q → q < v4 → gh q = hol q (f (32 + k)) w) → (h_2 b = some (.inr (.inr (0, [.ref (b + 1), .ref (b + 97), .ref (b + 193), .ref (b + 289), .ref (b + 291), .ref (b + 301), .ref (b + 313), .ref (b + 366), .long (lI la), .long (lI lb), .int (iI c0), .int (iI c1), .int (iI c2)])))) → (h_2 (b + 1) = some (.inr (.inr (3, [.ref ((b + 1) + 1), .ref ((b + 1) + 11), .ref ((b + 1) + 93), .ref ((b + 1) + 94), .ref ((b + 1) + 95), .int (iI n), .int (iI kq)])))) → (CM h_2 ((b + 1) + 1) F) → (PM h_2 ((b + 1) + 11) pi Fs (m)) → (h_2 ((b + 1) + 93) = some (.inl (0, 6, N 0))) → (h_2 ((b + 1) + 94) = some (.inl (0, 6, N 1))) → (h_2 ((b + 1) + 95) = some (.inl (0, 6, N 2))) → (h_2 (b + 366) = some (.inl (0, 6, gh))) → (Fr h h_2 (b + 366) 1) → (6 : Int) - v4 < (mm : Int) → Zj g x (sz, 0, 0) h_2 3 [(0, .ref b), (1, .int (iI st)), (2, .int (iI k)), (3, .int (iI w)), (4, .int (iI v4))] [] := by
    intro mm
    induction mm with
    | zero => intro v4 gh h_2 kv eh hk_3 hk_4 hk_5 hk_6 hk_7 hk_8 hk_9 hk_10 fr_11 hm; exfalso; omega
    | succ mm ih =>
      intro v4 gh h_2 kv eh hk_3 hk_4 hk_5 hk_6 hk_7 hk_8 hk_9 hk_10 fr_11 hm
      have ih_12 := ih; clear ih
      refine z_iload hx dX8_mostAlike_3 4 rfl ?_
      refine z_bipush hx dX8_mostAlike_5 (by decide) ?_
      refine z_icmp_ge (tgt := 31) hx dX8_mostAlike_7 (by decide) (by omega) (by decide) (fun c_13 => ?_) (fun c_13 => ?_)
      ·
        have v46 : v4 = 6 := by omega
        subst v46
        refine z_iconst hx dX8_mostAlike_31 ?_
        refine z_istore hx dX8_mostAlike_32 (by decide) [1, 2, 3, 4, 0] (lv' := [(0, .ref b), (1, .int (iI st)), (2, .int (iI k)), (3, .int (iI w)), (4, .int (iI 0))]) rfl ?_
        refine z_iconst hx dX8_mostAlike_34 ?_
        refine z_istore hx dX8_mostAlike_35 (by decide) [1, 2, 3, 4, 5, 0] (lv' := [(0, .ref b), (1, .int (iI st)), (2, .int (iI k)), (3, .int (iI w)), (4, .int (iI 0)), (5, .int (iI 0))]) rfl ?_
        have hL_14 : ∀ (mm : Nat) (w4 : Int) (w5 : Int), (0 ≤ w5 ∧ w5 ≤ 6) → (w4 = mxN (cntB st (f (32 + k)) w) w5) → (0 ≤ w4 ∧ w4 ≤ 6) → (6 : Int) - w5 < (mm : Int) → Zj g x (sz, 0, 0) h_2 37 [(0, .ref b), (1, .int (iI st)), (2, .int (iI k)), (3, .int (iI w)), (4, .int (iI w4)), (5, .int (iI w5))] [] := by
          intro mm
          induction mm with
          | zero => intro w4 w5 kw e4 kq4 hm; exfalso; omega
          | succ mm ih =>
            intro w4 w5 kw e4 kq4 hm
            have ih_15 := ih; clear ih
            refine z_iload hx dX8_mostAlike_37 5 rfl ?_
            refine z_bipush hx dX8_mostAlike_39 (by decide) ?_
            refine z_icmp_ge (tgt := 108) hx dX8_mostAlike_41 (by decide) (by omega) (by decide) (fun c_16 => ?_) (fun c_16 => ?_)
            ·
              refine z_iload hx dX8_mostAlike_108 4 rfl ?_
              refine z_iret hx hr dX8_mostAlike_110 rfl rfl (q_j (Q := (fun h' => (∃ g9 : Int → Int, h' (b + 366) = some (.inl (0, 6, g9))) ∧ Fr h h' (b + 366) 1)) (by rw [e4, show w5 = 6 by omega]; exact mos_eq _ _ _) ⟨⟨_, hk_10⟩, fr_11⟩)
            ·
              refine z_iconst hx dX8_mostAlike_44 ?_
              refine z_istore hx dX8_mostAlike_45 (by decide) [1, 2, 3, 4, 5, 6, 0] (lv' := [(0, .ref b), (1, .int (iI st)), (2, .int (iI k)), (3, .int (iI w)), (4, .int (iI w4)), (5, .int (iI w5)), (6, .int (iI 0))]) rfl ?_
              refine z_iconst hx dX8_mostAlike_47 ?_
              refine z_istore hx dX8_mostAlike_48 (by decide) [1, 2, 3, 4, 5, 6, 7, 0] (lv' := [(0, .ref b), (1, .int (iI st)), (2, .int (iI k)), (3, .int (iI w)), (4, .int (iI w4)), (5, .int (iI w5)), (6, .int (iI 0)), (7, .int (iI 0))]) rfl ?_
              have hL_17 : ∀ (mm : Nat) (u6 : Int) (u7 : Int), (0 ≤ u7 ∧ u7 ≤ 6) → (u6 = cnI (cbP st (f (32 + k)) w w5) u7) → (6 : Int) - u7 < (mm : Int) → Zj g x (sz, 0, 0) h_2 50 [(0, .ref b), (1, .int (iI st)), (2, .int (iI k)), (3, .int (iI w)), (4, .int (iI w4)), (5, .int (iI w5)), (6, .int (iI u6)), (7, .int (iI u7))] [] := by
                intro mm
                induction mm with
                | zero => intro u6 u7 ku e6 hm; exfalso; omega
                | succ mm ih =>
                  intro u6 u7 ku e6 hm
                  have ih_18 := ih; clear ih
                  have hb7 := bit_rg (p := u7) hst
                  have hc6 := cnI_rg (cbP st (f (32 + k)) w w5) (n := u7) (by omega)
                  rw [← e6] at hc6
                  refine z_iload hx dX8_mostAlike_50 7 rfl ?_
                  refine z_bipush hx dX8_mostAlike_52 (by decide) ?_
                  refine z_icmp_ge (tgt := 93) hx dX8_mostAlike_54 (by decide) (by omega) (by decide) (fun c_19 => ?_) (fun c_19 => ?_)
                  ·
                    have eL : cntB st (f (32 + k)) w w5 = u6 := by rw [e6, show u7 = 6 by omega]; rfl
                    refine z_iload hx dX8_mostAlike_93 4 rfl ?_
                    refine z_iload hx dX8_mostAlike_95 6 rfl ?_
                    refine z_mmax hx dX8_mostAlike_97 wk_X8_160 (by omega) (by omega) (by decide) (Nat.le_of_ble_eq_true rfl) ?_
                    have f_20 := mx_c w4 u6
                    refine z_istore hx dX8_mostAlike_100 (by decide) [1, 2, 3, 4, 0, 5, 6, 7] (lv' := [(0, .ref b), (1, .int (iI st)), (2, .int (iI k)), (3, .int (iI w)), (4, .int (iI (mxI w4 u6))), (5, .int (iI w5)), (6, .int (iI u6)), (7, .int (iI u7))]) rfl ?_
                    refine z_iinc hx dX8_mostAlike_102 (by decide) 5 rfl [1, 2, 3, 4, 5, 0, 6, 7] (lv' := [(0, .ref b), (1, .int (iI st)), (2, .int (iI k)), (3, .int (iI w)), (4, .int (iI (mxI w4 u6))), (5, .int (iI (w5 + 1))), (6, .int (iI u6)), (7, .int (iI u7))]) rfl ?_
                    refine z_goto (tgt := 37) hx dX8_mostAlike_105 (by decide) ?_
                    refine z_sub [0, 1, 2, 3, 4, 5] (lv' := [(0, .ref b), (1, .int (iI st)), (2, .int (iI k)), (3, .int (iI w)), (4, .int (iI (mxI w4 u6))), (5, .int (iI (w5 + 1)))]) rfl ?_
                    exact ih_15 _ _ (by omega) (by rw [mxN_s _ (by omega), ← e4, eL]) (by omega)  (by omega)
                  ·
                    refine z_iload_n hx dX8_mostAlike_57 rfl 1 rfl ?_
                    refine z_iload hx dX8_mostAlike_58 7 rfl ?_
                    refine z_ishr hx dX8_mostAlike_60 ?_
                    rw [show shrI st u7 = (st / pw u7) from by exact shrI_' (by omega) (by omega)]
                    refine z_iconst hx dX8_mostAlike_61 ?_
                    refine z_iand hx dX8_mostAlike_62 ?_
                    rw [show andI (st / pw u7) 1 = ((st / pw u7) % 2) from by exact andI_1' (by omega)]
                    refine z_iconst hx dX8_mostAlike_63 ?_
                    have hkk := hI.k k (by omega)
                    refine z_icmp_ne (tgt := 87) hx dX8_mostAlike_64 (by decide) (by omega) (by decide) (fun c_21 => ?_) (fun c_21 => ?_)
                    ·
                      refine z_iinc hx dX8_mostAlike_87 (by decide) 7 rfl [1, 2, 3, 4, 5, 6, 7, 0] (lv' := [(0, .ref b), (1, .int (iI st)), (2, .int (iI k)), (3, .int (iI w)), (4, .int (iI w4)), (5, .int (iI w5)), (6, .int (iI u6)), (7, .int (iI (u7 + 1)))]) rfl ?_
                      refine z_goto (tgt := 50) hx dX8_mostAlike_90 (by decide) ?_
                      exact ih_18 _ _ (by omega) (by rw [cnI_s _ (by omega), ← e6]; first | (rw [if_pos (show cbP _ _ _ _ _ from ⟨by omega, by omega⟩)]) | (rw [if_neg (by rintro ⟨q1, q2⟩; omega)]; try omega))  (by omega)
                    ·
                      have hkk := hI.k k (by omega)
                      have hx5 := eh w5 (by omega) (by omega)
                      have hx7 := eh u7 (by omega) (by omega)
                      have hh5 := hol_rg (k := w5) (s := f (32 + k)) (w := w) (by omega) (by omega) (by omega)
                      have hh7 := hol_rg (k := u7) (s := f (32 + k)) (w := w) (by omega) (by omega) (by omega)
                      refine z_aload_n hx dX8_mostAlike_67 rfl 0 rfl ?_
                      refine z_get hx dX8_mostAlike_68 fl_X8_50 hk_3 rfl ?_
                      refine z_iload hx dX8_mostAlike_71 7 rfl ?_
                      refine z_iald hx dX8_mostAlike_73 hk_10 (by omega) (by decide) ?_
                      refine z_aload_n hx dX8_mostAlike_74 rfl 0 rfl ?_
                      refine z_get hx dX8_mostAlike_75 fl_X8_50 hk_3 rfl ?_
                      refine z_iload hx dX8_mostAlike_78 5 rfl ?_
                      refine z_iald hx dX8_mostAlike_80 hk_10 (by omega) (by decide) ?_
                      refine z_icmp_ne (tgt := 87) hx dX8_mostAlike_81 (by decide) (by omega) (by omega) (fun c_22 => ?_) (fun c_22 => ?_)
                      ·
                        refine z_iinc hx dX8_mostAlike_87 (by decide) 7 rfl [1, 2, 3, 4, 5, 6, 7, 0] (lv' := [(0, .ref b), (1, .int (iI st)), (2, .int (iI k)), (3, .int (iI w)), (4, .int (iI w4)), (5, .int (iI w5)), (6, .int (iI u6)), (7, .int (iI (u7 + 1)))]) rfl ?_
                        refine z_goto (tgt := 50) hx dX8_mostAlike_90 (by decide) ?_
                        exact ih_18 _ _ (by omega) (by rw [cnI_s _ (by omega), ← e6]; first | (rw [if_pos (show cbP _ _ _ _ _ from ⟨by omega, by omega⟩)]) | (rw [if_neg (by rintro ⟨q1, q2⟩; omega)]; try omega))  (by omega)
                      ·
                        refine z_iinc hx dX8_mostAlike_84 (by decide) 6 rfl [1, 2, 3, 4, 5, 6, 0, 7] (lv' := [(0, .ref b), (1, .int (iI st)), (2, .int (iI k)), (3, .int (iI w)), (4, .int (iI w4)), (5, .int (iI w5)), (6, .int (iI (u6 + 1))), (7, .int (iI u7))]) rfl ?_
                        refine z_iinc hx dX8_mostAlike_87 (by decide) 7 rfl [1, 2, 3, 4, 5, 6, 7, 0] (lv' := [(0, .ref b), (1, .int (iI st)), (2, .int (iI k)), (3, .int (iI w)), (4, .int (iI w4)), (5, .int (iI w5)), (6, .int (iI (u6 + 1))), (7, .int (iI (u7 + 1)))]) rfl ?_
                        refine z_goto (tgt := 50) hx dX8_mostAlike_90 (by decide) ?_
                        exact ih_18 _ _ (by omega) (by rw [cnI_s _ (by omega), ← e6]; first | (rw [if_pos (show cbP _ _ _ _ _ from ⟨by omega, by omega⟩)]) | (rw [if_neg (by rintro ⟨q1, q2⟩; omega)]; try omega))  (by omega)
              exact hL_17 (((6 : Int) - 0) + 1 : Int).toNat _ _ (by omega) (by rfl)  (by omega)
        exact hL_14 (((6 : Int) - 0) + 1 : Int).toNat _ _ (by omega) (by rfl) (by omega)  (by omega)
      ·
        refine z_aload_n hx dX8_mostAlike_10 rfl 0 rfl ?_
        refine z_get hx dX8_mostAlike_11 fl_X8_50 hk_3 rfl ?_
        refine z_iload hx dX8_mostAlike_14 4 rfl ?_
        refine z_aload_n hx dX8_mostAlike_16 rfl 0 rfl ?_
        refine z_iload hx dX8_mostAlike_17 4 rfl ?_
        refine z_iload_n hx dX8_mostAlike_19 rfl 2 rfl ?_
        refine z_iload_n hx dX8_mostAlike_20 rfl 3 rfl ?_
        refine z_cVI (as := [.int (iI v4), .int (iI k), .int (iI w)]) (rest := [.int (iI v4), .ref (b + 366)]) hx dX8_mostAlike_21 lk_X8_219 wm_X8_holdsAs wv_X8_holdsAs (rcv_obj hx hk_3 rfl) mo_X8_holdsAs (kX8_holdsAs g (kd := v4) (k := k) (w := w) (F := F) (N := N) (f := f) hk_3 ⟨hk_4, hk_5, hk_6, hk_7, hk_8, hk_9⟩ hR hI (show 0 ≤ v4 ∧ v4 ≤ 5 by omega) (show 0 ≤ k ∧ k < f 26 by omega) (show 0 ≤ w ∧ w ≤ 40 by omega)) (by decide) rfl rfl (Nat.le_of_ble_eq_true rfl) ?_
        have f_23 := hol_rg (k := v4) (s := f (32 + k)) (w := w) (by omega) (by have := (hI).k k (by have := (hI).n; omega); omega) (by omega)
        refine z_iastQ hx dX8_mostAlike_24 hk_10 (by omega) (by decide) (fun h_24 hs_25 hf_26 => ?_)
        have h_27 := hf_26.at (by omega) hk_3
        have h_28 := hf_26.at (by omega) hk_4
        have h_29 := CM.fr hk_5 hf_26 (by omega)
        have h_30 := PM.fr hk_6 hf_26 (by omega)
        have h_31 := hf_26.at (by omega) hk_7
        have h_32 := hf_26.at (by omega) hk_8
        have h_33 := hf_26.at (by omega) hk_9
        have fr_34 := fr_11.tr (hf_26.wd (by omega) (by omega))
        refine z_iinc hx dX8_mostAlike_25 (by decide) 4 rfl [1, 2, 3, 4, 0] (lv' := [(0, .ref b), (1, .int (iI st)), (2, .int (iI k)), (3, .int (iI w)), (4, .int (iI (v4 + 1)))]) rfl ?_
        refine z_goto (tgt := 3) hx dX8_mostAlike_28 (by decide) ?_
        exact ih_12 _ (fup gh v4 (hol v4 (f (32 + k)) w)) _ (by omega) (by intro q a b; by_cases c9 : q = v4; (rw [c9]; exact fup_s _ _ _); (rw [fup_n c9]; exact eh q a (by omega))) h_27 h_28 h_29 h_30 h_31 h_32 h_33 hs_25 fr_34 (by omega)
  exact hL_1 (((6 : Int) - 0) + 1 : Int).toNat _ hf _ (by omega) (by intro q a b; omega) x0 k0 k1 k2 k3 k4 k5 hh Fr.rf (by omega)

set_option maxHeartbeats 4000000 in
set_option maxRecDepth 20000 in
theorem kX8_feel (g : Gt) {h : AH} {b : Nat} {S : Nat → Int → Int} {k : Int} (hX : XR h b S) (hV : invM S) (g_k : rgI k) : CnJ g mX8_feel 6 [.ref b, .int (iI k)] h (feelA S k).1 (QX h b (feelA S k).2) := by
  refine Cn.mk (by decide +kernel) (Nat.le_of_ble_eq_true rfl) ?_
  intro x sz hx hr
  show Zj g x (sz, 0, 0) h 0 [(0, .ref b), (1, .int (iI k))] []
  have hX0 := hX
  obtain ⟨F, pi, Fs, kq, N, T, x0, hK, hi0, hi1, htx, htr, hrb, heb, hhb, ⟨hR, hPR, hNn⟩, htt⟩ := hX
  obtain ⟨k0, k1, k2, k3, k4, k5⟩ := hK
  have hN := hV.1
  have hI := hN.1
  have hn := hI.n
  have rn := hR.n
  have h58 : 0 ≤ S 1 58 ∧ S 1 58 ≤ 8 := ⟨(hI.rg 58 (by decide)).1, hN.2.2.2.1⟩
  have h39 : 0 ≤ S 1 39 ∧ S 1 39 ≤ 6 := ⟨(hI.rg 39 (by decide)).1, hN.2.2.1⟩
  have h0 : 0 ≤ S 1 0 ∧ S 1 0 ≤ 999 := ⟨hN.2.1.2, hN.2.1.1⟩
  have hmx : ∀ i, 0 ≤ i → i < S 1 58 → inv (mixF (S 1) i) := fun i a b => (hN.2.2.2.2.1 i a b).1
  have hno : ∀ i, 0 ≤ i → i < S 1 39 → S 1 (40 + 3 * i) < 5 ∧ S 1 (40 + 3 * i + 1) ≤ 40 ∧ S 1 (40 + 3 * i + 2) ≤ 9 := fun i a b => by have q := hN.2.2.2.2.2 i a b; rw [show 41 + 3 * i = 40 + 3 * i + 1 by omega, show 42 + 3 * i = 40 + 3 * i + 2 by omega] at q; exact q
  have hTo : outR (S 2) := hV.2.1
  have hL := hV.2.2.2.1
  have htt2 := hV.2.2.2.2.1
  obtain ⟨hf0, hh0⟩ := hhb
  refine z_aload_n hx dX8_feel_0 rfl 0 rfl ?_
  refine z_iload_n hx dX8_feel_1 rfl 1 rfl ?_
  refine z_cVI (as := [.int (iI k)]) (rest := []) hx dX8_feel_2 lk_X8_154 wm_X8_isCosy wv_X8_isCosy (rcv_obj hx x0 rfl) mo_X8_isCosy (kX8_isCosy g (k := k) (F := F) (N := N) (f := (S 1)) x0 ⟨k0, k1, k2, k3, k4, k5⟩ hR hI (show rgI k by omega)) (by decide) rfl rfl (Nat.le_of_ble_eq_true rfl) ?_
  refine z_ifne_b (tgt := 15) hx dX8_feel_5 (by decide)  (fun c_1 => ?_) (fun c_1 => ?_)
  ·
    refine z_aload_n hx dX8_feel_15 rfl 0 rfl ?_
    refine z_iload_n hx dX8_feel_16 rfl 1 rfl ?_
    refine z_cVI (as := [.int (iI k)]) (rest := []) hx dX8_feel_17 lk_X8_228 wm_X8_fittingKinds wv_X8_fittingKinds (rcv_obj hx x0 rfl) mo_X8_fittingKinds (kX8_fittingKinds g (k := k) (F := F) (N := N) (f := (S 1)) x0 ⟨k0, k1, k2, k3, k4, k5⟩ hR hI rfl hNn h39 hno (show 0 ≤ k ∧ k < (S 1) 26 by omega)) (by decide) rfl rfl (Nat.le_of_ble_eq_true rfl) ?_
    have f_2 := kof_rg (S 1) k
    refine z_istore_n hx dX8_feel_20 rfl (by decide) [1, 2, 0] (lv' := [(0, .ref b), (1, .int (iI k)), (2, .int (iI (kof (S 1) k)))]) rfl ?_
    refine z_iconst hx dX8_feel_21 ?_
    refine z_istore_n hx dX8_feel_22 rfl (by decide) [1, 2, 3, 0] (lv' := [(0, .ref b), (1, .int (iI k)), (2, .int (iI (kof (S 1) k))), (3, .int (iI (-1)))]) rfl ?_
    refine z_bipush hx dX8_feel_23 (by decide) ?_
    refine z_istore hx dX8_feel_25 (by decide) [1, 2, 3, 4, 0] (lv' := [(0, .ref b), (1, .int (iI k)), (2, .int (iI (kof (S 1) k))), (3, .int (iI (-1))), (4, .int (iI 7))]) rfl ?_
    refine z_iconst hx dX8_feel_27 ?_
    refine z_istore hx dX8_feel_28 (by decide) [1, 2, 3, 4, 5, 0] (lv' := [(0, .ref b), (1, .int (iI k)), (2, .int (iI (kof (S 1) k))), (3, .int (iI (-1))), (4, .int (iI 7)), (5, .int (iI 0))]) rfl ?_
    have hL_3 : ∀ (mm : Nat) (v3 : Int) (v4 : Int) (v5 : Int) (gh : Int → Int) (h_4 : AH), (0 ≤ v5 ∧ v5 ≤ 41) → (kof (S 1) k = 0 → v5 = 0) → ((v5 = 0 ∧ v3 = -1 ∧ v4 = 7 ∧ (itI v5 (felG (kof (S 1) k) (S 1 (32 + k))) (-1, 99)).2 = 99 ∧ (itI v5 (felG (kof (S 1) k) (S 1 (32 + k))) (-1, 99)).1 = -1) ∨ (1 ≤ v5 ∧ v3 = (itI v5 (felG (kof (S 1) k) (S 1 (32 + k))) (-1, 99)).1 ∧ v4 = (itI v5 (felG (kof (S 1) k) (S 1 (32 + k))) (-1, 99)).2 ∧ 0 ≤ v4 ∧ v4 ≤ 6)) → (-1 ≤ v3 ∧ v3 ≤ v5) → (0 ≤ v4 ∧ v4 ≤ 7) → (h_4 b = some (.inr (.inr (0, [.ref (b + 1), .ref (b + 97), .ref (b + 193), .ref (b + 289), .ref (b + 291), .ref (b + 301), .ref (b + 313), .ref (b + 366), .long (lI (S 0 6)), .long (lI (S 0 7)), .int (iI (S 6 0)), .int (iI (S 6 1)), .int (iI (S 6 2))])))) → (h_4 (b + 1) = some (.inr (.inr (3, [.ref ((b + 1) + 1), .ref ((b + 1) + 11), .ref ((b + 1) + 93), .ref ((b + 1) + 94), .ref ((b + 1) + 95), .int (iI (S 1 39)), .int (iI kq)])))) → (CM h_4 ((b + 1) + 1) F) → (PM h_4 ((b + 1) + 11) pi Fs (S 1 58)) → (h_4 ((b + 1) + 93) = some (.inl (0, 6, N 0))) → (h_4 ((b + 1) + 94) = some (.inl (0, 6, N 1))) → (h_4 ((b + 1) + 95) = some (.inl (0, 6, N 2))) → (IB h_4 (b + 97) (S 5 0) (img (S 4) 0)) → (IB h_4 (b + 193) (S 5 1) (img (S 4) 1)) → (TB h_4 (b + 289) T (S 0 8)) → (CB h_4 (b + 291)) → (RB h_4 (b + 301)) → (EB h_4 (b + 313)) → (h_4 (b + 366) = some (.inl (0, 6, gh))) → (Fr h h_4 b 367) → (41 : Int) - v5 < (mm : Int) → Zj g x (sz, 0, 0) h_4 30 [(0, .ref b), (1, .int (iI k)), (2, .int (iI (kof (S 1) k))), (3, .int (iI v3)), (4, .int (iI v4)), (5, .int (iI v5))] [] := by
      intro mm
      induction mm with
      | zero => intro v3 v4 v5 gh h_4 kv kz hs k3 k4 hk_5 hk_6 hk_7 hk_8 hk_9 hk_10 hk_11 hk_12 hk_13 hk_14 hk_15 hk_16 hk_17 hk_18 fr_19 hm; exfalso; omega
      | succ mm ih =>
        intro v3 v4 v5 gh h_4 kv kz hs k3 k4 hk_5 hk_6 hk_7 hk_8 hk_9 hk_10 hk_11 hk_12 hk_13 hk_14 hk_15 hk_16 hk_17 hk_18 fr_19 hm
        have ih_20 := ih; clear ih
        have hkf := kof_rg (S 1) k
        refine z_iload hx dX8_feel_30 5 rfl ?_
        refine z_bipush hx dX8_feel_32 (by decide) ?_
        refine z_icmp_gt (tgt := 71) hx dX8_feel_34 (by decide) (by omega) (by decide) (fun c_21 => ?_) (fun c_21 => ?_)
        ·
          have eV : felV (kof (S 1) k) (S 1 (32 + k)) = v3 := by unfold felV; by_cases qz : kof (S 1) k = 0; (rw [if_pos qz]; have := kz qz; omega); (rw [if_neg qz, show (41 : Int) = v5 by omega]; omega)
          refine z_iload_n hx dX8_feel_71 rfl 3 rfl ?_
          refine z_iret hx hr dX8_feel_72 rfl rfl (q_j (by unfold feelA; (repeat (first | rw [if_pos (by omega)] | rw [if_neg (by omega)])); (try first | exact eV | exact eV.symm | rfl)) (by unfold feelA; (repeat (first | rw [if_pos (by omega)] | rw [if_neg (by omega)])); show XC h_4 b (S 0) (S 1) (S 4) (S 5) (S 6) (S 7) ∧ Fr h h_4 b 367; exact ⟨⟨F, pi, Fs, kq, N, T, hk_5, KM.eq ⟨hk_6, hk_7, hk_8, hk_9, hk_10, hk_11⟩ (rfl) (rfl), hk_12, hk_13, hk_14, hk_15, hk_16, hk_17, ⟨_, hk_18⟩, ⟨hR, hPR, hNn⟩, htt⟩, fr_19⟩))
        ·
          refine z_iload_n hx dX8_feel_37 rfl 2 rfl ?_
          refine z_if_eq (tgt := 71) hx dX8_feel_38 (by decide) (by omega) (fun c_22 => ?_) (fun c_22 => ?_)
          ·
            have eV : felV (kof (S 1) k) (S 1 (32 + k)) = v3 := by unfold felV; by_cases qz : kof (S 1) k = 0; (rw [if_pos qz]; have := kz qz; omega); (rw [if_neg qz, show (41 : Int) = v5 by omega]; omega)
            refine z_iload_n hx dX8_feel_71 rfl 3 rfl ?_
            refine z_iret hx hr dX8_feel_72 rfl rfl (q_j (by unfold feelA; (repeat (first | rw [if_pos (by omega)] | rw [if_neg (by omega)])); (try first | exact eV | exact eV.symm | rfl)) (by unfold feelA; (repeat (first | rw [if_pos (by omega)] | rw [if_neg (by omega)])); show XC h_4 b (S 0) (S 1) (S 4) (S 5) (S 6) (S 7) ∧ Fr h h_4 b 367; exact ⟨⟨F, pi, Fs, kq, N, T, hk_5, KM.eq ⟨hk_6, hk_7, hk_8, hk_9, hk_10, hk_11⟩ (rfl) (rfl), hk_12, hk_13, hk_14, hk_15, hk_16, hk_17, ⟨_, hk_18⟩, ⟨hR, hPR, hNn⟩, htt⟩, fr_19⟩))
          ·
            refine z_aload_n hx dX8_feel_41 rfl 0 rfl ?_
            refine z_iload_n hx dX8_feel_42 rfl 2 rfl ?_
            refine z_iload_n hx dX8_feel_43 rfl 1 rfl ?_
            refine z_iload hx dX8_feel_44 5 rfl ?_
            refine z_cVJ (as := [.int (iI (kof (S 1) k)), .int (iI k), .int (iI v5)]) (rest := []) hx dX8_feel_46 lk_X8_231 wm_X8_mostAlike wv_X8_mostAlike (rcv_obj hx hk_5 rfl) mo_X8_mostAlike (kX8_mostAlike g (st := (kof (S 1) k)) (k := k) (w := v5) (F := F) (N := N) (f := (S 1)) hk_5 ⟨hk_6, hk_7, hk_8, hk_9, hk_10, hk_11⟩ hR hI hk_18 (by omega) (by omega) (by omega)) (by decide) rfl rfl (Nat.le_of_ble_eq_true rfl) (fun h_24 q_25 => ?_)
            obtain ⟨⟨hf_26, hC_27⟩, hF_28⟩ := q_25
            have h_29 := hF_28.at (by omega) hk_5
            have h_30 := hF_28.at (by omega) hk_6
            have h_31 := CM.fr hk_7 hF_28 (by omega)
            have h_32 := PM.fr hk_8 hF_28 (by omega)
            have h_33 := hF_28.at (by omega) hk_9
            have h_34 := hF_28.at (by omega) hk_10
            have h_35 := hF_28.at (by omega) hk_11
            have h_36 := IB.fr hk_12 hF_28 (by omega)
            have h_37 := IB.fr hk_13 hF_28 (by omega)
            have h_38 := TB.fr hk_14 hF_28 (by omega)
            have h_39 := CB.fr hk_15 hF_28 (by omega)
            have h_40 := RB.fr hk_16 hF_28 (by omega)
            have h_41 := EB.fr hk_17 hF_28 (by omega)
            have fr_42 := fr_19.tr (hF_28.wd (by omega) (by omega))
            have f_23 : 0 ≤ mosA (kof (S 1) k) ((S 1) (32 + k)) v5 ∧ mosA (kof (S 1) k) ((S 1) (32 + k)) v5 ≤ 6 := mosA_rg _ _ _ (n := 6) (by decide)
            refine z_istore hx dX8_feel_49 (by decide) [1, 2, 3, 4, 5, 6, 0] (lv' := [(0, .ref b), (1, .int (iI k)), (2, .int (iI (kof (S 1) k))), (3, .int (iI v3)), (4, .int (iI v4)), (5, .int (iI v5)), (6, .int (iI (mosA (kof (S 1) k) ((S 1) (32 + k)) v5)))]) rfl ?_
            refine z_iload hx dX8_feel_51 6 rfl ?_
            refine z_iload hx dX8_feel_53 4 rfl ?_
            refine z_icmp_ge (tgt := 65) hx dX8_feel_55 (by decide) (by omega) (by omega) (fun c_43 => ?_) (fun c_43 => ?_)
            ·
              refine z_iinc hx dX8_feel_65 (by decide) 5 rfl [1, 2, 3, 4, 5, 0, 6] (lv' := [(0, .ref b), (1, .int (iI k)), (2, .int (iI (kof (S 1) k))), (3, .int (iI v3)), (4, .int (iI v4)), (5, .int (iI (v5 + 1))), (6, .int (iI (mosA (kof (S 1) k) ((S 1) (32 + k)) v5)))]) rfl ?_
              refine z_goto (tgt := 30) hx dX8_feel_68 (by decide) ?_
              refine z_sub [0, 1, 2, 3, 4, 5] (lv' := [(0, .ref b), (1, .int (iI k)), (2, .int (iI (kof (S 1) k))), (3, .int (iI v3)), (4, .int (iI v4)), (5, .int (iI (v5 + 1)))]) rfl ?_
              exact ih_20 _ _ _ hf_26 _ (by omega) (by omega) (by have e9 := fel_s (s := kof (S 1) k) (w := S 1 (32 + k)) (n := v5) (by omega); refine Or.inr ?_; rw [e9]; first | (rw [if_pos (by omega)]; refine ⟨by omega, ?_, ?_, ?_⟩ <;> (try dsimp only) <;> omega) | (rw [if_neg (by omega)]; omega)) (by omega) (by omega) h_29 h_30 h_31 h_32 h_33 h_34 h_35 h_36 h_37 h_38 h_39 h_40 h_41 hC_27 fr_42 (by omega)
            ·
              refine z_iload hx dX8_feel_58 5 rfl ?_
              refine z_istore_n hx dX8_feel_60 rfl (by decide) [1, 2, 3, 0, 4, 5, 6] (lv' := [(0, .ref b), (1, .int (iI k)), (2, .int (iI (kof (S 1) k))), (3, .int (iI v5)), (4, .int (iI v4)), (5, .int (iI v5)), (6, .int (iI (mosA (kof (S 1) k) ((S 1) (32 + k)) v5)))]) rfl ?_
              refine z_iload hx dX8_feel_61 6 rfl ?_
              refine z_istore hx dX8_feel_63 (by decide) [1, 2, 3, 4, 0, 5, 6] (lv' := [(0, .ref b), (1, .int (iI k)), (2, .int (iI (kof (S 1) k))), (3, .int (iI v5)), (4, .int (iI (mosA (kof (S 1) k) ((S 1) (32 + k)) v5))), (5, .int (iI v5)), (6, .int (iI (mosA (kof (S 1) k) ((S 1) (32 + k)) v5)))]) rfl ?_
              refine z_iinc hx dX8_feel_65 (by decide) 5 rfl [1, 2, 3, 4, 5, 0, 6] (lv' := [(0, .ref b), (1, .int (iI k)), (2, .int (iI (kof (S 1) k))), (3, .int (iI v5)), (4, .int (iI (mosA (kof (S 1) k) ((S 1) (32 + k)) v5))), (5, .int (iI (v5 + 1))), (6, .int (iI (mosA (kof (S 1) k) ((S 1) (32 + k)) v5)))]) rfl ?_
              refine z_goto (tgt := 30) hx dX8_feel_68 (by decide) ?_
              refine z_sub [0, 1, 2, 3, 4, 5] (lv' := [(0, .ref b), (1, .int (iI k)), (2, .int (iI (kof (S 1) k))), (3, .int (iI v5)), (4, .int (iI (mosA (kof (S 1) k) ((S 1) (32 + k)) v5))), (5, .int (iI (v5 + 1)))]) rfl ?_
              exact ih_20 _ _ _ hf_26 _ (by omega) (by omega) (by have e9 := fel_s (s := kof (S 1) k) (w := S 1 (32 + k)) (n := v5) (by omega); refine Or.inr ?_; rw [e9]; first | (rw [if_pos (by omega)]; refine ⟨by omega, ?_, ?_, ?_⟩ <;> (try dsimp only) <;> omega) | (rw [if_neg (by omega)]; omega)) (by omega) (by omega) h_29 h_30 h_31 h_32 h_33 h_34 h_35 h_36 h_37 h_38 h_39 h_40 h_41 hC_27 fr_42 (by omega)
    exact hL_3 (((41 : Int) - 0) + 1 : Int).toNat _ _ _ hf0 _ (by omega) (by omega) (by exact Or.inl ⟨rfl, rfl, rfl, rfl, rfl⟩) (by omega) (by omega) x0 k0 k1 k2 k3 k4 k5 hi0 hi1 htx htr hrb heb hh0 Fr.rf (by omega)
  ·
    refine z_aload_n hx dX8_feel_8 rfl 0 rfl ?_
    refine z_bipush hx dX8_feel_9 (by decide) ?_
    refine z_cVJ (as := [.int (iI (-2))]) (rest := []) hx dX8_feel_11 lk_X8_88 wm_X8_bad wv_X8_bad (rcv_obj hx x0 rfl) mo_X8_bad (kX8_bad g (v := (-2)) x0) (by decide) rfl rfl (Nat.le_of_ble_eq_true rfl) (fun h_44 q_45 => ?_)
    obtain ⟨hs_46, hf_47⟩ := q_45
    have h_48 := hf_47.at (by omega) k0
    have h_49 := CM.fr k1 hf_47 (by omega)
    have h_50 := PM.fr k2 hf_47 (by omega)
    have h_51 := hf_47.at (by omega) k3
    have h_52 := hf_47.at (by omega) k4
    have h_53 := hf_47.at (by omega) k5
    have h_54 := IB.fr hi0 hf_47 (by omega)
    have h_55 := IB.fr hi1 hf_47 (by omega)
    have h_56 := TB.fr htx hf_47 (by omega)
    have h_57 := CB.fr htr hf_47 (by omega)
    have h_58 := RB.fr hrb hf_47 (by omega)
    have h_59 := EB.fr heb hf_47 (by omega)
    have h_60 := hf_47.at (by omega) hh0
    have fr_61 : Fr h h_44 b 367 := hf_47.wd (by omega) (by omega)
    refine z_iret hx hr dX8_feel_14 rfl rfl (q_j (by unfold feelA; (repeat (first | rw [if_pos (by omega)] | rw [if_neg (by omega)])); (try first | exact eV | exact eV.symm | rfl)) (by unfold feelA; (repeat (first | rw [if_pos (by omega)] | rw [if_neg (by omega)])); show XC h_44 b (S 0) (S 1) (S 4) (S 5) (fup (S 6) 0 ((S 6) 0 + 1)) (S 7) ∧ Fr h h_44 b 367; exact ⟨⟨F, pi, Fs, kq, N, T, hs_46, KM.eq ⟨h_48, h_49, h_50, h_51, h_52, h_53⟩ (rfl) (rfl), h_54, h_55, h_56, h_57, h_58, h_59, ⟨_, h_60⟩, ⟨hR, hPR, hNn⟩, htt⟩, fr_61⟩))

set_option maxHeartbeats 4000000 in
set_option maxRecDepth 20000 in
theorem kX8_inside (g : Gt) {h : AH} {b : Nat} {S : Nat → Int → Int} {k : Int} {x9 : Int} {w : Int} (hX : XR h b S) (hV : invM S) (g_k : rgI k) (g_x9 : rgI x9) (g_w : rgI w) : CnJ g mX8_inside 4 [.ref b, .int (iI k), .int (iI x9), .int (iI w)] h (insideA S k x9 w).1 (QX h b (insideA S k x9 w).2) := by
  refine Cn.mk (by decide +kernel) (Nat.le_of_ble_eq_true rfl) ?_
  intro x sz hx hr
  show Zj g x (sz, 0, 0) h 0 [(0, .ref b), (1, .int (iI k)), (2, .int (iI x9)), (3, .int (iI w))] []
  have hX0 := hX
  obtain ⟨F, pi, Fs, kq, N, T, x0, hK, hi0, hi1, htx, htr, hrb, heb, hhb, ⟨hR, hPR, hNn⟩, htt⟩ := hX
  obtain ⟨k0, k1, k2, k3, k4, k5⟩ := hK
  have hN := hV.1
  have hI := hN.1
  have hn := hI.n
  have rn := hR.n
  have h58 : 0 ≤ S 1 58 ∧ S 1 58 ≤ 8 := ⟨(hI.rg 58 (by decide)).1, hN.2.2.2.1⟩
  have h39 : 0 ≤ S 1 39 ∧ S 1 39 ≤ 6 := ⟨(hI.rg 39 (by decide)).1, hN.2.2.1⟩
  have h0 : 0 ≤ S 1 0 ∧ S 1 0 ≤ 999 := ⟨hN.2.1.2, hN.2.1.1⟩
  have hmx : ∀ i, 0 ≤ i → i < S 1 58 → inv (mixF (S 1) i) := fun i a b => (hN.2.2.2.2.1 i a b).1
  have hno : ∀ i, 0 ≤ i → i < S 1 39 → S 1 (40 + 3 * i) < 5 ∧ S 1 (40 + 3 * i + 1) ≤ 40 ∧ S 1 (40 + 3 * i + 2) ≤ 9 := fun i a b => by have q := hN.2.2.2.2.2 i a b; rw [show 41 + 3 * i = 40 + 3 * i + 1 by omega, show 42 + 3 * i = 40 + 3 * i + 2 by omega] at q; exact q
  have hTo : outR (S 2) := hV.2.1
  have hL := hV.2.2.2.1
  have htt2 := hV.2.2.2.2.1
  refine z_aload_n hx dX8_inside_0 rfl 0 rfl ?_
  refine z_iload_n hx dX8_inside_1 rfl 1 rfl ?_
  refine z_cVI (as := [.int (iI k)]) (rest := []) hx dX8_inside_2 lk_X8_154 wm_X8_isCosy wv_X8_isCosy (rcv_obj hx x0 rfl) mo_X8_isCosy (kX8_isCosy g (k := k) (F := F) (N := N) (f := (S 1)) x0 ⟨k0, k1, k2, k3, k4, k5⟩ hR hI (show rgI k by omega)) (by decide) rfl rfl (Nat.le_of_ble_eq_true rfl) ?_
  refine z_ifeq_b (tgt := 27) hx dX8_inside_5 (by decide)  (fun c_1 => ?_) (fun c_1 => ?_)
  ·
    refine z_aload_n hx dX8_inside_27 rfl 0 rfl ?_
    refine z_bipush hx dX8_inside_28 (by decide) ?_
    refine z_cVJ (as := [.int (iI (-2))]) (rest := []) hx dX8_inside_30 lk_X8_88 wm_X8_bad wv_X8_bad (rcv_obj hx x0 rfl) mo_X8_bad (kX8_bad g (v := (-2)) x0) (by decide) rfl rfl (Nat.le_of_ble_eq_true rfl) (fun h_2 q_3 => ?_)
    obtain ⟨hs_4, hf_5⟩ := q_3
    have h_6 := hf_5.at (by omega) k0
    have h_7 := CM.fr k1 hf_5 (by omega)
    have h_8 := PM.fr k2 hf_5 (by omega)
    have h_9 := hf_5.at (by omega) k3
    have h_10 := hf_5.at (by omega) k4
    have h_11 := hf_5.at (by omega) k5
    have h_12 := IB.fr hi0 hf_5 (by omega)
    have h_13 := IB.fr hi1 hf_5 (by omega)
    have h_14 := TB.fr htx hf_5 (by omega)
    have h_15 := CB.fr htr hf_5 (by omega)
    have h_16 := RB.fr hrb hf_5 (by omega)
    have h_17 := EB.fr heb hf_5 (by omega)
    have h_18 := HB.fr hhb hf_5 (by omega)
    have fr_19 : Fr h h_2 b 367 := hf_5.wd (by omega) (by omega)
    refine z_iret hx hr dX8_inside_33 rfl rfl (q_j (by unfold insideA; (repeat (first | rw [if_pos (by omega)] | rw [if_neg (by omega)])); (try rw [eN]); (try unfold insV); (repeat (first | rw [if_pos (by omega)] | rw [if_neg (by omega)])); (try rw [eV]); (try rfl)) (by unfold insideA; (repeat (first | rw [if_pos (by omega)] | rw [if_neg (by omega)])); show XC h_2 b (S 0) (S 1) (S 4) (S 5) (fup (S 6) 0 ((S 6) 0 + 1)) (S 7) ∧ Fr h h_2 b 367; exact ⟨⟨F, pi, Fs, kq, N, T, hs_4, KM.eq ⟨h_6, h_7, h_8, h_9, h_10, h_11⟩ (rfl) (rfl), h_12, h_13, h_14, h_15, h_16, h_17, h_18, ⟨hR, hPR, hNn⟩, htt⟩, fr_19⟩))
  ·
    refine z_iload_n hx dX8_inside_8 rfl 2 rfl ?_
    refine z_iconst hx dX8_inside_9 ?_
    refine z_bipush hx dX8_inside_10 (by decide) ?_
    refine z_cSI (as := [.int (iI x9), .int (iI 0), .int (iI 8)]) (rest := []) hx dX8_inside_12 lk_X8_80 wt_X8_isIn mo_X8_isIn (kX8_isIn g (a := x9) (b := 0) (c := 8) (by omega) (by omega) (by omega)) (by decide) rfl rfl (Nat.le_of_ble_eq_true rfl) ?_
    refine z_ifeq_b (tgt := 27) hx dX8_inside_15 (by decide)  (fun c_20 => ?_) (fun c_20 => ?_)
    ·
      refine z_aload_n hx dX8_inside_27 rfl 0 rfl ?_
      refine z_bipush hx dX8_inside_28 (by decide) ?_
      refine z_cVJ (as := [.int (iI (-2))]) (rest := []) hx dX8_inside_30 lk_X8_88 wm_X8_bad wv_X8_bad (rcv_obj hx x0 rfl) mo_X8_bad (kX8_bad g (v := (-2)) x0) (by decide) rfl rfl (Nat.le_of_ble_eq_true rfl) (fun h_21 q_22 => ?_)
      obtain ⟨hs_23, hf_24⟩ := q_22
      have h_25 := hf_24.at (by omega) k0
      have h_26 := CM.fr k1 hf_24 (by omega)
      have h_27 := PM.fr k2 hf_24 (by omega)
      have h_28 := hf_24.at (by omega) k3
      have h_29 := hf_24.at (by omega) k4
      have h_30 := hf_24.at (by omega) k5
      have h_31 := IB.fr hi0 hf_24 (by omega)
      have h_32 := IB.fr hi1 hf_24 (by omega)
      have h_33 := TB.fr htx hf_24 (by omega)
      have h_34 := CB.fr htr hf_24 (by omega)
      have h_35 := RB.fr hrb hf_24 (by omega)
      have h_36 := EB.fr heb hf_24 (by omega)
      have h_37 := HB.fr hhb hf_24 (by omega)
      have fr_38 : Fr h h_21 b 367 := hf_24.wd (by omega) (by omega)
      refine z_iret hx hr dX8_inside_33 rfl rfl (q_j (by unfold insideA; (repeat (first | rw [if_pos (by omega)] | rw [if_neg (by omega)])); (try rw [eN]); (try unfold insV); (repeat (first | rw [if_pos (by omega)] | rw [if_neg (by omega)])); (try rw [eV]); (try rfl)) (by unfold insideA; (repeat (first | rw [if_pos (by omega)] | rw [if_neg (by omega)])); show XC h_21 b (S 0) (S 1) (S 4) (S 5) (fup (S 6) 0 ((S 6) 0 + 1)) (S 7) ∧ Fr h h_21 b 367; exact ⟨⟨F, pi, Fs, kq, N, T, hs_23, KM.eq ⟨h_25, h_26, h_27, h_28, h_29, h_30⟩ (rfl) (rfl), h_31, h_32, h_33, h_34, h_35, h_36, h_37, ⟨hR, hPR, hNn⟩, htt⟩, fr_38⟩))
    ·
      refine z_iload_n hx dX8_inside_18 rfl 3 rfl ?_
      refine z_iconst hx dX8_inside_19 ?_
      refine z_iconst hx dX8_inside_20 ?_
      refine z_cSI (as := [.int (iI w), .int (iI 0), .int (iI 1)]) (rest := []) hx dX8_inside_21 lk_X8_80 wt_X8_isIn mo_X8_isIn (kX8_isIn g (a := w) (b := 0) (c := 1) (by omega) (by omega) (by omega)) (by decide) rfl rfl (Nat.le_of_ble_eq_true rfl) ?_
      refine z_ifne_b (tgt := 34) hx dX8_inside_24 (by decide)  (fun c_39 => ?_) (fun c_39 => ?_)
      ·
        refine z_aload_n hx dX8_inside_34 rfl 0 rfl ?_
        refine z_get hx dX8_inside_35 fl_X8_10 x0 rfl ?_
        refine z_get hx dX8_inside_38 fl_X8_71 k0 rfl ?_
        refine z_aload_n hx dX8_inside_41 rfl 0 rfl ?_
        refine z_get hx dX8_inside_42 fl_X8_10 x0 rfl ?_
        refine z_get hx dX8_inside_45 fl_X8_71 k0 rfl ?_
        refine z_get hx dX8_inside_48 fl_X8_170 k1.1 rfl ?_
        refine z_iload_n hx dX8_inside_51 rfl 1 rfl ?_
        refine z_iald hx dX8_inside_52 k1.2.2.1 (by omega) (by decide) ?_
        have rk_40 := hR.k k (by first | omega | decide)
        have ik_41 := hI.k k (by first | omega | decide)
        refine z_iload_n hx dX8_inside_53 rfl 2 rfl ?_
        refine z_cVI (as := [.int (iI (F 2 k)), .int (iI x9)]) (rest := []) hx dX8_inside_54 lk_X8_234 wm_X1_whoIsNear wv_X1_whoIsNear (rcv_obj hx (And.left k1) rfl) mo_X1_whoIsNear (kX1_whoIsNear g (F := F) (f := (S 1)) (cell := (F 2 k)) (x9 := x9) k1 hR hI (show 0 ≤ (F 2 k) ∧ (F 2 k) < 24 by omega) (show rgI x9 by omega)) (by decide) rfl rfl (Nat.le_of_ble_eq_true rfl) ?_
        obtain ⟨nr, enr⟩ : ∃ q : Int, q = msk (fun p => S 1 (17 + p) ≠ 6 ∧ far (S 1 (11 + p)) (F 2 k) ≤ x9) (S 1 37) := ⟨_, rfl⟩
        have hnr : 0 ≤ nr ∧ nr < 64 := by rw [enr]; exact msk_64 _ hn.2.1
        have eN : nea (S 1) k x9 = nr := by rw [enr, (hR.k k (by omega)).2.1]; rfl
        rw [show (msk (fun p => (S 1) (17 + p) ≠ 6 ∧ far ((S 1) (11 + p)) (F 2 k) ≤ x9) ((S 1) 37)) = nr from enr.symm]
        refine z_istore hx dX8_inside_57 (by decide) [1, 2, 3, 4, 0] (lv' := [(0, .ref b), (1, .int (iI k)), (2, .int (iI x9)), (3, .int (iI w)), (4, .int (iI nr))]) rfl ?_
        refine z_aload_n hx dX8_inside_59 rfl 0 rfl ?_
        refine z_get hx dX8_inside_60 fl_X8_10 x0 rfl ?_
        refine z_get hx dX8_inside_63 fl_X8_71 k0 rfl ?_
        refine z_iload_n hx dX8_inside_66 rfl 1 rfl ?_
        refine z_cVI (as := [.int (iI k)]) (rest := []) hx dX8_inside_67 lk_X8_188 wm_X1_holds wv_X1_holds (rcv_obj hx (And.left k1) rfl) mo_X1_holds (kX1_holds g (F := F) (f := (S 1)) (k := k) k1 hR hI (show 0 ≤ k ∧ k < (S 1) 26 by omega)) (by decide) rfl rfl (Nat.le_of_ble_eq_true rfl) ?_
        have f_42 := hlf_rg hI (k := k) (by omega)
        refine z_istore hx dX8_inside_70 (by decide) [1, 2, 3, 4, 5, 0] (lv' := [(0, .ref b), (1, .int (iI k)), (2, .int (iI x9)), (3, .int (iI w)), (4, .int (iI nr)), (5, .int (iI (hlf (S 1) k)))]) rfl ?_
        refine z_iconst hx dX8_inside_72 ?_
        refine z_istore hx dX8_inside_73 (by decide) [1, 2, 3, 4, 5, 6, 0] (lv' := [(0, .ref b), (1, .int (iI k)), (2, .int (iI x9)), (3, .int (iI w)), (4, .int (iI nr)), (5, .int (iI (hlf (S 1) k))), (6, .int (iI 0))]) rfl ?_
        refine z_iconst hx dX8_inside_75 ?_
        refine z_istore hx dX8_inside_76 (by decide) [1, 2, 3, 4, 5, 6, 7, 0] (lv' := [(0, .ref b), (1, .int (iI k)), (2, .int (iI x9)), (3, .int (iI w)), (4, .int (iI nr)), (5, .int (iI (hlf (S 1) k))), (6, .int (iI 0)), (7, .int (iI 0))]) rfl ?_
        refine z_iconst hx dX8_inside_78 ?_
        refine z_istore hx dX8_inside_79 (by decide) [1, 2, 3, 4, 5, 6, 7, 8, 0] (lv' := [(0, .ref b), (1, .int (iI k)), (2, .int (iI x9)), (3, .int (iI w)), (4, .int (iI nr)), (5, .int (iI (hlf (S 1) k))), (6, .int (iI 0)), (7, .int (iI 0)), (8, .int (iI 0))]) rfl ?_
        have hL_43 : ∀ (mm : Nat) (w6 : Int) (w7 : Int) (w8 : Int), (0 ≤ w8 ∧ w8 ≤ 64) → (0 ≤ w6 ∧ w6 ≤ w8) → (0 ≤ w7 ∧ w7 < 64) → ((w6, w7) = itI w8 (insG nr (hlf (S 1) k)) (0, 0)) → (64 : Int) - w8 < (mm : Int) → Zj g x (sz, 0, 0) h 81 [(0, .ref b), (1, .int (iI k)), (2, .int (iI x9)), (3, .int (iI w)), (4, .int (iI nr)), (5, .int (iI (hlf (S 1) k))), (6, .int (iI w6)), (7, .int (iI w7)), (8, .int (iI w8))] [] := by
          intro mm
          induction mm with
          | zero => intro w6 w7 w8 kw kk5 kk6 e5 hm; exfalso; omega
          | succ mm ih =>
            intro w6 w7 w8 kw kk5 kk6 e5 hm
            have ih_44 := ih; clear ih
            have ha7 := andI_rg w8 (xorI nr (-1))
            have hp7 := popc_rg (v := w8)
            have hh7 := hlf_rg hI (k := k) (by omega)
            refine z_iload hx dX8_inside_81 8 rfl ?_
            refine z_bipush hx dX8_inside_83 (by decide) ?_
            refine z_icmp_ge (tgt := 124) hx dX8_inside_85 (by decide) (by omega) (by decide) (fun c_45 => ?_) (fun c_45 => ?_)
            ·
              have eV : itI (nr + 1) (insG nr (hlf (S 1) k)) (0, 0) = (w6, w7) := by rw [← ins_hi hnr, e5, show w8 = 64 by omega]
              refine z_iload_n hx dX8_inside_124 rfl 3 rfl ?_
              refine z_if_ne (tgt := 133) hx dX8_inside_125 (by decide) (by omega) (fun c_46 => ?_) (fun c_46 => ?_)
              ·
                refine z_iload hx dX8_inside_133 7 rfl ?_
                refine z_iret hx hr dX8_inside_135 rfl rfl (q_j (by unfold insideA; (repeat (first | rw [if_pos (by omega)] | rw [if_neg (by omega)])); (try rw [eN]); (try unfold insV); (repeat (first | rw [if_pos (by omega)] | rw [if_neg (by omega)])); (try rw [eV]); (try rfl)) (by unfold insideA; (repeat (first | rw [if_pos (by omega)] | rw [if_neg (by omega)])); show XC h b (S 0) (S 1) (S 4) (S 5) (S 6) (S 7) ∧ Fr h h b 367; exact ⟨⟨F, pi, Fs, kq, N, T, x0, KM.eq ⟨k0, k1, k2, k3, k4, k5⟩ (rfl) (rfl), hi0, hi1, htx, htr, hrb, heb, hhb, ⟨hR, hPR, hNn⟩, htt⟩, Fr.rf⟩))
              ·
                refine z_iload hx dX8_inside_128 6 rfl ?_
                refine z_goto (tgt := 135) hx dX8_inside_130 (by decide) ?_
                refine z_iret hx hr dX8_inside_135 rfl rfl (q_j (by unfold insideA; (repeat (first | rw [if_pos (by omega)] | rw [if_neg (by omega)])); (try rw [eN]); (try unfold insV); (repeat (first | rw [if_pos (by omega)] | rw [if_neg (by omega)])); (try rw [eV]); (try rfl)) (by unfold insideA; (repeat (first | rw [if_pos (by omega)] | rw [if_neg (by omega)])); show XC h b (S 0) (S 1) (S 4) (S 5) (S 6) (S 7) ∧ Fr h h b 367; exact ⟨⟨F, pi, Fs, kq, N, T, x0, KM.eq ⟨k0, k1, k2, k3, k4, k5⟩ (rfl) (rfl), hi0, hi1, htx, htr, hrb, heb, hhb, ⟨hR, hPR, hNn⟩, htt⟩, Fr.rf⟩))
            ·
              refine z_iload hx dX8_inside_88 8 rfl ?_
              refine z_iload hx dX8_inside_90 4 rfl ?_
              refine z_iconst hx dX8_inside_92 ?_
              refine z_ixor hx dX8_inside_93 ?_
              refine z_iand hx dX8_inside_94 ?_
              refine z_if_ne (tgt := 118) hx dX8_inside_95 (by decide) (by omega) (fun c_47 => ?_) (fun c_47 => ?_)
              ·
                refine z_iinc hx dX8_inside_118 (by decide) 8 rfl [1, 2, 3, 4, 5, 6, 7, 8, 0] (lv' := [(0, .ref b), (1, .int (iI k)), (2, .int (iI x9)), (3, .int (iI w)), (4, .int (iI nr)), (5, .int (iI (hlf (S 1) k))), (6, .int (iI w6)), (7, .int (iI w7)), (8, .int (iI (w8 + 1)))]) rfl ?_
                refine z_goto (tgt := 81) hx dX8_inside_121 (by decide) ?_
                exact ih_44 _ _ _ (by omega) (by omega) (by first | omega | exact orI_64 kk6 (by omega)) (by rw [ins_s (by omega), ← e5]; unfold insG; first | (rw [if_pos ⟨by omega, by omega⟩]) | (rw [if_neg (by rintro ⟨q1, q2⟩; omega)]; first | done | rfl | simp))  (by omega)
              ·
                refine z_iload hx dX8_inside_98 8 rfl ?_
                refine z_cSI (as := [.int (iI w8)]) (rest := []) hx dX8_inside_100 lk_X8_237 wt_J6_bitCount_0f7a4 mo_J6_bitCount_0f7a4 (kJ6_bitCount_0f7a4 g (v := w8) (by omega)) (by decide) rfl rfl (Nat.le_of_ble_eq_true rfl) ?_
                have f_48 := popc_rg (v := w8)
                refine z_iload hx dX8_inside_103 5 rfl ?_
                refine z_icmp_gt (tgt := 118) hx dX8_inside_105 (by decide) (by omega) (by omega) (fun c_49 => ?_) (fun c_49 => ?_)
                ·
                  refine z_iinc hx dX8_inside_118 (by decide) 8 rfl [1, 2, 3, 4, 5, 6, 7, 8, 0] (lv' := [(0, .ref b), (1, .int (iI k)), (2, .int (iI x9)), (3, .int (iI w)), (4, .int (iI nr)), (5, .int (iI (hlf (S 1) k))), (6, .int (iI w6)), (7, .int (iI w7)), (8, .int (iI (w8 + 1)))]) rfl ?_
                  refine z_goto (tgt := 81) hx dX8_inside_121 (by decide) ?_
                  exact ih_44 _ _ _ (by omega) (by omega) (by first | omega | exact orI_64 kk6 (by omega)) (by rw [ins_s (by omega), ← e5]; unfold insG; first | (rw [if_pos ⟨by omega, by omega⟩]) | (rw [if_neg (by rintro ⟨q1, q2⟩; omega)]; first | done | rfl | simp))  (by omega)
                ·
                  refine z_iinc hx dX8_inside_108 (by decide) 6 rfl [1, 2, 3, 4, 5, 6, 0, 7, 8] (lv' := [(0, .ref b), (1, .int (iI k)), (2, .int (iI x9)), (3, .int (iI w)), (4, .int (iI nr)), (5, .int (iI (hlf (S 1) k))), (6, .int (iI (w6 + 1))), (7, .int (iI w7)), (8, .int (iI w8))]) rfl ?_
                  refine z_iload hx dX8_inside_111 7 rfl ?_
                  refine z_iload hx dX8_inside_113 8 rfl ?_
                  refine z_ior hx dX8_inside_115 ?_
                  refine z_istore hx dX8_inside_116 (by decide) [1, 2, 3, 4, 5, 6, 7, 0, 8] (lv' := [(0, .ref b), (1, .int (iI k)), (2, .int (iI x9)), (3, .int (iI w)), (4, .int (iI nr)), (5, .int (iI (hlf (S 1) k))), (6, .int (iI (w6 + 1))), (7, .int (iI (orI w7 w8))), (8, .int (iI w8))]) rfl ?_
                  refine z_iinc hx dX8_inside_118 (by decide) 8 rfl [1, 2, 3, 4, 5, 6, 7, 8, 0] (lv' := [(0, .ref b), (1, .int (iI k)), (2, .int (iI x9)), (3, .int (iI w)), (4, .int (iI nr)), (5, .int (iI (hlf (S 1) k))), (6, .int (iI (w6 + 1))), (7, .int (iI (orI w7 w8))), (8, .int (iI (w8 + 1)))]) rfl ?_
                  refine z_goto (tgt := 81) hx dX8_inside_121 (by decide) ?_
                  exact ih_44 _ _ _ (by omega) (by omega) (by first | omega | exact orI_64 kk6 (by omega)) (by rw [ins_s (by omega), ← e5]; unfold insG; first | (rw [if_pos ⟨by omega, by omega⟩]) | (rw [if_neg (by rintro ⟨q1, q2⟩; omega)]; first | done | rfl | simp))  (by omega)
        exact hL_43 (((64 : Int) - 0) + 1 : Int).toNat _ _ _ (by omega) (by omega) (by omega) (by rfl)  (by omega)
      ·
        refine z_aload_n hx dX8_inside_27 rfl 0 rfl ?_
        refine z_bipush hx dX8_inside_28 (by decide) ?_
        refine z_cVJ (as := [.int (iI (-2))]) (rest := []) hx dX8_inside_30 lk_X8_88 wm_X8_bad wv_X8_bad (rcv_obj hx x0 rfl) mo_X8_bad (kX8_bad g (v := (-2)) x0) (by decide) rfl rfl (Nat.le_of_ble_eq_true rfl) (fun h_50 q_51 => ?_)
        obtain ⟨hs_52, hf_53⟩ := q_51
        have h_54 := hf_53.at (by omega) k0
        have h_55 := CM.fr k1 hf_53 (by omega)
        have h_56 := PM.fr k2 hf_53 (by omega)
        have h_57 := hf_53.at (by omega) k3
        have h_58 := hf_53.at (by omega) k4
        have h_59 := hf_53.at (by omega) k5
        have h_60 := IB.fr hi0 hf_53 (by omega)
        have h_61 := IB.fr hi1 hf_53 (by omega)
        have h_62 := TB.fr htx hf_53 (by omega)
        have h_63 := CB.fr htr hf_53 (by omega)
        have h_64 := RB.fr hrb hf_53 (by omega)
        have h_65 := EB.fr heb hf_53 (by omega)
        have h_66 := HB.fr hhb hf_53 (by omega)
        have fr_67 : Fr h h_50 b 367 := hf_53.wd (by omega) (by omega)
        refine z_iret hx hr dX8_inside_33 rfl rfl (q_j (by unfold insideA; (repeat (first | rw [if_pos (by omega)] | rw [if_neg (by omega)])); (try rw [eN]); (try unfold insV); (repeat (first | rw [if_pos (by omega)] | rw [if_neg (by omega)])); (try rw [eV]); (try rfl)) (by unfold insideA; (repeat (first | rw [if_pos (by omega)] | rw [if_neg (by omega)])); show XC h_50 b (S 0) (S 1) (S 4) (S 5) (fup (S 6) 0 ((S 6) 0 + 1)) (S 7) ∧ Fr h h_50 b 367; exact ⟨⟨F, pi, Fs, kq, N, T, hs_52, KM.eq ⟨h_54, h_55, h_56, h_57, h_58, h_59⟩ (rfl) (rfl), h_60, h_61, h_62, h_63, h_64, h_65, h_66, ⟨hR, hPR, hNn⟩, htt⟩, fr_67⟩))

