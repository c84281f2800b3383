/-! the class: read -/

set_option maxHeartbeats 4000000 in
set_option maxRecDepth 20000 in
theorem kX8_read (g : Gt) {h : AH} {b : Nat} {S : Nat → Int → Int}  (hX : XR h b S) (hV : invM S)  : CnJ g mX8_read 9 [.ref b] h (readA S).1 (QX h b (readA S).2) := by
  refine Cn.mk (by decide +kernel) (Nat.le_of_ble_eq_true rfl) ?_
  intro x sz hx hr
  show Zj g x (sz, 0, 0) h 0 [(0, .ref b)] []
  have hX0 := hX
  obtain ⟨F, pi, Fs, kq, N, T, x0, hK, hi0, hi1, htx, htr, hrb, heb, hhb, ⟨hR, hPR, hNn⟩, htt⟩ := hX
  obtain ⟨k0, k1, k2, k3, k4, k5⟩ := hK
  have hN := hV.1
  have hI := hN.1
  have hn := hI.n
  have rn := hR.n
  have h58 : 0 ≤ S 1 58 ∧ S 1 58 ≤ 8 := ⟨(hI.rg 58 (by decide)).1, hN.2.2.2.1⟩
  have h39 : 0 ≤ S 1 39 ∧ S 1 39 ≤ 6 := ⟨(hI.rg 39 (by decide)).1, hN.2.2.1⟩
  have h0 : 0 ≤ S 1 0 ∧ S 1 0 ≤ 999 := ⟨hN.2.1.2, hN.2.1.1⟩
  have hmx : ∀ i, 0 ≤ i → i < S 1 58 → inv (mixF (S 1) i) := fun i a b => (hN.2.2.2.2.1 i a b).1
  have hno : ∀ i, 0 ≤ i → i < S 1 39 → S 1 (40 + 3 * i) < 5 ∧ S 1 (40 + 3 * i + 1) ≤ 40 ∧ S 1 (40 + 3 * i + 2) ≤ 9 := fun i a b => by have q := hN.2.2.2.2.2 i a b; rw [show 41 + 3 * i = 40 + 3 * i + 1 by omega, show 42 + 3 * i = 40 + 3 * i + 2 by omega] at q; exact q
  have hTo : outR (S 2) := hV.2.1
  have hL := hV.2.2.2.1
  have htt2 := hV.2.2.2.2.1
  obtain ⟨a1, a2, a3, a4, t0, t1⟩ := htx
  obtain ⟨Ft, trm⟩ := htr
  obtain ⟨dF, dn, d1, d2, d3, dd0, dd1, dd2⟩ := hrb
  have hQ := rdA_Q hV
  have z6 := hQ.1.1 6 (by decide)
  have z7 := hQ.1.1 7 (by decide)
  have z8 := hQ.1.1 8 (by decide)
  refine z_aload_n hx dX8_read_0 rfl 0 rfl ?_
  refine z_get hx dX8_read_1 fl_X8_39 x0 rfl ?_
  refine z_aload_n hx dX8_read_4 rfl 0 rfl ?_
  refine z_get hx dX8_read_5 fl_X8_25 x0 rfl ?_
  refine z_cVJ (as := [.ref (b + 289)]) (rest := []) hx dX8_read_8 lk_X8_128 wm_X6_findFault wv_X6_findFault (rcv_obj hx dd0 rfl) mo_X6_findFault (kX6_findFault g (rd := b + 301) (q := b + 289) (S := S) ⟨dd0, dd1, dd2⟩ ⟨t0, t1⟩ (show CM h (b + 289 + 2) Ft from trm) htt hV rfl) (by decide) rfl rfl (Nat.le_of_ble_eq_true rfl) (fun h_1 q_2 => ?_)
  obtain ⟨F_3, nb_4, e_5, e_6, e_7, e_8, e_9, e_10, e_11, ⟨d_12, d_13, d_14⟩, ⟨t_15, t_16⟩, hC_17, q_18, hf_19⟩ := q_2
  have hC_20 : CM h_1 (b + 291) Ft := hC_17
  have h_21 := hf_19.at (by omega) x0
  have h_22 := hf_19.at (by omega) k0
  have h_23 := CM.fr k1 hf_19 (by omega)
  have h_24 := PM.fr k2 hf_19 (by omega)
  have h_25 := hf_19.at (by omega) k3
  have h_26 := hf_19.at (by omega) k4
  have h_27 := hf_19.at (by omega) k5
  have h_28 := IB.fr hi0 hf_19 (by omega)
  have h_29 := IB.fr hi1 hf_19 (by omega)
  have h_30 := EB.fr heb hf_19 (by omega)
  have h_31 := HB.fr hhb hf_19 (by omega)
  have fr_32 : Fr h h_1 b 367 := hf_19.wd (by omega) (by omega)
  obtain ⟨v9, ev⟩ : ∃ v : Int, v = if (rdA S).1 = 0 then (rdA S).2.1 11 else -1 := ⟨_, rfl⟩
  rw [← ev]
  have hv9 : ((rdA S).1 = 0 ∧ v9 = (rdA S).2.1 11) ∨ ((rdA S).1 = 1 ∧ v9 = -1) := by rcases hQ.1.2.1 with z | z; exact Or.inl ⟨z, by rw [ev, if_pos z]⟩; exact Or.inr ⟨z, by rw [ev, if_neg (by omega)]⟩
  have hr11 := hQ.1.2.2.2.1
  refine z_istore_n hx dX8_read_11 rfl (by decide) [1, 0] (lv' := [(0, .ref b), (1, .int (iI v9))]) rfl ?_
  refine z_iload_n hx dX8_read_12 rfl 1 rfl ?_
  refine z_iconst hx dX8_read_13 ?_
  refine z_icmp_eq (tgt := 22) hx dX8_read_14 (by decide) (by omega) (by decide) (fun c_33 => ?_) (fun c_33 => ?_)
  ·
    have hx1 : (rdA S).1 ≠ 0 := by omega
    have hrd := q_18 hx1
    refine z_aload_n hx dX8_read_22 rfl 0 rfl ?_
    refine z_get hx dX8_read_23 fl_X8_10 h_21 rfl ?_
    refine z_cVV (as := []) (rest := []) hx dX8_read_26 lk_X8_77 wm_X3_empty wv_X3_empty (rcv_obj hx h_22 rfl) mo_X3_empty (kX3_empty g (f := (S 1)) (F := F) (pi := pi) (Fs := Fs) (m := (S 1 58)) (n := (S 1 39)) (kp := kq) (N := N) ⟨h_22, h_23, h_24, h_25, h_26, h_27⟩) (by decide) rfl rfl (Nat.le_of_ble_eq_true rfl) (fun h_34 q_35 => ?_)
    obtain ⟨F_36, pi_37, Fs_38, N_39, ⟨m_40, m_41, m_42, m_43, m_44, m_45⟩, hR_46, hQ_47, hN_48, hf_49⟩ := q_35
    have h_50 := hf_49.at (by omega) h_21
    have h_51 := IB.fr h_28 hf_49 (by omega)
    have h_52 := IB.fr h_29 hf_49 (by omega)
    have h_53 := EB.fr h_30 hf_49 (by omega)
    have h_54 := HB.fr h_31 hf_49 (by omega)
    have h_55 := hf_49.at (by omega) t_15
    have h_56 := hf_49.at (by omega) t_16
    have h_57 := CM.fr hC_20 hf_49 (by omega)
    have h_58 := hf_49.at (by omega) d_12
    have h_59 := CM.fr d_13 hf_49 (by omega)
    have h_60 := hf_49.at (by omega) d_14
    have fr_61 := fr_32.tr (hf_49.wd (by omega) (by omega))
    refine z_aload_n hx dX8_read_29 rfl 0 rfl ?_
    refine z_get hx dX8_read_30 fl_X8_10 h_50 rfl ?_
    refine z_get hx dX8_read_33 fl_X8_71 m_40 rfl ?_
    refine z_aload_n hx dX8_read_36 rfl 0 rfl ?_
    refine z_get hx dX8_read_37 fl_X8_39 h_50 rfl ?_
    refine z_get hx dX8_read_40 fl_X8_132 h_58 rfl ?_
    refine z_cVV (as := [.ref ((b + 301) + 1)]) (rest := []) hx dX8_read_43 lk_X8_135 wm_X1_becomes wv_X1_becomes (rcv_obj hx (And.left m_41) rfl) mo_X1_becomes (kX1_becomes g (F := F_36) (G := F_3) (f := ((rdA S).2.2)) m_41 h_59 hrd.1 hQ.1.2.2.1 (by omega)) (by decide) rfl rfl (Nat.le_of_ble_eq_true rfl) (fun h_62 q_63 => ?_)
    obtain ⟨F_66, hC_64, hR_67, hf_65⟩ := q_63
    have h_68 := hf_65.at (by omega) m_40
    have h_69 := PM.fr m_42 hf_65 (by omega)
    have h_70 := hf_65.at (by omega) m_43
    have h_71 := hf_65.at (by omega) m_44
    have h_72 := hf_65.at (by omega) m_45
    have h_73 := hf_65.at (by omega) h_50
    have h_74 := IB.fr h_51 hf_65 (by omega)
    have h_75 := IB.fr h_52 hf_65 (by omega)
    have h_76 := EB.fr h_53 hf_65 (by omega)
    have h_77 := HB.fr h_54 hf_65 (by omega)
    have h_78 := hf_65.at (by omega) h_55
    have h_79 := hf_65.at (by omega) h_56
    have h_80 := CM.fr h_57 hf_65 (by omega)
    have h_81 := hf_65.at (by omega) h_58
    have h_82 := CM.fr h_59 hf_65 (by omega)
    have h_83 := hf_65.at (by omega) h_60
    have fr_84 := fr_61.tr (hf_65.wd (by omega) (by omega))
    refine z_aload_n hx dX8_read_46 rfl 0 rfl ?_
    refine z_get hx dX8_read_47 fl_X8_39 h_73 rfl ?_
    refine z_get hx dX8_read_50 fl_X8_139 h_81 rfl ?_
    refine z_iret hx hr dX8_read_53 rfl rfl (q_j (by unfold readA; (repeat (first | rw [if_pos (by omega)] | rw [if_neg (by omega)])); (try dsimp only); (try first | omega | exact hrd.2 | rfl)) (by unfold readA; (repeat (first | rw [if_pos (by omega)] | rw [if_neg (by omega)])); show XC h_62 b ((rdA S).2.1) (fcp (rdA S).2.2 (S 1) 0 0 267) (S 4) (S 5) (S 6) (S 7) ∧ Fr h h_62 b 367; exact ⟨⟨F_66, pi_37, Fs_38, kq, N_39, T, (by rw [z6, z7]; exact h_73), KM.eq ⟨h_68, hC_64, h_69, h_70, h_71, h_72⟩ (by rw [rdw_in (by decide), hQ.2 58 (Or.inr (by decide))]; exact (if_pos (by decide)).symm) (by rw [rdw_in (by decide), hQ.2 39 (Or.inr (by decide))]; exact (if_pos (by decide)).symm), h_74, h_75, (by rw [z8]; exact ⟨_, _, _, _, h_78, h_79⟩), ⟨_, h_80⟩, ⟨_, _, _, _, _, ⟨h_81, h_82, h_83⟩⟩, h_76, h_77, ⟨RLC_ext hR_67 hQ.1.2.2.1.n (fun j x y => rdw_in ⟨x, by omega⟩), (fun i a b => absurd (show i < 0 from (by rw [rdw_in (by decide), hQ.2 58 (Or.inr (by decide))] at b; exact b)) (by omega)), (fun i a b => absurd (show i < 0 from (by rw [rdw_in (by decide), hQ.2 39 (Or.inr (by decide))] at b; exact b)) (by omega))⟩, (fun j a b => htt j a (by rw [z8] at b; exact b))⟩, fr_84⟩))
  ·
    refine z_bipush hx dX8_read_17 (by decide) ?_
    refine z_iload_n hx dX8_read_19 rfl 1 rfl ?_
    refine z_isub hx dX8_read_20 ?_
    refine z_iret hx hr dX8_read_21 rfl rfl (q_j (by unfold readA; (repeat (first | rw [if_pos (by omega)] | rw [if_neg (by omega)])); (try dsimp only); (try first | omega | exact hrd.2 | rfl)) (by unfold readA; (repeat (first | rw [if_pos (by omega)] | rw [if_neg (by omega)])); show XC h_1 b ((rdA S).2.1) (S 1) (S 4) (S 5) (S 6) (S 7) ∧ Fr h h_1 b 367; exact ⟨⟨F, pi, Fs, kq, N, T, (by rw [z6, z7]; exact h_21), KM.eq ⟨h_22, h_23, h_24, h_25, h_26, h_27⟩ (rfl) (rfl), h_28, h_29, (by rw [z8]; exact ⟨_, _, _, _, t_15, t_16⟩), ⟨_, hC_20⟩, ⟨_, _, _, _, _, ⟨d_12, d_13, d_14⟩⟩, h_30, h_31, ⟨hR, hPR, hNn⟩, (fun j a b => htt j a (by rw [z8] at b; exact b))⟩, fr_32⟩))

