/-! the class: what undo keeps -/
theorem PM.many {h h' : AH} {p : Nat} {pi : Int → Int} {Fs : Int → Nat → Int → Int} {n m : Int} (P : PM h p pi Fs n) (h0 : h' p = some (.inr (.inr (4, [.ref (p + 1), .int (iI m)])))) (a : Fr h h' p 1) : PM h' p pi Fs m := by
  obtain ⟨p0, ⟨r, p1, p2⟩, p3, p4⟩ := P
  exact ⟨h0, ⟨r, a.at (by omega) p1, p2⟩, p3, fun i x y => (p4 i x y).fr a (by omega)⟩
def rotX {α : Type} (X : Int → α) : Int → α := fun i => if i = 7 then X 0 else X (i + 1)
theorem PM.rot {h h' : AH} {p : Nat} {pi : Int → Int} {Fs : Int → Nat → Int → Int} {n m : Int} {r' : Int → Option Nat} (P : PM h p pi Fs n) (h0 : h' p = some (.inr (.inr (4, [.ref (p + 1), .int (iI m)])))) (h1 : h' (p + 1) = some (.inr (.inl (8, r'))))
    (e : ∀ i, 0 ≤ i → i < 8 → r' i = some (p + 2 + 10 * (rotX pi i).toNat)) (a : Fr h h' p 2) : PM h' p (rotX pi) (rotX Fs) m := by
  obtain ⟨p0, ⟨r, p1, p2⟩, p3, p4⟩ := P
  refine ⟨h0, ⟨r', h1, e⟩, fun i x y => ?_, fun i x y => ?_⟩
  · have s9 : ∀ k, 0 ≤ k → k < 8 → ∃ q, (0 ≤ q ∧ q < 8) ∧ rotX pi k = pi q ∧ ((k = 7 ∧ q = 0) ∨ (k ≠ 7 ∧ q = k + 1)) := fun k c d => by
      by_cases w : k = 7
      · exact ⟨0, by omega, if_pos w, Or.inl ⟨w, rfl⟩⟩
      · exact ⟨k + 1, by omega, if_neg w, Or.inr ⟨w, rfl⟩⟩
    obtain ⟨q, q1, q2, q3⟩ := s9 i x y
    rw [q2]
    refine ⟨(p3 q q1.1 q1.2).1, fun j c d w => ?_⟩
    obtain ⟨t, t1, t2, t3⟩ := s9 j c d
    rw [t2] at w
    have := (p3 q q1.1 q1.2).2 t t1.1 t1.2 w
    omega
  · show CM h' (p + 2 + 10 * (if i = 7 then pi 0 else pi (i + 1)).toNat) (if i = 7 then Fs 0 else Fs (i + 1))
    split
    · exact (p4 0 (by decide) (by decide)).fr a (by omega)
    · exact (p4 (i + 1) (by omega) (by omega)).fr a (by omega)
def QP (h : AH) (p : Nat) (f' : Int → Int) : AH → Prop := fun h' => ∃ (pi' : Int → Int) (Fs' : Int → Nat → Int → Int), PM h' p pi' Fs' (f' 58) ∧ PRl Fs' f' ∧ Fr h h' p 82
theorem PRl_c {Fs Gs : Int → Nat → Int → Int} {f : Int → Int} (h : PRl Fs f) (e : ∀ i, 0 ≤ i → i < f 58 → Gs i = Fs i) : PRl Gs f := fun i a b => by rw [e i a b]; exact h i a b

set_option maxHeartbeats 4000000 in
set_option maxRecDepth 20000 in
theorem kX5_rowAt (g : Gt) {h : AH} {p : Nat} {pi : Int → Int} {Fs : Int → Nat → Int → Int} {n : Int} {i : Int} {w : Nat} (hP : PM h p pi Fs n) (hi : 0 ≤ i ∧ i < 8) (hw : w = p + 2 + 10 * (pi i).toNat) : CnR g mX5_rowAt 2 [.ref p, .int (iI i)] h w := by
  refine Cn.mk (by decide +kernel) (Nat.le_of_ble_eq_true rfl) ?_
  intro x sz hx hr
  show Zj g x (sz, 0, 0) h 0 [(0, .ref p), (1, .int (iI i))] []
  obtain ⟨p0, ⟨r, p1, p2⟩, p3, p4⟩ := hP
  refine z_iload_n hx dX5_rowAt_0 rfl 1 rfl ?_
  refine z_iconst hx dX5_rowAt_1 ?_
  refine z_bipush hx dX5_rowAt_2 (by decide) ?_
  refine z_cSI (as := [.int (iI i), .int (iI 0), .int (iI 7)]) (rest := []) hx dX5_rowAt_4 lk_X5_33 wt_X8_isIn mo_X8_isIn (kX8_isIn g (a := i) (b := 0) (c := 7) (by omega) (by omega) (by omega)) (by decide) rfl rfl (Nat.le_of_ble_eq_true rfl) ?_
  refine z_ifeq_b (tgt := 19) hx dX5_rowAt_7 (by decide)  (fun c_1 => by exfalso; omega) (fun c_1 => ?_)
  refine z_aload_n hx dX5_rowAt_10 rfl 0 rfl ?_
  refine z_get hx dX5_rowAt_11 fl_X5_11 p0 rfl ?_
  refine z_iload_n hx dX5_rowAt_14 rfl 1 rfl ?_
  refine z_aald hx dX5_rowAt_15 p1 (by omega) (by decide) (show _ = some w from by rw [p2 i hi.1 hi.2, hw]) ?_
  refine z_goto (tgt := 20) hx dX5_rowAt_16 (by decide) ?_
  refine z_aret hx hr dX5_rowAt_20 rfl q_r

set_option maxHeartbeats 4000000 in
set_option maxRecDepth 20000 in
theorem kX5_dropFirst (g : Gt) {h : AH} {p : Nat} {pi : Int → Int} {Fs : Int → Nat → Int → Int} {n : Int} (hP : PM h p pi Fs n) : CnV g mX5_dropFirst 1 [.ref p] h (fun h' => PM h' p (rotX pi) (rotX Fs) 7 ∧ Fr h h' p 2) := by
  refine Cn.mk (by decide +kernel) (Nat.le_of_ble_eq_true rfl) ?_
  intro x sz hx hr
  show Zj g x (sz, 0, 0) h 0 [(0, .ref p)] []
  have hP9 := hP
  obtain ⟨p0, ⟨r, p1, p2⟩, p3, p4⟩ := hP
  obtain ⟨w0, e0⟩ : ∃ a : Nat, a = p + 2 + 10 * (pi 0).toNat := ⟨_, rfl⟩
  have r0 : r 0 = some w0 := by rw [e0]; exact p2 0 (by decide) (by decide)
  have c0 : CM h w0 (Fs 0) := by rw [e0]; exact p4 0 (by decide) (by decide)
  obtain ⟨w1, e1⟩ : ∃ a : Nat, a = p + 2 + 10 * (pi 1).toNat := ⟨_, rfl⟩
  have r1 : r 1 = some w1 := by rw [e1]; exact p2 1 (by decide) (by decide)
  have c1 : CM h w1 (Fs 1) := by rw [e1]; exact p4 1 (by decide) (by decide)
  obtain ⟨w2, e2⟩ : ∃ a : Nat, a = p + 2 + 10 * (pi 2).toNat := ⟨_, rfl⟩
  have r2 : r 2 = some w2 := by rw [e2]; exact p2 2 (by decide) (by decide)
  have c2 : CM h w2 (Fs 2) := by rw [e2]; exact p4 2 (by decide) (by decide)
  obtain ⟨w3, e3⟩ : ∃ a : Nat, a = p + 2 + 10 * (pi 3).toNat := ⟨_, rfl⟩
  have r3 : r 3 = some w3 := by rw [e3]; exact p2 3 (by decide) (by decide)
  have c3 : CM h w3 (Fs 3) := by rw [e3]; exact p4 3 (by decide) (by decide)
  obtain ⟨w4, e4⟩ : ∃ a : Nat, a = p + 2 + 10 * (pi 4).toNat := ⟨_, rfl⟩
  have r4 : r 4 = some w4 := by rw [e4]; exact p2 4 (by decide) (by decide)
  have c4 : CM h w4 (Fs 4) := by rw [e4]; exact p4 4 (by decide) (by decide)
  obtain ⟨w5, e5⟩ : ∃ a : Nat, a = p + 2 + 10 * (pi 5).toNat := ⟨_, rfl⟩
  have r5 : r 5 = some w5 := by rw [e5]; exact p2 5 (by decide) (by decide)
  have c5 : CM h w5 (Fs 5) := by rw [e5]; exact p4 5 (by decide) (by decide)
  obtain ⟨w6, e6⟩ : ∃ a : Nat, a = p + 2 + 10 * (pi 6).toNat := ⟨_, rfl⟩
  have r6 : r 6 = some w6 := by rw [e6]; exact p2 6 (by decide) (by decide)
  have c6 : CM h w6 (Fs 6) := by rw [e6]; exact p4 6 (by decide) (by decide)
  obtain ⟨w7, e7⟩ : ∃ a : Nat, a = p + 2 + 10 * (pi 7).toNat := ⟨_, rfl⟩
  have r7 : r 7 = some w7 := by rw [e7]; exact p2 7 (by decide) (by decide)
  have c7 : CM h w7 (Fs 7) := by rw [e7]; exact p4 7 (by decide) (by decide)
  have q0 : p + 2 ≤ w0 := by omega
  have q1 : p + 2 ≤ w1 := by omega
  have q2 : p + 2 ≤ w2 := by omega
  have q3 : p + 2 ≤ w3 := by omega
  have q4 : p + 2 ≤ w4 := by omega
  have q5 : p + 2 ≤ w5 := by omega
  have q6 : p + 2 ≤ w6 := by omega
  have q7 : p + 2 ≤ w7 := by omega
  refine z_aload_n hx dX5_dropFirst_0 rfl 0 rfl ?_
  refine z_get hx dX5_dropFirst_1 fl_X5_11 p0 rfl ?_
  refine z_iconst hx dX5_dropFirst_4 ?_
  refine z_aald hx dX5_dropFirst_5 p1 (by decide) (by decide) r0 ?_
  refine z_astore_n hx dX5_dropFirst_6 rfl (by decide) [1, 0] (lv' := [(0, .ref p), (1, .ref w0)]) rfl ?_
  refine z_iconst hx dX5_dropFirst_7 ?_
  refine z_istore_n hx dX5_dropFirst_8 rfl (by decide) [1, 2, 0] (lv' := [(0, .ref p), (1, .ref w0), (2, .int (iI 1))]) rfl ?_
  refine z_iload_n hx dX5_dropFirst_9 rfl 2 rfl ?_
  refine z_bipush hx dX5_dropFirst_10 (by decide) ?_
  refine z_icmp_ge (tgt := 35) hx dX5_dropFirst_12 (by decide) (by decide) (by decide) (fun q => absurd q (by decide)) (fun _ => ?_)
  refine z_aload_n hx dX5_dropFirst_15 rfl 0 rfl ?_
  refine z_get hx dX5_dropFirst_16 fl_X5_11 p0 rfl ?_
  refine z_iload_n hx dX5_dropFirst_19 rfl 2 rfl ?_
  refine z_iconst hx dX5_dropFirst_20 ?_
  refine z_isub hx dX5_dropFirst_21 ?_
  refine z_aload_n hx dX5_dropFirst_22 rfl 0 rfl ?_
  refine z_get hx dX5_dropFirst_23 fl_X5_11 p0 rfl ?_
  refine z_iload_n hx dX5_dropFirst_26 rfl 2 rfl ?_
  refine z_aald hx dX5_dropFirst_27 p1 (by decide) (by decide) r1 ?_
  refine z_aast (ci := 1) hx dX5_dropFirst_28 p1 (by decide) (by decide) c1.1 ?_
  obtain ⟨h_2, eh_2⟩ : ∃ hh, hh = hup h (p + 1) (.inr (.inl (8, fun q => if q = (1 - 1) then some w1 else r q))) := ⟨_, rfl⟩
  have hs_3 : h_2 (p + 1) = some (.inr (.inl (8, fun q => if q = (1 - 1) then some w1 else r q))) := by rw [eh_2]; exact hup_s _ _ _
  have hf_4 : Fr h h_2 (p + 1) 1 := by rw [eh_2]; exact hup_Fr _ _ _
  rw [← eh_2]
  have h_5 := hf_4.at (by omega) p0
  have h_6 := CM.fr c0 hf_4 (by omega)
  have h_7 := CM.fr c1 hf_4 (by omega)
  have h_8 := CM.fr c2 hf_4 (by omega)
  have h_9 := CM.fr c3 hf_4 (by omega)
  have h_10 := CM.fr c4 hf_4 (by omega)
  have h_11 := CM.fr c5 hf_4 (by omega)
  have h_12 := CM.fr c6 hf_4 (by omega)
  have h_13 := CM.fr c7 hf_4 (by omega)
  have fr_14 : Fr h h_2 p 2 := hf_4.wd (by omega) (by omega)
  refine z_iinc hx dX5_dropFirst_29 (by decide) 2 rfl [1, 2, 0] (lv' := [(0, .ref p), (1, .ref w0), (2, .int (iI 2))]) rfl ?_
  refine z_goto (tgt := 9) hx dX5_dropFirst_32 (by decide) ?_
  refine z_iload_n hx dX5_dropFirst_9 rfl 2 rfl ?_
  refine z_bipush hx dX5_dropFirst_10 (by decide) ?_
  refine z_icmp_ge (tgt := 35) hx dX5_dropFirst_12 (by decide) (by decide) (by decide) (fun q => absurd q (by decide)) (fun _ => ?_)
  refine z_aload_n hx dX5_dropFirst_15 rfl 0 rfl ?_
  refine z_get hx dX5_dropFirst_16 fl_X5_11 h_5 rfl ?_
  refine z_iload_n hx dX5_dropFirst_19 rfl 2 rfl ?_
  refine z_iconst hx dX5_dropFirst_20 ?_
  refine z_isub hx dX5_dropFirst_21 ?_
  refine z_aload_n hx dX5_dropFirst_22 rfl 0 rfl ?_
  refine z_get hx dX5_dropFirst_23 fl_X5_11 h_5 rfl ?_
  refine z_iload_n hx dX5_dropFirst_26 rfl 2 rfl ?_
  refine z_aald hx dX5_dropFirst_27 hs_3 (by decide) (by decide) r2 ?_
  refine z_aast (ci := 1) hx dX5_dropFirst_28 hs_3 (by decide) (by decide) h_8.1 ?_
  obtain ⟨h_16, eh_16⟩ : ∃ hh, hh = hup h_2 (p + 1) (.inr (.inl (8, fun q => if q = (2 - 1) then some w2 else (fun q => if q = (1 - 1) then some w1 else r q) q))) := ⟨_, rfl⟩
  have hs_17 : h_16 (p + 1) = some (.inr (.inl (8, fun q => if q = (2 - 1) then some w2 else (fun q => if q = (1 - 1) then some w1 else r q) q))) := by rw [eh_16]; exact hup_s _ _ _
  have hf_18 : Fr h_2 h_16 (p + 1) 1 := by rw [eh_16]; exact hup_Fr _ _ _
  rw [← eh_16]
  have h_19 := hf_18.at (by omega) h_5
  have h_20 := CM.fr h_6 hf_18 (by omega)
  have h_21 := CM.fr h_7 hf_18 (by omega)
  have h_22 := CM.fr h_8 hf_18 (by omega)
  have h_23 := CM.fr h_9 hf_18 (by omega)
  have h_24 := CM.fr h_10 hf_18 (by omega)
  have h_25 := CM.fr h_11 hf_18 (by omega)
  have h_26 := CM.fr h_12 hf_18 (by omega)
  have h_27 := CM.fr h_13 hf_18 (by omega)
  have fr_28 := fr_14.tr (hf_18.wd (by omega) (by omega))
  refine z_iinc hx dX5_dropFirst_29 (by decide) 2 rfl [1, 2, 0] (lv' := [(0, .ref p), (1, .ref w0), (2, .int (iI 3))]) rfl ?_
  refine z_goto (tgt := 9) hx dX5_dropFirst_32 (by decide) ?_
  refine z_iload_n hx dX5_dropFirst_9 rfl 2 rfl ?_
  refine z_bipush hx dX5_dropFirst_10 (by decide) ?_
  refine z_icmp_ge (tgt := 35) hx dX5_dropFirst_12 (by decide) (by decide) (by decide) (fun q => absurd q (by decide)) (fun _ => ?_)
  refine z_aload_n hx dX5_dropFirst_15 rfl 0 rfl ?_
  refine z_get hx dX5_dropFirst_16 fl_X5_11 h_19 rfl ?_
  refine z_iload_n hx dX5_dropFirst_19 rfl 2 rfl ?_
  refine z_iconst hx dX5_dropFirst_20 ?_
  refine z_isub hx dX5_dropFirst_21 ?_
  refine z_aload_n hx dX5_dropFirst_22 rfl 0 rfl ?_
  refine z_get hx dX5_dropFirst_23 fl_X5_11 h_19 rfl ?_
  refine z_iload_n hx dX5_dropFirst_26 rfl 2 rfl ?_
  refine z_aald hx dX5_dropFirst_27 hs_17 (by decide) (by decide) r3 ?_
  refine z_aast (ci := 1) hx dX5_dropFirst_28 hs_17 (by decide) (by decide) h_23.1 ?_
  obtain ⟨h_30, eh_30⟩ : ∃ hh, hh = hup h_16 (p + 1) (.inr (.inl (8, fun q => if q = (3 - 1) then some w3 else (fun q => if q = (2 - 1) then some w2 else (fun q => if q = (1 - 1) then some w1 else r q) q) q))) := ⟨_, rfl⟩
  have hs_31 : h_30 (p + 1) = some (.inr (.inl (8, fun q => if q = (3 - 1) then some w3 else (fun q => if q = (2 - 1) then some w2 else (fun q => if q = (1 - 1) then some w1 else r q) q) q))) := by rw [eh_30]; exact hup_s _ _ _
  have hf_32 : Fr h_16 h_30 (p + 1) 1 := by rw [eh_30]; exact hup_Fr _ _ _
  rw [← eh_30]
  have h_33 := hf_32.at (by omega) h_19
  have h_34 := CM.fr h_20 hf_32 (by omega)
  have h_35 := CM.fr h_21 hf_32 (by omega)
  have h_36 := CM.fr h_22 hf_32 (by omega)
  have h_37 := CM.fr h_23 hf_32 (by omega)
  have h_38 := CM.fr h_24 hf_32 (by omega)
  have h_39 := CM.fr h_25 hf_32 (by omega)
  have h_40 := CM.fr h_26 hf_32 (by omega)
  have h_41 := CM.fr h_27 hf_32 (by omega)
  have fr_42 := fr_28.tr (hf_32.wd (by omega) (by omega))
  refine z_iinc hx dX5_dropFirst_29 (by decide) 2 rfl [1, 2, 0] (lv' := [(0, .ref p), (1, .ref w0), (2, .int (iI 4))]) rfl ?_
  refine z_goto (tgt := 9) hx dX5_dropFirst_32 (by decide) ?_
  refine z_iload_n hx dX5_dropFirst_9 rfl 2 rfl ?_
  refine z_bipush hx dX5_dropFirst_10 (by decide) ?_
  refine z_icmp_ge (tgt := 35) hx dX5_dropFirst_12 (by decide) (by decide) (by decide) (fun q => absurd q (by decide)) (fun _ => ?_)
  refine z_aload_n hx dX5_dropFirst_15 rfl 0 rfl ?_
  refine z_get hx dX5_dropFirst_16 fl_X5_11 h_33 rfl ?_
  refine z_iload_n hx dX5_dropFirst_19 rfl 2 rfl ?_
  refine z_iconst hx dX5_dropFirst_20 ?_
  refine z_isub hx dX5_dropFirst_21 ?_
  refine z_aload_n hx dX5_dropFirst_22 rfl 0 rfl ?_
  refine z_get hx dX5_dropFirst_23 fl_X5_11 h_33 rfl ?_
  refine z_iload_n hx dX5_dropFirst_26 rfl 2 rfl ?_
  refine z_aald hx dX5_dropFirst_27 hs_31 (by decide) (by decide) r4 ?_
  refine z_aast (ci := 1) hx dX5_dropFirst_28 hs_31 (by decide) (by decide) h_38.1 ?_
  obtain ⟨h_44, eh_44⟩ : ∃ hh, hh = hup h_30 (p + 1) (.inr (.inl (8, fun q => if q = (4 - 1) then some w4 else (fun q => if q = (3 - 1) then some w3 else (fun q => if q = (2 - 1) then some w2 else (fun q => if q = (1 - 1) then some w1 else r q) q) q) q))) := ⟨_, rfl⟩
  have hs_45 : h_44 (p + 1) = some (.inr (.inl (8, fun q => if q = (4 - 1) then some w4 else (fun q => if q = (3 - 1) then some w3 else (fun q => if q = (2 - 1) then some w2 else (fun q => if q = (1 - 1) then some w1 else r q) q) q) q))) := by rw [eh_44]; exact hup_s _ _ _
  have hf_46 : Fr h_30 h_44 (p + 1) 1 := by rw [eh_44]; exact hup_Fr _ _ _
  rw [← eh_44]
  have h_47 := hf_46.at (by omega) h_33
  have h_48 := CM.fr h_34 hf_46 (by omega)
  have h_49 := CM.fr h_35 hf_46 (by omega)
  have h_50 := CM.fr h_36 hf_46 (by omega)
  have h_51 := CM.fr h_37 hf_46 (by omega)
  have h_52 := CM.fr h_38 hf_46 (by omega)
  have h_53 := CM.fr h_39 hf_46 (by omega)
  have h_54 := CM.fr h_40 hf_46 (by omega)
  have h_55 := CM.fr h_41 hf_46 (by omega)
  have fr_56 := fr_42.tr (hf_46.wd (by omega) (by omega))
  refine z_iinc hx dX5_dropFirst_29 (by decide) 2 rfl [1, 2, 0] (lv' := [(0, .ref p), (1, .ref w0), (2, .int (iI 5))]) rfl ?_
  refine z_goto (tgt := 9) hx dX5_dropFirst_32 (by decide) ?_
  refine z_iload_n hx dX5_dropFirst_9 rfl 2 rfl ?_
  refine z_bipush hx dX5_dropFirst_10 (by decide) ?_
  refine z_icmp_ge (tgt := 35) hx dX5_dropFirst_12 (by decide) (by decide) (by decide) (fun q => absurd q (by decide)) (fun _ => ?_)
  refine z_aload_n hx dX5_dropFirst_15 rfl 0 rfl ?_
  refine z_get hx dX5_dropFirst_16 fl_X5_11 h_47 rfl ?_
  refine z_iload_n hx dX5_dropFirst_19 rfl 2 rfl ?_
  refine z_iconst hx dX5_dropFirst_20 ?_
  refine z_isub hx dX5_dropFirst_21 ?_
  refine z_aload_n hx dX5_dropFirst_22 rfl 0 rfl ?_
  refine z_get hx dX5_dropFirst_23 fl_X5_11 h_47 rfl ?_
  refine z_iload_n hx dX5_dropFirst_26 rfl 2 rfl ?_
  refine z_aald hx dX5_dropFirst_27 hs_45 (by decide) (by decide) r5 ?_
  refine z_aast (ci := 1) hx dX5_dropFirst_28 hs_45 (by decide) (by decide) h_53.1 ?_
  obtain ⟨h_58, eh_58⟩ : ∃ hh, hh = hup h_44 (p + 1) (.inr (.inl (8, fun q => if q = (5 - 1) then some w5 else (fun q => if q = (4 - 1) then some w4 else (fun q => if q = (3 - 1) then some w3 else (fun q => if q = (2 - 1) then some w2 else (fun q => if q = (1 - 1) then some w1 else r q) q) q) q) q))) := ⟨_, rfl⟩
  have hs_59 : h_58 (p + 1) = some (.inr (.inl (8, fun q => if q = (5 - 1) then some w5 else (fun q => if q = (4 - 1) then some w4 else (fun q => if q = (3 - 1) then some w3 else (fun q => if q = (2 - 1) then some w2 else (fun q => if q = (1 - 1) then some w1 else r q) q) q) q) q))) := by rw [eh_58]; exact hup_s _ _ _
  have hf_60 : Fr h_44 h_58 (p + 1) 1 := by rw [eh_58]; exact hup_Fr _ _ _
  rw [← eh_58]
  have h_61 := hf_60.at (by omega) h_47
  have h_62 := CM.fr h_48 hf_60 (by omega)
  have h_63 := CM.fr h_49 hf_60 (by omega)
  have h_64 := CM.fr h_50 hf_60 (by omega)
  have h_65 := CM.fr h_51 hf_60 (by omega)
  have h_66 := CM.fr h_52 hf_60 (by omega)
  have h_67 := CM.fr h_53 hf_60 (by omega)
  have h_68 := CM.fr h_54 hf_60 (by omega)
  have h_69 := CM.fr h_55 hf_60 (by omega)
  have fr_70 := fr_56.tr (hf_60.wd (by omega) (by omega))
  refine z_iinc hx dX5_dropFirst_29 (by decide) 2 rfl [1, 2, 0] (lv' := [(0, .ref p), (1, .ref w0), (2, .int (iI 6))]) rfl ?_
  refine z_goto (tgt := 9) hx dX5_dropFirst_32 (by decide) ?_
  refine z_iload_n hx dX5_dropFirst_9 rfl 2 rfl ?_
  refine z_bipush hx dX5_dropFirst_10 (by decide) ?_
  refine z_icmp_ge (tgt := 35) hx dX5_dropFirst_12 (by decide) (by decide) (by decide) (fun q => absurd q (by decide)) (fun _ => ?_)
  refine z_aload_n hx dX5_dropFirst_15 rfl 0 rfl ?_
  refine z_get hx dX5_dropFirst_16 fl_X5_11 h_61 rfl ?_
  refine z_iload_n hx dX5_dropFirst_19 rfl 2 rfl ?_
  refine z_iconst hx dX5_dropFirst_20 ?_
  refine z_isub hx dX5_dropFirst_21 ?_
  refine z_aload_n hx dX5_dropFirst_22 rfl 0 rfl ?_
  refine z_get hx dX5_dropFirst_23 fl_X5_11 h_61 rfl ?_
  refine z_iload_n hx dX5_dropFirst_26 rfl 2 rfl ?_
  refine z_aald hx dX5_dropFirst_27 hs_59 (by decide) (by decide) r6 ?_
  refine z_aast (ci := 1) hx dX5_dropFirst_28 hs_59 (by decide) (by decide) h_68.1 ?_
  obtain ⟨h_72, eh_72⟩ : ∃ hh, hh = hup h_58 (p + 1) (.inr (.inl (8, fun q => if q = (6 - 1) then some w6 else (fun q => if q = (5 - 1) then some w5 else (fun q => if q = (4 - 1) then some w4 else (fun q => if q = (3 - 1) then some w3 else (fun q => if q = (2 - 1) then some w2 else (fun q => if q = (1 - 1) then some w1 else r q) q) q) q) q) q))) := ⟨_, rfl⟩
  have hs_73 : h_72 (p + 1) = some (.inr (.inl (8, fun q => if q = (6 - 1) then some w6 else (fun q => if q = (5 - 1) then some w5 else (fun q => if q = (4 - 1) then some w4 else (fun q => if q = (3 - 1) then some w3 else (fun q => if q = (2 - 1) then some w2 else (fun q => if q = (1 - 1) then some w1 else r q) q) q) q) q) q))) := by rw [eh_72]; exact hup_s _ _ _
  have hf_74 : Fr h_58 h_72 (p + 1) 1 := by rw [eh_72]; exact hup_Fr _ _ _
  rw [← eh_72]
  have h_75 := hf_74.at (by omega) h_61
  have h_76 := CM.fr h_62 hf_74 (by omega)
  have h_77 := CM.fr h_63 hf_74 (by omega)
  have h_78 := CM.fr h_64 hf_74 (by omega)
  have h_79 := CM.fr h_65 hf_74 (by omega)
  have h_80 := CM.fr h_66 hf_74 (by omega)
  have h_81 := CM.fr h_67 hf_74 (by omega)
  have h_82 := CM.fr h_68 hf_74 (by omega)
  have h_83 := CM.fr h_69 hf_74 (by omega)
  have fr_84 := fr_70.tr (hf_74.wd (by omega) (by omega))
  refine z_iinc hx dX5_dropFirst_29 (by decide) 2 rfl [1, 2, 0] (lv' := [(0, .ref p), (1, .ref w0), (2, .int (iI 7))]) rfl ?_
  refine z_goto (tgt := 9) hx dX5_dropFirst_32 (by decide) ?_
  refine z_iload_n hx dX5_dropFirst_9 rfl 2 rfl ?_
  refine z_bipush hx dX5_dropFirst_10 (by decide) ?_
  refine z_icmp_ge (tgt := 35) hx dX5_dropFirst_12 (by decide) (by decide) (by decide) (fun q => absurd q (by decide)) (fun _ => ?_)
  refine z_aload_n hx dX5_dropFirst_15 rfl 0 rfl ?_
  refine z_get hx dX5_dropFirst_16 fl_X5_11 h_75 rfl ?_
  refine z_iload_n hx dX5_dropFirst_19 rfl 2 rfl ?_
  refine z_iconst hx dX5_dropFirst_20 ?_
  refine z_isub hx dX5_dropFirst_21 ?_
  refine z_aload_n hx dX5_dropFirst_22 rfl 0 rfl ?_
  refine z_get hx dX5_dropFirst_23 fl_X5_11 h_75 rfl ?_
  refine z_iload_n hx dX5_dropFirst_26 rfl 2 rfl ?_
  refine z_aald hx dX5_dropFirst_27 hs_73 (by decide) (by decide) r7 ?_
  refine z_aast (ci := 1) hx dX5_dropFirst_28 hs_73 (by decide) (by decide) h_83.1 ?_
  obtain ⟨h_86, eh_86⟩ : ∃ hh, hh = hup h_72 (p + 1) (.inr (.inl (8, fun q => if q = (7 - 1) then some w7 else (fun q => if q = (6 - 1) then some w6 else (fun q => if q = (5 - 1) then some w5 else (fun q => if q = (4 - 1) then some w4 else (fun q => if q = (3 - 1) then some w3 else (fun q => if q = (2 - 1) then some w2 else (fun q => if q = (1 - 1) then some w1 else r q) q) q) q) q) q) q))) := ⟨_, rfl⟩
  have hs_87 : h_86 (p + 1) = some (.inr (.inl (8, fun q => if q = (7 - 1) then some w7 else (fun q => if q = (6 - 1) then some w6 else (fun q => if q = (5 - 1) then some w5 else (fun q => if q = (4 - 1) then some w4 else (fun q => if q = (3 - 1) then some w3 else (fun q => if q = (2 - 1) then some w2 else (fun q => if q = (1 - 1) then some w1 else r q) q) q) q) q) q) q))) := by rw [eh_86]; exact hup_s _ _ _
  have hf_88 : Fr h_72 h_86 (p + 1) 1 := by rw [eh_86]; exact hup_Fr _ _ _
  rw [← eh_86]
  have h_89 := hf_88.at (by omega) h_75
  have h_90 := CM.fr h_76 hf_88 (by omega)
  have h_91 := CM.fr h_77 hf_88 (by omega)
  have h_92 := CM.fr h_78 hf_88 (by omega)
  have h_93 := CM.fr h_79 hf_88 (by omega)
  have h_94 := CM.fr h_80 hf_88 (by omega)
  have h_95 := CM.fr h_81 hf_88 (by omega)
  have h_96 := CM.fr h_82 hf_88 (by omega)
  have h_97 := CM.fr h_83 hf_88 (by omega)
  have fr_98 := fr_84.tr (hf_88.wd (by omega) (by omega))
  refine z_iinc hx dX5_dropFirst_29 (by decide) 2 rfl [1, 2, 0] (lv' := [(0, .ref p), (1, .ref w0), (2, .int (iI 8))]) rfl ?_
  refine z_goto (tgt := 9) hx dX5_dropFirst_32 (by decide) ?_
  refine z_iload_n hx dX5_dropFirst_9 rfl 2 rfl ?_
  refine z_bipush hx dX5_dropFirst_10 (by decide) ?_
  refine z_icmp_ge (tgt := 35) hx dX5_dropFirst_12 (by decide) (by decide) (by decide) (fun _ => ?_) (fun q => absurd q (by decide))
  refine z_aload_n hx dX5_dropFirst_35 rfl 0 rfl ?_
  refine z_get hx dX5_dropFirst_36 fl_X5_11 h_89 rfl ?_
  refine z_bipush hx dX5_dropFirst_39 (by decide) ?_
  refine z_aload_n hx dX5_dropFirst_41 rfl 1 rfl ?_
  refine z_aast (ci := 1) hx dX5_dropFirst_42 hs_87 (by decide) (by decide) h_90.1 ?_
  obtain ⟨h_100, eh_100⟩ : ∃ hh, hh = hup h_86 (p + 1) (.inr (.inl (8, fun q => if q = 7 then some w0 else (fun q => if q = (7 - 1) then some w7 else (fun q => if q = (6 - 1) then some w6 else (fun q => if q = (5 - 1) then some w5 else (fun q => if q = (4 - 1) then some w4 else (fun q => if q = (3 - 1) then some w3 else (fun q => if q = (2 - 1) then some w2 else (fun q => if q = (1 - 1) then some w1 else r q) q) q) q) q) q) q) q))) := ⟨_, rfl⟩
  have hs_101 : h_100 (p + 1) = some (.inr (.inl (8, fun q => if q = 7 then some w0 else (fun q => if q = (7 - 1) then some w7 else (fun q => if q = (6 - 1) then some w6 else (fun q => if q = (5 - 1) then some w5 else (fun q => if q = (4 - 1) then some w4 else (fun q => if q = (3 - 1) then some w3 else (fun q => if q = (2 - 1) then some w2 else (fun q => if q = (1 - 1) then some w1 else r q) q) q) q) q) q) q) q))) := by rw [eh_100]; exact hup_s _ _ _
  have hf_102 : Fr h_86 h_100 (p + 1) 1 := by rw [eh_100]; exact hup_Fr _ _ _
  rw [← eh_100]
  have h_103 := hf_102.at (by omega) h_89
  have h_104 := CM.fr h_90 hf_102 (by omega)
  have h_105 := CM.fr h_91 hf_102 (by omega)
  have h_106 := CM.fr h_92 hf_102 (by omega)
  have h_107 := CM.fr h_93 hf_102 (by omega)
  have h_108 := CM.fr h_94 hf_102 (by omega)
  have h_109 := CM.fr h_95 hf_102 (by omega)
  have h_110 := CM.fr h_96 hf_102 (by omega)
  have h_111 := CM.fr h_97 hf_102 (by omega)
  have fr_112 := fr_98.tr (hf_102.wd (by omega) (by omega))
  refine z_aload_n hx dX5_dropFirst_43 rfl 0 rfl ?_
  refine z_bipush hx dX5_dropFirst_44 (by decide) ?_
  refine z_putQ hx dX5_dropFirst_46 fl_X5_17 h_103 ⟨rfl, rfl⟩ (Nat.le_of_ble_eq_true rfl) (fun h_113 hs_114 hf_115 => ?_)
  have h_116 := hf_115.at (by omega) hs_101
  have h_117 := CM.fr h_104 hf_115 (by omega)
  have h_118 := CM.fr h_105 hf_115 (by omega)
  have h_119 := CM.fr h_106 hf_115 (by omega)
  have h_120 := CM.fr h_107 hf_115 (by omega)
  have h_121 := CM.fr h_108 hf_115 (by omega)
  have h_122 := CM.fr h_109 hf_115 (by omega)
  have h_123 := CM.fr h_110 hf_115 (by omega)
  have h_124 := CM.fr h_111 hf_115 (by omega)
  have fr_125 := fr_112.tr (hf_115.wd (by omega) (by omega))
  have hrr : ∀ i : Int, 0 ≤ i → i < 8 → ((fun q => if q = 7 then some w0 else (fun q => if q = (7 - 1) then some w7 else (fun q => if q = (6 - 1) then some w6 else (fun q => if q = (5 - 1) then some w5 else (fun q => if q = (4 - 1) then some w4 else (fun q => if q = (3 - 1) then some w3 else (fun q => if q = (2 - 1) then some w2 else (fun q => if q = (1 - 1) then some w1 else r q) q) q) q) q) q) q) q)) i = some (p + 2 + 10 * (rotX pi i).toNat) := by
    intro i a b
    have ci : i = 0 ∨ i = 1 ∨ i = 2 ∨ i = 3 ∨ i = 4 ∨ i = 5 ∨ i = 6 ∨ i = 7 := by omega
    rcases ci with rfl | rfl | rfl | rfl | rfl | rfl | rfl | rfl
    · exact congrArg some e1
    · exact congrArg some e2
    · exact congrArg some e3
    · exact congrArg some e4
    · exact congrArg some e5
    · exact congrArg some e6
    · exact congrArg some e7
    · exact congrArg some e0
  refine z_vret hx hr dX5_dropFirst_49 rfl (q_v (Q := fun h' => PM h' p (rotX pi) (rotX Fs) 7 ∧ Fr h h' p 2) ⟨PM.rot (m := 7) hP9 hs_114 h_116 hrr fr_125, fr_125⟩)

set_option maxHeartbeats 4000000 in
set_option maxRecDepth 20000 in
theorem kX5_keep (g : Gt) {h : AH} {p c : Nat} {pi : Int → Int} {Fs : Int → Nat → Int → Int} {F : Nat → Int → Int} {f : Int → Int} (hP : PM h p pi Fs (f 58)) (hC : CM h c F) (hR : RLC F f) (hI : inv f) (hQ : PRl Fs f) (hm : ∀ i, 0 ≤ i → i < f 58 → inv (mixF f i)) (h58 : 0 ≤ f 58 ∧ f 58 ≤ 8) (hcp : c + 10 ≤ p ∨ p + 82 ≤ c) : CnV g mX5_keep 3 [.ref p, .ref c] h (QP h p (kpb f)) := by
  refine Cn.mk (by decide +kernel) (Nat.le_of_ble_eq_true rfl) ?_
  intro x sz hx hr
  show Zj g x (sz, 0, 0) h 0 [(0, .ref p), (1, .ref c)] []
  refine z_aload_n hx dX5_keep_0 rfl 0 rfl ?_
  refine z_get hx dX5_keep_1 fl_X5_17 hP.1 rfl ?_
  refine z_bipush hx dX5_keep_4 (by decide) ?_
  refine z_icmp_lt (tgt := 13) hx dX5_keep_6 (by decide) (by omega) (by decide) (fun c_1 => ?_) (fun c_1 => ?_)
  ·
    refine z_aload_n hx dX5_keep_13 rfl 0 rfl ?_
    refine z_aload_n hx dX5_keep_14 rfl 0 rfl ?_
    refine z_get hx dX5_keep_15 fl_X5_17 hP.1 rfl ?_
    obtain ⟨w_2, ew_2⟩ : ∃ a : Nat, a = p + 2 + 10 * (pi (f 58)).toNat := ⟨_, rfl⟩
    have qw_2 := PM.pi hP (i := (f 58)) (by omega)
    have cw_2 : CM h w_2 (Fs (f 58)) := by rw [ew_2]; exact PM.row hP (by omega)
    have rw_2 : p + 2 ≤ w_2 ∧ w_2 + 10 ≤ p + 82 := by omega
    refine z_cVR (as := [.int (iI (f 58))]) (rest := []) hx dX5_keep_18 lk_X5_25 wm_X5_rowAt wv_X5_rowAt (rcv_obj hx (And.left hP) rfl) mo_X5_rowAt (kX5_rowAt g (i := (f 58)) (w := w_2) hP (by omega) ew_2) (by decide) rfl rfl (Nat.le_of_ble_eq_true rfl) ?_
    refine z_astore_n hx dX5_keep_21 rfl (by decide) [1, 2, 0] (lv' := [(0, .ref p), (1, .ref c), (2, .ref w_2)]) rfl ?_
    refine z_aload_n hx dX5_keep_22 rfl 2 rfl ?_
    refine z_ifnull hx dX5_keep_23 ?_
    refine z_aload_n hx dX5_keep_26 rfl 2 rfl ?_
    refine z_aload_n hx dX5_keep_27 rfl 1 rfl ?_
    refine z_cVV (as := [.ref c]) (rest := []) hx dX5_keep_28 lk_X5_29 wm_X1_becomes wv_X1_becomes (rcv_obj hx (And.left cw_2) rfl) mo_X1_becomes (kX1_becomes g (F := (Fs (f 58))) (G := F) (f := f) cw_2 hC hR hI (by omega)) (by decide) rfl rfl (Nat.le_of_ble_eq_true rfl) (fun h_3 q_4 => ?_)
    obtain ⟨F_7, hC_5, hR_8, hf_6⟩ := q_4
    have hP_9 := PM.up hP (i := (f 58)) (by omega) (by rw [← ew_2]; exact hC_5) (by rw [← ew_2]; exact hf_6)
    have h_10 := CM.fr hC hf_6 (by omega)
    have fr_11 : Fr h h_3 p 82 := hf_6.wd (by omega) (by omega)
    refine z_aload_n hx dX5_keep_31 rfl 0 rfl ?_
    refine z_dup hx dX5_keep_32 rfl ?_
    refine z_get hx dX5_keep_33 fl_X5_17 hP_9.1 rfl ?_
    refine z_iconst hx dX5_keep_36 ?_
    refine z_iadd hx dX5_keep_37 ?_
    refine z_putQ hx dX5_keep_38 fl_X5_17 hP_9.1 ⟨rfl, rfl⟩ (Nat.le_of_ble_eq_true rfl) (fun h_12 hs_13 hf_14 => ?_)
    have hP_15 := PM.many (m := ((f 58) + 1)) hP_9 hs_13 hf_14
    have h_16 := CM.fr h_10 hf_14 (by omega)
    have fr_17 := fr_11.tr (hf_14.wd (by omega) (by omega))
    have k1 : kpb1 f 58 = f 58 := by unfold kpb1; rw [if_neg (by omega)]
    refine z_vret hx hr dX5_keep_41 rfl (q_v ⟨_, _, by rw [kpb_58, k1]; exact hP_15, PRl_c (PRl_keep hQ hI hm h58 hR_8) (fun i a b => by rw [kpb_58] at b; (try dsimp only); rw [k1] at b ⊢; by_cases q : i = f 58; (rw [if_pos (by omega), if_pos (by omega)]); (rw [if_neg (by omega), if_neg (by omega)]; rw [if_neg (by omega)])), fr_17⟩)
  ·
    refine z_aload_n hx dX5_keep_9 rfl 0 rfl ?_
    refine z_cVV (as := []) (rest := []) hx dX5_keep_10 lk_X5_22 wm_X5_dropFirst wv_X5_dropFirst (rcv_obj hx (And.left hP) rfl) mo_X5_dropFirst (kX5_dropFirst g hP) (by decide) rfl rfl (Nat.le_of_ble_eq_true rfl) (fun h_18 q_19 => ?_)
    obtain ⟨hP_20, hf_21⟩ := q_19
    have h_22 := CM.fr hC hf_21 (by omega)
    have fr_23 : Fr h h_18 p 82 := hf_21.wd (by omega) (by omega)
    refine z_aload_n hx dX5_keep_13 rfl 0 rfl ?_
    refine z_aload_n hx dX5_keep_14 rfl 0 rfl ?_
    refine z_get hx dX5_keep_15 fl_X5_17 hP_20.1 rfl ?_
    obtain ⟨w_24, ew_24⟩ : ∃ a : Nat, a = p + 2 + 10 * ((rotX pi) 7).toNat := ⟨_, rfl⟩
    have qw_24 := PM.pi hP_20 (i := 7) (by omega)
    have cw_24 : CM h_18 w_24 ((rotX Fs) 7) := by rw [ew_24]; exact PM.row hP_20 (by omega)
    have rw_24 : p + 2 ≤ w_24 ∧ w_24 + 10 ≤ p + 82 := by omega
    refine z_cVR (as := [.int (iI 7)]) (rest := []) hx dX5_keep_18 lk_X5_25 wm_X5_rowAt wv_X5_rowAt (rcv_obj hx (And.left hP_20) rfl) mo_X5_rowAt (kX5_rowAt g (i := 7) (w := w_24) hP_20 (by omega) ew_24) (by decide) rfl rfl (Nat.le_of_ble_eq_true rfl) ?_
    refine z_astore_n hx dX5_keep_21 rfl (by decide) [1, 2, 0] (lv' := [(0, .ref p), (1, .ref c), (2, .ref w_24)]) rfl ?_
    refine z_aload_n hx dX5_keep_22 rfl 2 rfl ?_
    refine z_ifnull hx dX5_keep_23 ?_
    refine z_aload_n hx dX5_keep_26 rfl 2 rfl ?_
    refine z_aload_n hx dX5_keep_27 rfl 1 rfl ?_
    refine z_cVV (as := [.ref c]) (rest := []) hx dX5_keep_28 lk_X5_29 wm_X1_becomes wv_X1_becomes (rcv_obj hx (And.left cw_24) rfl) mo_X1_becomes (kX1_becomes g (F := ((rotX Fs) 7)) (G := F) (f := f) cw_24 h_22 hR hI (by omega)) (by decide) rfl rfl (Nat.le_of_ble_eq_true rfl) (fun h_25 q_26 => ?_)
    obtain ⟨F_29, hC_27, hR_30, hf_28⟩ := q_26
    have hP_31 := PM.up hP_20 (i := 7) (by omega) (by rw [← ew_24]; exact hC_27) (by rw [← ew_24]; exact hf_28)
    have h_32 := CM.fr h_22 hf_28 (by omega)
    have fr_33 := fr_23.tr (hf_28.wd (by omega) (by omega))
    refine z_aload_n hx dX5_keep_31 rfl 0 rfl ?_
    refine z_dup hx dX5_keep_32 rfl ?_
    refine z_get hx dX5_keep_33 fl_X5_17 hP_31.1 rfl ?_
    refine z_iconst hx dX5_keep_36 ?_
    refine z_iadd hx dX5_keep_37 ?_
    refine z_putQ hx dX5_keep_38 fl_X5_17 hP_31.1 ⟨rfl, rfl⟩ (Nat.le_of_ble_eq_true rfl) (fun h_34 hs_35 hf_36 => ?_)
    have hP_37 := PM.many (m := (7 + 1)) hP_31 hs_35 hf_36
    have h_38 := CM.fr h_32 hf_36 (by omega)
    have fr_39 := fr_33.tr (hf_36.wd (by omega) (by omega))
    have k1 : kpb1 f 58 = 7 := by unfold kpb1; rw [if_pos (by omega)]; exact fup_s _ _ _
    refine z_vret hx hr dX5_keep_41 rfl (q_v ⟨_, _, by rw [kpb_58, k1]; exact hP_37, PRl_c (PRl_keep hQ hI hm h58 hR_30) (fun i a b => by rw [kpb_58] at b; (try dsimp only); rw [k1] at b ⊢; by_cases q : i = 7; (rw [if_pos (by omega), if_pos (by omega)]); (rw [if_neg (by omega), if_neg (by omega)]; rw [if_pos (by omega)]; exact if_neg (show ¬ i = 7 by omega))), fr_39⟩)

