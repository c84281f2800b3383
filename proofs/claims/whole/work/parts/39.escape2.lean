/-! the class: the search for a way, its methods -/
theorem EM.row {h : AH} {e w : Nat} {C : Int → Int} {Es : Int → Nat → Int → Int} {i : Int} {F : Nat → Int → Int} (E : EM h e C Es) (hi : 0 ≤ i ∧ i < 5) (hw : w = e + 3 + 10 * i.toNat) (eF : Es i = F) : CM h w F := by subst hw; subst eF; exact E.2.2.2 i hi.1 hi.2
theorem EM.up {h h' : AH} {e w : Nat} {C : Int → Int} {Es : Int → Nat → Int → Int} {i : Int} {F : Nat → Int → Int} (E : EM h e C Es) (hi : 0 ≤ i ∧ i < 5) (hw : w = e + 3 + 10 * i.toNat) (hc : CM h' w F) (a : Fr h h' w 10) : EM h' e C (fun j => if j = i then F else Es j) := by
  obtain ⟨m0, ⟨r, m1, m2⟩, m3, m4⟩ := E
  subst hw
  refine ⟨a.at (by omega) m0, ⟨r, a.at (by omega) m1, m2⟩, a.at (by omega) m3, fun j x y => ?_⟩
  dsimp only
  by_cases c : j = i
  · subst c; rw [if_pos rfl]; exact hc
  · rw [if_neg c]; exact (m4 j x y).fr a (by omega)
theorem EM.ch {h h' : AH} {e : Nat} {C C' : Int → Int} {Es : Int → Nat → Int → Int} (E : EM h e C Es) (hc : h' (e + 2) = some (.inl (0, 4, C'))) (a : Fr h h' (e + 2) 1) : EM h' e C' Es := by
  obtain ⟨m0, ⟨r, m1, m2⟩, m3, m4⟩ := E
  exact ⟨a.at (by omega) m0, ⟨r, a.at (by omega) m1, m2⟩, hc, fun j x y => (m4 j x y).fr a (by omega)⟩
/-- what a search leaves -/
def QS (h : AH) (e : Nat) (C : Int → Int) (Es : Int → Nat → Int → Int) (p s : Int) (m : Nat) (f : Int → Int) : AH → Prop := fun h' => ∃ (C' : Int → Int) (Es' : Int → Nat → Int → Int), EM h' e C' Es' ∧ (∀ i, 0 ≤ i → i ≤ s → Es' i = Es i) ∧ (∀ i, 0 ≤ i → i < s → C' i = C i) ∧
  (fc p m f ≠ -1 → ∀ j, 0 ≤ j → j < (m : Int) → C' (s + j) = fc p m f / p5 ((m : Int) - 1 - j) % 5) ∧ Fr h h' e 53
theorem esc_dig {m : Nat} (hm : m ≤ 3) {C : Int → Int} {s w r v : Int} (hw : 0 ≤ w ∧ w < 5) (hr : 0 ≤ r ∧ r < p5 (m : Int)) (ev : v = w * p5 (m : Int) + r) (k2 : C s = w) (k3 : ∀ j, 0 ≤ j → j < (m : Int) → C (s + 1 + j) = r / p5 ((m : Int) - 1 - j) % 5) :
    ∀ j, 0 ≤ j → j < ((m + 1 : Nat) : Int) → C (s + j) = v / p5 (((m + 1 : Nat) : Int) - 1 - j) % 5 := by
  intro j a b
  have d := dig_s hm hw hr (j := j) ⟨a, by omega⟩
  rw [ev, show ((m + 1 : Nat) : Int) - 1 - j = (m : Int) - j by omega, d]
  by_cases c : j = 0
  · rw [if_pos c, c, Int.add_zero]; exact k2
  · rw [if_neg c, ← k3 (j - 1) (by omega) (by omega)]; congr 1; omega

set_option maxHeartbeats 4000000 in
set_option maxRecDepth 20000 in
theorem kX2_stageAt (g : Gt) {h : AH} {e : Nat} {C : Int → Int} {Es : Int → Nat → Int → Int} {i : Int} {w : Nat} (hE : EM h e C Es) (hi : 0 ≤ i ∧ i ≤ 4) (hw : w = e + 3 + 10 * i.toNat) : CnR g mX2_stageAt 2 [.ref e, .int (iI i)] h w := by
  refine Cn.mk (by decide +kernel) (Nat.le_of_ble_eq_true rfl) ?_
  intro x sz hx hr
  show Zj g x (sz, 0, 0) h 0 [(0, .ref e), (1, .int (iI i))] []
  obtain ⟨e0, ⟨r, e1, e2⟩, e3, e4⟩ := hE
  refine z_iload_n hx dX2_stageAt_0 rfl 1 rfl ?_
  refine z_iconst hx dX2_stageAt_1 ?_
  refine z_iconst hx dX2_stageAt_2 ?_
  refine z_cSI (as := [.int (iI i), .int (iI 0), .int (iI 4)]) (rest := []) hx dX2_stageAt_3 lk_X2_54 wt_X8_isIn mo_X8_isIn (kX8_isIn g (a := i) (b := 0) (c := 4) (by omega) (by omega) (by omega)) (by decide) rfl rfl (Nat.le_of_ble_eq_true rfl) ?_
  refine z_ifeq_b (tgt := 18) hx dX2_stageAt_6 (by decide)  (fun c_1 => by exfalso; omega) (fun c_1 => ?_)
  refine z_aload_n hx dX2_stageAt_9 rfl 0 rfl ?_
  refine z_get hx dX2_stageAt_10 fl_X2_11 e0 rfl ?_
  refine z_iload_n hx dX2_stageAt_13 rfl 1 rfl ?_
  refine z_aald hx dX2_stageAt_14 e1 (by omega) (by decide) (show _ = some w from by rw [e2 i hi.1 (by omega), hw]) ?_
  refine z_goto (tgt := 19) hx dX2_stageAt_15 (by decide) ?_
  refine z_aret hx hr dX2_stageAt_19 rfl q_r

set_option maxHeartbeats 4000000 in
set_option maxRecDepth 20000 in
theorem kX2_stageAtN (g : Gt) {h : AH} {e : Nat} {C : Int → Int} {Es : Int → Nat → Int → Int} {i : Int} (hE : EM h e C Es) (g_i : rgI i) (hi : ¬ (0 ≤ i ∧ i ≤ 4)) : CnN g mX2_stageAt 2 [.ref e, .int (iI i)] h := by
  refine Cn.mk (by decide +kernel) (Nat.le_of_ble_eq_true rfl) ?_
  intro x sz hx hr
  show Zj g x (sz, 0, 0) h 0 [(0, .ref e), (1, .int (iI i))] []
  obtain ⟨e0, ⟨r, e1, e2⟩, e3, e4⟩ := hE
  refine z_iload_n hx dX2_stageAt_0 rfl 1 rfl ?_
  refine z_iconst hx dX2_stageAt_1 ?_
  refine z_iconst hx dX2_stageAt_2 ?_
  refine z_cSI (as := [.int (iI i), .int (iI 0), .int (iI 4)]) (rest := []) hx dX2_stageAt_3 lk_X2_54 wt_X8_isIn mo_X8_isIn (kX8_isIn g (a := i) (b := 0) (c := 4) (by omega) (by omega) (by omega)) (by decide) rfl rfl (Nat.le_of_ble_eq_true rfl) ?_
  refine z_ifeq_b (tgt := 18) hx dX2_stageAt_6 (by decide)  (fun c_1 => ?_) (fun c_1 => by exfalso; omega)
  refine z_null hx dX2_stageAt_18 ?_
  refine z_aretN hx hr dX2_stageAt_19 rfl q_n

set_option maxHeartbeats 4000000 in
set_option maxRecDepth 20000 in
theorem kX2_ub0a (g : Gt) {h : AH} {e : Nat} {C : Int → Int} {Es : Int → Nat → Int → Int} {f : Int → Int} {p s t : Int} (hE : EM h e C Es) (hR : RLC (Es s) f) (hI : inv f) (hp : 0 ≤ p ∧ p < f 37) (hs : (0 ≤ s ∧ s + 0 = t) ∧ t ≤ 4 ∧ s ≤ 3) : CnJ g mX2_isUnderBehind 8 [.ref e, .int (iI p), .int (iI s), .int (iI t)] h (b2i (fc p 0 f ≠ -1)) (QS h e C Es p s 0 f) := by
  refine Cn.mk (by decide +kernel) (Nat.le_of_ble_eq_true rfl) ?_
  intro x sz hx hr
  show Zj g x (sz, 0, 0) h 0 [(0, .ref e), (1, .int (iI p)), (2, .int (iI s)), (3, .int (iI t))] []
  have hn := hI.n
  have ip := hI.p p (by omega)
  refine z_aload_n hx dX2_isUnderBehind_0 rfl 0 rfl ?_
  refine z_iload_n hx dX2_isUnderBehind_1 rfl 2 rfl ?_
  obtain ⟨w_1, ew_1⟩ : ∃ a : Nat, a = e + 3 + 10 * (s : Int).toNat := ⟨_, rfl⟩
  have rw_1 : e + 3 ≤ w_1 ∧ w_1 + 10 ≤ e + 53 := by omega
  refine z_cVR (as := [.int (iI s)]) (rest := []) hx dX2_isUnderBehind_2 lk_X2_22 wm_X2_stageAt wv_X2_stageAt (rcv_obj hx hE.1 rfl) mo_X2_stageAt (kX2_stageAt g (i := s) (w := w_1) hE (by omega) ew_1) (by decide) rfl rfl (Nat.le_of_ble_eq_true rfl) ?_
  refine z_astore hx dX2_isUnderBehind_5 (by decide) [1, 2, 3, 4, 0] (lv' := [(0, .ref e), (1, .int (iI p)), (2, .int (iI s)), (3, .int (iI t)), (4, .ref w_1)]) rfl ?_
  refine z_aload_n hx dX2_isUnderBehind_7 rfl 0 rfl ?_
  refine z_iload_n hx dX2_isUnderBehind_8 rfl 2 rfl ?_
  refine z_iconst hx dX2_isUnderBehind_9 ?_
  refine z_iadd hx dX2_isUnderBehind_10 ?_
  obtain ⟨w_2, ew_2⟩ : ∃ a : Nat, a = e + 3 + 10 * ((s + 1) : Int).toNat := ⟨_, rfl⟩
  have rw_2 : e + 3 ≤ w_2 ∧ w_2 + 10 ≤ e + 53 := by omega
  refine z_cVR (as := [.int (iI (s + 1))]) (rest := []) hx dX2_isUnderBehind_11 lk_X2_22 wm_X2_stageAt wv_X2_stageAt (rcv_obj hx hE.1 rfl) mo_X2_stageAt (kX2_stageAt g (i := (s + 1)) (w := w_2) hE (by omega) ew_2) (by decide) rfl rfl (Nat.le_of_ble_eq_true rfl) ?_
  refine z_astore hx dX2_isUnderBehind_14 (by decide) [1, 2, 3, 4, 5, 0] (lv' := [(0, .ref e), (1, .int (iI p)), (2, .int (iI s)), (3, .int (iI t)), (4, .ref w_1), (5, .ref w_2)]) rfl ?_
  refine z_aload hx dX2_isUnderBehind_16 4 rfl ?_
  refine z_ifnull hx dX2_isUnderBehind_18 ?_
  refine z_iload_n hx dX2_isUnderBehind_21 rfl 2 rfl ?_
  refine z_iload_n hx dX2_isUnderBehind_22 rfl 3 rfl ?_
  refine z_icmp_ne (tgt := 42) hx dX2_isUnderBehind_23 (by decide) (by omega) (by omega) (fun c_3 => by exfalso; omega) (fun c_3 => ?_)
  refine z_aload hx dX2_isUnderBehind_26 4 rfl ?_
  refine z_get hx dX2_isUnderBehind_28 fl_X2_34 (EM.row hE (i := s) (by omega) ew_1 rfl).1 rfl ?_
  refine z_iload_n hx dX2_isUnderBehind_31 rfl 1 rfl ?_
  refine z_iald hx dX2_isUnderBehind_32 (EM.row hE (i := s) (by omega) ew_1 rfl).2.2.2.2.2.2.1 (by omega) (by decide) ?_
  have rp_4 := hR.p p (by first | omega | decide)
  have ip_5 := hI.p p (by first | omega | decide)
  have cc_6 := cv_c (f (17 + p))
  refine z_if_lt (tgt := 40) hx dX2_isUnderBehind_33 (by decide) (by omega) (fun c_7 => ?_) (fun c_7 => ?_)
  ·
    refine z_iconst hx dX2_isUnderBehind_40 ?_
    refine z_iret hx hr dX2_isUnderBehind_41 rfl rfl (q_j (by first | exact (b2i_t (by rw [show fc p 0 f = 0 from if_pos (by omega)]; decide)).symm | exact (b2i_f (fun z => z (if_neg (by omega)))).symm) ⟨C, Es, hE, (fun _ _ _ => rfl), (fun _ _ _ => rfl), (fun _ j a b => absurd (show j < 0 from b) (by omega)), Fr.rf⟩)
  ·
    refine z_iconst hx dX2_isUnderBehind_36 ?_
    refine z_goto (tgt := 41) hx dX2_isUnderBehind_37 (by decide) ?_
    refine z_iret hx hr dX2_isUnderBehind_41 rfl rfl (q_j (by first | exact (b2i_t (by rw [show fc p 0 f = 0 from if_pos (by omega)]; decide)).symm | exact (b2i_f (fun z => z (if_neg (by omega)))).symm) ⟨C, Es, hE, (fun _ _ _ => rfl), (fun _ _ _ => rfl), (fun _ j a b => absurd (show j < 0 from b) (by omega)), Fr.rf⟩)

set_option maxHeartbeats 4000000 in
set_option maxRecDepth 20000 in
theorem kX2_ub0b (g : Gt) {h : AH} {e : Nat} {C : Int → Int} {Es : Int → Nat → Int → Int} {f : Int → Int} {p s t : Int} (hE : EM h e C Es) (hR : RLC (Es s) f) (hI : inv f) (hp : 0 ≤ p ∧ p < f 37) (hs : (0 ≤ s ∧ s + 0 = t) ∧ t ≤ 4 ∧ s = 4) : CnJ g mX2_isUnderBehind 8 [.ref e, .int (iI p), .int (iI s), .int (iI t)] h (b2i (fc p 0 f ≠ -1)) (QS h e C Es p s 0 f) := by
  refine Cn.mk (by decide +kernel) (Nat.le_of_ble_eq_true rfl) ?_
  intro x sz hx hr
  show Zj g x (sz, 0, 0) h 0 [(0, .ref e), (1, .int (iI p)), (2, .int (iI s)), (3, .int (iI t))] []
  have hn := hI.n
  have ip := hI.p p (by omega)
  refine z_aload_n hx dX2_isUnderBehind_0 rfl 0 rfl ?_
  refine z_iload_n hx dX2_isUnderBehind_1 rfl 2 rfl ?_
  obtain ⟨w_1, ew_1⟩ : ∃ a : Nat, a = e + 3 + 10 * (s : Int).toNat := ⟨_, rfl⟩
  have rw_1 : e + 3 ≤ w_1 ∧ w_1 + 10 ≤ e + 53 := by omega
  refine z_cVR (as := [.int (iI s)]) (rest := []) hx dX2_isUnderBehind_2 lk_X2_22 wm_X2_stageAt wv_X2_stageAt (rcv_obj hx hE.1 rfl) mo_X2_stageAt (kX2_stageAt g (i := s) (w := w_1) hE (by omega) ew_1) (by decide) rfl rfl (Nat.le_of_ble_eq_true rfl) ?_
  refine z_astore hx dX2_isUnderBehind_5 (by decide) [1, 2, 3, 4, 0] (lv' := [(0, .ref e), (1, .int (iI p)), (2, .int (iI s)), (3, .int (iI t)), (4, .ref w_1)]) rfl ?_
  refine z_aload_n hx dX2_isUnderBehind_7 rfl 0 rfl ?_
  refine z_iload_n hx dX2_isUnderBehind_8 rfl 2 rfl ?_
  refine z_iconst hx dX2_isUnderBehind_9 ?_
  refine z_iadd hx dX2_isUnderBehind_10 ?_
  refine z_cVN (as := [.int (iI (s + 1))]) (rest := []) hx dX2_isUnderBehind_11 lk_X2_22 wm_X2_stageAt wv_X2_stageAt (rcv_obj hx hE.1 rfl) mo_X2_stageAt (kX2_stageAtN g (i := (s + 1)) hE (by omega) (by omega)) (by decide) rfl rfl (Nat.le_of_ble_eq_true rfl) ?_
  refine z_aNstore hx dX2_isUnderBehind_14 (by decide) [1, 2, 3, 4, 5, 0] (lv' := [(0, .ref e), (1, .int (iI p)), (2, .int (iI s)), (3, .int (iI t)), (4, .ref w_1), (5, .null)]) rfl ?_
  refine z_aload hx dX2_isUnderBehind_16 4 rfl ?_
  refine z_ifnull hx dX2_isUnderBehind_18 ?_
  refine z_iload_n hx dX2_isUnderBehind_21 rfl 2 rfl ?_
  refine z_iload_n hx dX2_isUnderBehind_22 rfl 3 rfl ?_
  refine z_icmp_ne (tgt := 42) hx dX2_isUnderBehind_23 (by decide) (by omega) (by omega) (fun c_2 => by exfalso; omega) (fun c_2 => ?_)
  refine z_aload hx dX2_isUnderBehind_26 4 rfl ?_
  refine z_get hx dX2_isUnderBehind_28 fl_X2_34 (EM.row hE (i := s) (by omega) ew_1 rfl).1 rfl ?_
  refine z_iload_n hx dX2_isUnderBehind_31 rfl 1 rfl ?_
  refine z_iald hx dX2_isUnderBehind_32 (EM.row hE (i := s) (by omega) ew_1 rfl).2.2.2.2.2.2.1 (by omega) (by decide) ?_
  have rp_3 := hR.p p (by first | omega | decide)
  have ip_4 := hI.p p (by first | omega | decide)
  have cc_5 := cv_c (f (17 + p))
  refine z_if_lt (tgt := 40) hx dX2_isUnderBehind_33 (by decide) (by omega) (fun c_6 => ?_) (fun c_6 => ?_)
  ·
    refine z_iconst hx dX2_isUnderBehind_40 ?_
    refine z_iret hx hr dX2_isUnderBehind_41 rfl rfl (q_j (by first | exact (b2i_t (by rw [show fc p 0 f = 0 from if_pos (by omega)]; decide)).symm | exact (b2i_f (fun z => z (if_neg (by omega)))).symm) ⟨C, Es, hE, (fun _ _ _ => rfl), (fun _ _ _ => rfl), (fun _ j a b => absurd (show j < 0 from b) (by omega)), Fr.rf⟩)
  ·
    refine z_iconst hx dX2_isUnderBehind_36 ?_
    refine z_goto (tgt := 41) hx dX2_isUnderBehind_37 (by decide) ?_
    refine z_iret hx hr dX2_isUnderBehind_41 rfl rfl (q_j (by first | exact (b2i_t (by rw [show fc p 0 f = 0 from if_pos (by omega)]; decide)).symm | exact (b2i_f (fun z => z (if_neg (by omega)))).symm) ⟨C, Es, hE, (fun _ _ _ => rfl), (fun _ _ _ => rfl), (fun _ j a b => absurd (show j < 0 from b) (by omega)), Fr.rf⟩)

theorem kX2_ub0 (g : Gt) {h : AH} {e : Nat} {C : Int → Int} {Es : Int → Nat → Int → Int} {f : Int → Int} {p s t : Int} (hE : EM h e C Es) (hR : RLC (Es s) f) (hI : inv f) (hp : 0 ≤ p ∧ p < f 37) (hs : (0 ≤ s ∧ s + 0 = t) ∧ t ≤ 4) : CnJ g mX2_isUnderBehind 8 [.ref e, .int (iI p), .int (iI s), .int (iI t)] h (b2i (fc p 0 f ≠ -1)) (QS h e C Es p s 0 f) := by
  by_cases c : s = 4
  · exact kX2_ub0b g hE hR hI hp ⟨hs.1, hs.2, c⟩
  · exact kX2_ub0a g hE hR hI hp ⟨hs.1, hs.2, by omega⟩

set_option maxHeartbeats 4000000 in
set_option maxRecDepth 20000 in
theorem kX2_ub1 (g : Gt) {h : AH} {e : Nat} {C : Int → Int} {Es : Int → Nat → Int → Int} {f : Int → Int} {p s t : Int} (hE : EM h e C Es) (hR : RLC (Es s) f) (hI : inv f) (hp : 0 ≤ p ∧ p < f 37) (hs : (0 ≤ s ∧ s + 1 = t) ∧ t ≤ 4) : CnJ g mX2_isUnderBehind 9 [.ref e, .int (iI p), .int (iI s), .int (iI t)] h (b2i (fc p 1 f ≠ -1)) (QS h e C Es p s 1 f) := by
  refine Cn.mk (by decide +kernel) (Nat.le_of_ble_eq_true rfl) ?_
  intro x sz hx hr
  show Zj g x (sz, 0, 0) h 0 [(0, .ref e), (1, .int (iI p)), (2, .int (iI s)), (3, .int (iI t))] []
  have hn := hI.n
  have ip := hI.p p (by omega)
  refine z_aload_n hx dX2_isUnderBehind_0 rfl 0 rfl ?_
  refine z_iload_n hx dX2_isUnderBehind_1 rfl 2 rfl ?_
  obtain ⟨w_1, ew_1⟩ : ∃ a : Nat, a = e + 3 + 10 * (s : Int).toNat := ⟨_, rfl⟩
  have rw_1 : e + 3 ≤ w_1 ∧ w_1 + 10 ≤ e + 53 := by omega
  refine z_cVR (as := [.int (iI s)]) (rest := []) hx dX2_isUnderBehind_2 lk_X2_22 wm_X2_stageAt wv_X2_stageAt (rcv_obj hx hE.1 rfl) mo_X2_stageAt (kX2_stageAt g (i := s) (w := w_1) hE (by omega) ew_1) (by decide) rfl rfl (Nat.le_of_ble_eq_true rfl) ?_
  refine z_astore hx dX2_isUnderBehind_5 (by decide) [1, 2, 3, 4, 0] (lv' := [(0, .ref e), (1, .int (iI p)), (2, .int (iI s)), (3, .int (iI t)), (4, .ref w_1)]) rfl ?_
  refine z_aload_n hx dX2_isUnderBehind_7 rfl 0 rfl ?_
  refine z_iload_n hx dX2_isUnderBehind_8 rfl 2 rfl ?_
  refine z_iconst hx dX2_isUnderBehind_9 ?_
  refine z_iadd hx dX2_isUnderBehind_10 ?_
  obtain ⟨w_2, ew_2⟩ : ∃ a : Nat, a = e + 3 + 10 * ((s + 1) : Int).toNat := ⟨_, rfl⟩
  have rw_2 : e + 3 ≤ w_2 ∧ w_2 + 10 ≤ e + 53 := by omega
  refine z_cVR (as := [.int (iI (s + 1))]) (rest := []) hx dX2_isUnderBehind_11 lk_X2_22 wm_X2_stageAt wv_X2_stageAt (rcv_obj hx hE.1 rfl) mo_X2_stageAt (kX2_stageAt g (i := (s + 1)) (w := w_2) hE (by omega) ew_2) (by decide) rfl rfl (Nat.le_of_ble_eq_true rfl) ?_
  refine z_astore hx dX2_isUnderBehind_14 (by decide) [1, 2, 3, 4, 5, 0] (lv' := [(0, .ref e), (1, .int (iI p)), (2, .int (iI s)), (3, .int (iI t)), (4, .ref w_1), (5, .ref w_2)]) rfl ?_
  refine z_aload hx dX2_isUnderBehind_16 4 rfl ?_
  refine z_ifnull hx dX2_isUnderBehind_18 ?_
  refine z_iload_n hx dX2_isUnderBehind_21 rfl 2 rfl ?_
  refine z_iload_n hx dX2_isUnderBehind_22 rfl 3 rfl ?_
  refine z_icmp_ne (tgt := 42) hx dX2_isUnderBehind_23 (by decide) (by omega) (by omega) (fun c_3 => ?_) (fun c_3 => by exfalso; omega)
  refine z_aload hx dX2_isUnderBehind_42 4 rfl ?_
  refine z_ifnull hx dX2_isUnderBehind_44 ?_
  refine z_aload hx dX2_isUnderBehind_47 5 rfl ?_
  refine z_ifnull hx dX2_isUnderBehind_49 ?_
  refine z_iload_n hx dX2_isUnderBehind_52 rfl 2 rfl ?_
  refine z_iconst hx dX2_isUnderBehind_53 ?_
  refine z_icmp_ge (tgt := 68) hx dX2_isUnderBehind_54 (by decide) (by omega) (by decide) (fun c_4 => by exfalso; omega) (fun c_4 => ?_)
  refine z_aload hx dX2_isUnderBehind_57 4 rfl ?_
  refine z_get hx dX2_isUnderBehind_59 fl_X2_34 (EM.row hE (i := s) (by omega) ew_1 rfl).1 rfl ?_
  refine z_iload_n hx dX2_isUnderBehind_62 rfl 1 rfl ?_
  refine z_iald hx dX2_isUnderBehind_63 (EM.row hE (i := s) (by omega) ew_1 rfl).2.2.2.2.2.2.1 (by omega) (by decide) ?_
  have rp_5 := hR.p p (by first | omega | decide)
  have ip_6 := hI.p p (by first | omega | decide)
  have cc_7 := cv_c (f (17 + p))
  refine z_iconst hx dX2_isUnderBehind_64 ?_
  refine z_icmp_eq (tgt := 70) hx dX2_isUnderBehind_65 (by decide) (by omega) (by decide) (fun c_8 => ?_) (fun c_8 => ?_)
  ·
    have h0 : f (17 + p) = 0 := by omega
    refine z_aload hx dX2_isUnderBehind_70 4 rfl ?_
    refine z_iload_n hx dX2_isUnderBehind_72 rfl 1 rfl ?_
    refine z_cVI (as := [.int (iI p)]) (rest := []) hx dX2_isUnderBehind_73 lk_X2_37 wm_X1_fewestHoursTo wv_X1_fewestHoursTo (rcv_obj hx (And.left (EM.row hE (i := s) (by omega) ew_1 rfl)) rfl) mo_X1_fewestHoursTo (kX1_fewestHoursTo g (F := (Es s)) (f := f) (p := p) (EM.row hE (i := s) (by omega) ew_1 rfl) hR hI (show 0 ≤ p ∧ p < f 37 by omega)) (by decide) rfl rfl (Nat.le_of_ble_eq_true rfl) ?_
    have f_9 : 1 ≤ fht f p ∧ fht f p ≤ 10 := by have q1 := fht_rg hI (p := p) (n := f 26) (by have := (hI).n; omega) (by have := (hI).n; omega); unfold fht; omega
    refine z_iload_n hx dX2_isUnderBehind_76 rfl 3 rfl ?_
    refine z_iload_n hx dX2_isUnderBehind_77 rfl 2 rfl ?_
    refine z_isub hx dX2_isUnderBehind_78 ?_
    refine z_icmp_le (tgt := 84) hx dX2_isUnderBehind_79 (by decide) (by omega) (by omega) (fun c_10 => ?_) (fun c_10 => ?_)
    ·
      refine z_iconst hx dX2_isUnderBehind_84 ?_
      refine z_istore hx dX2_isUnderBehind_85 (by decide) [1, 2, 3, 4, 5, 6, 0] (lv' := [(0, .ref e), (1, .int (iI p)), (2, .int (iI s)), (3, .int (iI t)), (4, .ref w_1), (5, .ref w_2), (6, .int (iI 0))]) rfl ?_
      have hL_11 : ∀ (mm : Nat) (v6 : Int) (gC : Int → Int) (gE : Int → Nat → Int → Int) (h_12 : AH), (0 ≤ v6 ∧ v6 ≤ 5) → (∀ i, 0 ≤ i → i ≤ s → gE i = Es i) → (∀ i, 0 ≤ i → i < s → gC i = C i) → (∀ w9, 0 ≤ w9 → w9 < v6 → ¬ (vld f p w9 ∧ fc p 0 (hrW f p w9) ≠ -1)) → (EM h_12 e gC gE) → (Fr h h_12 e 53) → (5 : Int) - v6 < (mm : Int) → Zj g x (sz, 0, 0) h_12 87 [(0, .ref e), (1, .int (iI p)), (2, .int (iI s)), (3, .int (iI t)), (4, .ref w_1), (5, .ref w_2), (6, .int (iI v6))] [] := by
        intro mm
        induction mm with
        | zero => intro v6 gC gE h_12 kv hEs hCs hl hk_13 fr_14 hm; exfalso; omega
        | succ mm ih =>
          intro v6 gC gE h_12 kv hEs hCs hl hk_13 fr_14 hm
          have ih_15 := ih; clear ih
          refine z_iload hx dX2_isUnderBehind_87 6 rfl ?_
          refine z_iconst hx dX2_isUnderBehind_89 ?_
          refine z_icmp_ge (tgt := 152) hx dX2_isUnderBehind_90 (by decide) (by omega) (by decide) (fun c_16 => ?_) (fun c_16 => ?_)
          ·
            have fnn : fc p 1 f = -1 := fc_n (m := 0) (fun w9 a b => hl w9 a (by omega))
            refine z_iconst hx dX2_isUnderBehind_152 ?_
            refine z_iret hx hr dX2_isUnderBehind_153 rfl rfl (q_j (b2i_f (fun z => z fnn)).symm ⟨gC, gE, hk_13, hEs, hCs, (fun z => absurd fnn z), fr_14⟩)
          ·
            refine z_aload hx dX2_isUnderBehind_93 4 rfl ?_
            refine z_get hx dX2_isUnderBehind_95 fl_X2_41 (EM.row hk_13 (i := s) (by omega) ew_1 (hEs s (by omega) (by omega))).1 rfl ?_
            refine z_iload_n hx dX2_isUnderBehind_98 rfl 1 rfl ?_
            refine z_iald hx dX2_isUnderBehind_99 (EM.row hk_13 (i := s) (by omega) ew_1 (hEs s (by omega) (by omega))).2.2.2.2.2.1 (by omega) (by decide) ?_
            have rp_17 := hR.p p (by first | omega | decide)
            have ip_18 := hI.p p (by first | omega | decide)
            have cc_19 := cv_c (f (17 + p))
            refine z_iload hx dX2_isUnderBehind_100 6 rfl ?_
            refine z_cSI (as := [.int (iI ((Es s) 5 p)), .int (iI v6)]) (rest := []) hx dX2_isUnderBehind_102 lk_X2_44 wt_X0_beside mo_X0_beside (kX0_beside g (a := ((Es s) 5 p)) (b := v6) (by omega) (by omega)) (by decide) rfl rfl (Nat.le_of_ble_eq_true rfl) ?_
            have eb : bsd (Es s 5 p) v6 = bsd (f (11 + p)) v6 := by rw [show Es s 5 p = f (11 + p) by omega]
            have hbr : -1 ≤ bsd (Es s 5 p) v6 ∧ bsd (Es s 5 p) v6 < 24 := by by_cases z : bsd (Es s 5 p) v6 = -1; omega; have := bsd_rg (c := Es s 5 p) (by omega) z; omega
            refine z_iconst hx dX2_isUnderBehind_105 ?_
            refine z_icmp_eq (tgt := 146) hx dX2_isUnderBehind_106 (by decide) (by omega) (by decide) (fun c_20 => ?_) (fun c_20 => ?_)
            ·
              refine z_iinc hx dX2_isUnderBehind_146 (by decide) 6 rfl [1, 2, 3, 4, 5, 6, 0] (lv' := [(0, .ref e), (1, .int (iI p)), (2, .int (iI s)), (3, .int (iI t)), (4, .ref w_1), (5, .ref w_2), (6, .int (iI (v6 + 1)))]) rfl ?_
              refine z_goto (tgt := 87) hx dX2_isUnderBehind_149 (by decide) ?_
              exact ih_15 _ gC gE _ (by omega) (by exact hEs) (by exact hCs) (by intro w9 a b; by_cases z9 : w9 = v6; (rw [z9]; rintro ⟨y1, y2⟩; unfold vld at y1; omega); exact hl w9 a (by omega)) hk_13 fr_14 (by omega)
            ·
              have hv9 : vld f p v6 := by unfold vld; omega
              refine z_aload_n hx dX2_isUnderBehind_109 rfl 0 rfl ?_
              refine z_get hx dX2_isUnderBehind_110 fl_X2_17 hk_13.1 rfl ?_
              refine z_iload_n hx dX2_isUnderBehind_113 rfl 2 rfl ?_
              refine z_iload hx dX2_isUnderBehind_114 6 rfl ?_
              refine z_iastQ hx dX2_isUnderBehind_116 hk_13.2.2.1 (by omega) (by decide) (fun h_21 hs_22 hf_23 => ?_)
              have hE_24 := EM.ch hk_13 hs_22 hf_23
              have fr_25 := fr_14.tr (hf_23.wd (by omega) (by omega))
              refine z_aload hx dX2_isUnderBehind_117 5 rfl ?_
              refine z_aload hx dX2_isUnderBehind_119 4 rfl ?_
              refine z_cVV (as := [.ref w_1]) (rest := []) hx dX2_isUnderBehind_121 lk_X2_26 wm_X1_becomes wv_X1_becomes (rcv_obj hx (And.left (EM.row hE_24 (i := (s + 1)) (by omega) ew_2 rfl)) rfl) mo_X1_becomes (kX1_becomes g (F := (gE (s + 1))) (G := (Es s)) (f := f) (EM.row hE_24 (i := (s + 1)) (by omega) ew_2 rfl) (EM.row hE_24 (i := s) (by omega) ew_1 (hEs s (by omega) (by omega))) hR hI (by omega)) (by decide) rfl rfl (Nat.le_of_ble_eq_true rfl) (fun h_26 q_27 => ?_)
              obtain ⟨F_30, hC_28, hR_31, hf_29⟩ := q_27
              have hE_32 := EM.up hE_24 (i := (s + 1)) (by omega) ew_2 hC_28 hf_29
              obtain ⟨Es_33, eEs_33⟩ : ∃ G : Int → Nat → Int → Int, G = (fun j => if j = (s + 1) then F_30 else gE j) := ⟨_, rfl⟩
              rw [← eEs_33] at hE_32
              have kp_34 : ∀ j, j ≠ (s + 1) → Es_33 j = gE j := fun j z => by rw [eEs_33]; exact if_neg z
              have eF_35 : Es_33 (s) = (Es s) := (kp_34 _ (by omega)).trans (hEs s (by omega) (by omega))
              have eF_36 : Es_33 ((s + 1)) = F_30 := by rw [eEs_33]; exact if_pos rfl
              have fr_37 := fr_25.tr (hf_29.wd (by omega) (by omega))
              refine z_aload hx dX2_isUnderBehind_124 5 rfl ?_
              refine z_iload_n hx dX2_isUnderBehind_126 rfl 1 rfl ?_
              refine z_iload hx dX2_isUnderBehind_127 6 rfl ?_
              have hwfl : p = -1 ∨ ((0 ≤ p ∧ p < f 37) ∧ f (17 + p) = 0 ∧ (0 ≤ v6 ∧ v6 ≤ 4) ∧ vld f p v6) := Or.inr ⟨hp, h0, ⟨by omega, by omega⟩, hv9⟩
              refine z_cVV (as := [.int (iI p), .int (iI v6)]) (rest := []) hx dX2_isUnderBehind_129 lk_X2_50 wm_X1_passHourWith wv_X1_passHourWith (rcv_obj hx (And.left (EM.row hE_32 (i := (s + 1)) (by omega) ew_2 eF_36)) rfl) mo_X1_passHourWith (kX1_passHourWith g (F := F_30) (f := f) (r := p) (w := v6) (EM.row hE_32 (i := (s + 1)) (by omega) ew_2 eF_36) hR_31 hI  (show p = -1 ∨ ((0 ≤ p ∧ p < f 37) ∧ f (17 + p) = 0 ∧ (0 ≤ v6 ∧ v6 ≤ 4) ∧ vld f p v6) by exact Or.inr ⟨hp, h0, ⟨by omega, by omega⟩, hv9⟩) (show rgI p by omega)) (by decide) rfl rfl (Nat.le_of_ble_eq_true rfl) (fun h_38 q_39 => ?_)
              obtain ⟨F_42, hC_40, hR_43, hf_41⟩ := q_39
              obtain ⟨f_45, ef_45⟩ : ∃ G : Int → Int, G = hrW f p v6 := ⟨_, rfl⟩
              rw [← ef_45] at hR_43
              have iv_46 := inv_hrW hI hwfl
              rw [← ef_45] at iv_46
              have hE_47 := EM.up hE_32 (i := (s + 1)) (by omega) ew_2 hC_40 hf_41
              obtain ⟨Es_48, eEs_48⟩ : ∃ G : Int → Nat → Int → Int, G = (fun j => if j = (s + 1) then F_42 else Es_33 j) := ⟨_, rfl⟩
              rw [← eEs_48] at hE_47
              have kp_49 : ∀ j, j ≠ (s + 1) → Es_48 j = Es_33 j := fun j z => by rw [eEs_48]; exact if_neg z
              have eF_50 : Es_48 (s) = (Es s) := (kp_49 _ (by omega)).trans eF_35
              have eF_51 : Es_48 ((s + 1)) = F_42 := by rw [eEs_48]; exact if_pos rfl
              have fr_52 := fr_37.tr (hf_41.wd (by omega) (by omega))
              have g37 := iv_46.2 37 (by decide)
              refine z_aload_n hx dX2_isUnderBehind_132 rfl 0 rfl ?_
              refine z_iload_n hx dX2_isUnderBehind_133 rfl 1 rfl ?_
              refine z_iload_n hx dX2_isUnderBehind_134 rfl 2 rfl ?_
              refine z_iconst hx dX2_isUnderBehind_135 ?_
              refine z_iadd hx dX2_isUnderBehind_136 ?_
              refine z_iload_n hx dX2_isUnderBehind_137 rfl 3 rfl ?_
              refine z_cSJ (as := [.ref e, .int (iI p), .int (iI (s + 1)), .int (iI t)]) (rest := []) hx dX2_isUnderBehind_138 lk_X2_30 wt_X2_isUnderBehind mo_X2_isUnderBehind (kX2_ub0 g (s := s + 1) (f := f_45) hE_47 (by rw [eF_51]; exact hR_43) iv_46.1 (by omega) (by omega)) (by decide) rfl rfl (Nat.le_of_ble_eq_true rfl) (fun h_53 q_54 => ?_)
              obtain ⟨C_55, Es_56, hE_57, k_58, k_59, k_60, hf_61⟩ := q_54
              have eF_62 : Es_56 (s) = (Es s) := (k_58 _ (by omega) (by omega)).trans eF_50
              have eF_63 : Es_56 ((s + 1)) = F_42 := (k_58 _ (by omega) (by omega)).trans eF_51
              have fr_64 := fr_52.tr (hf_61.wd (by omega) (by omega))
              refine z_ifeq_b (tgt := 146) hx dX2_isUnderBehind_141 (by decide)  (fun c_65 => ?_) (fun c_65 => ?_)
              ·
                refine z_iinc hx dX2_isUnderBehind_146 (by decide) 6 rfl [1, 2, 3, 4, 5, 6, 0] (lv' := [(0, .ref e), (1, .int (iI p)), (2, .int (iI s)), (3, .int (iI t)), (4, .ref w_1), (5, .ref w_2), (6, .int (iI (v6 + 1)))]) rfl ?_
                refine z_goto (tgt := 87) hx dX2_isUnderBehind_149 (by decide) ?_
                exact ih_15 _ C_55 Es_56 _ (by omega) (by intro i a b; exact ((((k_58 i a (by omega))).trans (kp_49 i (by omega))).trans (kp_34 i (by omega))).trans (hEs i a b)) (by intro i a b; exact ((k_59 i a (by omega)).trans (fup_n (by omega))).trans (hCs i a b)) (by intro w9 a b; by_cases z9 : w9 = v6; (rw [z9]; rintro ⟨y1, y2⟩; rw [← ef_45] at y2; exact absurd y2 (by assumption)); exact hl w9 a (by omega)) hE_57 fr_64 (by omega)
              ·
                have hc9 : fc p 0 (hrW f p v6) ≠ -1 := by rw [← ef_45]; assumption
                have fy := fc_y (m := 0) (by decide) h0 (w := v6) (by omega) hv9 hl hc9
                refine z_iconst hx dX2_isUnderBehind_144 ?_
                refine z_iret hx hr dX2_isUnderBehind_145 rfl rfl (q_j (b2i_t fy.2.2).symm ⟨C_55, Es_56, hE_57, (fun i a b => ((((k_58 i a (by omega))).trans (kp_49 i (by omega))).trans (kp_34 i (by omega))).trans (hEs i a b)), (fun i a b => ((k_59 i a (by omega)).trans (fup_n (by omega))).trans (hCs i a b)), (fun _ => esc_dig (m := 0) (by decide) (w := v6) (r := fc p 0 f_45) (by omega) (by rw [ef_45]; exact fy.2.1) (by rw [ef_45]; exact fy.1) ((k_59 s (by omega) (by omega)).trans (fup_s _ _ _)) (k_60 (by assumption))), fr_64⟩)
      exact hL_11 (((5 : Int) - 0) + 1 : Int).toNat _ C Es _ (by omega) (by intro i a b; rfl) (by intro i a b; rfl) (by intro w9 a b; omega) hE Fr.rf (by omega)
    ·
      have fnn : fc p 1 f = -1 := by rcases fc_sp p 1 (by decide) f with ⟨z, _⟩ | ⟨z, _⟩; exact z; have := fc_pr 1 f hI hp h0 (by omega); omega
      refine z_iconst hx dX2_isUnderBehind_82 ?_
      refine z_iret hx hr dX2_isUnderBehind_83 rfl rfl (q_j (b2i_f (fun z => z fnn)).symm ⟨C, Es, hE, (fun _ _ _ => rfl), (fun _ _ _ => rfl), (fun z => absurd fnn z), Fr.rf⟩)
  ·
    have fnn : fc p 1 f = -1 := fc_b (m := 0) (by omega)
    refine z_iconst hx dX2_isUnderBehind_68 ?_
    refine z_iret hx hr dX2_isUnderBehind_69 rfl rfl (q_j (b2i_f (fun z => z fnn)).symm ⟨C, Es, hE, (fun _ _ _ => rfl), (fun _ _ _ => rfl), (fun z => absurd fnn z), Fr.rf⟩)

set_option maxHeartbeats 4000000 in
set_option maxRecDepth 20000 in
theorem kX2_ub2 (g : Gt) {h : AH} {e : Nat} {C : Int → Int} {Es : Int → Nat → Int → Int} {f : Int → Int} {p s t : Int} (hE : EM h e C Es) (hR : RLC (Es s) f) (hI : inv f) (hp : 0 ≤ p ∧ p < f 37) (hs : (0 ≤ s ∧ s + 2 = t) ∧ t ≤ 4) : CnJ g mX2_isUnderBehind 10 [.ref e, .int (iI p), .int (iI s), .int (iI t)] h (b2i (fc p 2 f ≠ -1)) (QS h e C Es p s 2 f) := by
  refine Cn.mk (by decide +kernel) (Nat.le_of_ble_eq_true rfl) ?_
  intro x sz hx hr
  show Zj g x (sz, 0, 0) h 0 [(0, .ref e), (1, .int (iI p)), (2, .int (iI s)), (3, .int (iI t))] []
  have hn := hI.n
  have ip := hI.p p (by omega)
  refine z_aload_n hx dX2_isUnderBehind_0 rfl 0 rfl ?_
  refine z_iload_n hx dX2_isUnderBehind_1 rfl 2 rfl ?_
  obtain ⟨w_1, ew_1⟩ : ∃ a : Nat, a = e + 3 + 10 * (s : Int).toNat := ⟨_, rfl⟩
  have rw_1 : e + 3 ≤ w_1 ∧ w_1 + 10 ≤ e + 53 := by omega
  refine z_cVR (as := [.int (iI s)]) (rest := []) hx dX2_isUnderBehind_2 lk_X2_22 wm_X2_stageAt wv_X2_stageAt (rcv_obj hx hE.1 rfl) mo_X2_stageAt (kX2_stageAt g (i := s) (w := w_1) hE (by omega) ew_1) (by decide) rfl rfl (Nat.le_of_ble_eq_true rfl) ?_
  refine z_astore hx dX2_isUnderBehind_5 (by decide) [1, 2, 3, 4, 0] (lv' := [(0, .ref e), (1, .int (iI p)), (2, .int (iI s)), (3, .int (iI t)), (4, .ref w_1)]) rfl ?_
  refine z_aload_n hx dX2_isUnderBehind_7 rfl 0 rfl ?_
  refine z_iload_n hx dX2_isUnderBehind_8 rfl 2 rfl ?_
  refine z_iconst hx dX2_isUnderBehind_9 ?_
  refine z_iadd hx dX2_isUnderBehind_10 ?_
  obtain ⟨w_2, ew_2⟩ : ∃ a : Nat, a = e + 3 + 10 * ((s + 1) : Int).toNat := ⟨_, rfl⟩
  have rw_2 : e + 3 ≤ w_2 ∧ w_2 + 10 ≤ e + 53 := by omega
  refine z_cVR (as := [.int (iI (s + 1))]) (rest := []) hx dX2_isUnderBehind_11 lk_X2_22 wm_X2_stageAt wv_X2_stageAt (rcv_obj hx hE.1 rfl) mo_X2_stageAt (kX2_stageAt g (i := (s + 1)) (w := w_2) hE (by omega) ew_2) (by decide) rfl rfl (Nat.le_of_ble_eq_true rfl) ?_
  refine z_astore hx dX2_isUnderBehind_14 (by decide) [1, 2, 3, 4, 5, 0] (lv' := [(0, .ref e), (1, .int (iI p)), (2, .int (iI s)), (3, .int (iI t)), (4, .ref w_1), (5, .ref w_2)]) rfl ?_
  refine z_aload hx dX2_isUnderBehind_16 4 rfl ?_
  refine z_ifnull hx dX2_isUnderBehind_18 ?_
  refine z_iload_n hx dX2_isUnderBehind_21 rfl 2 rfl ?_
  refine z_iload_n hx dX2_isUnderBehind_22 rfl 3 rfl ?_
  refine z_icmp_ne (tgt := 42) hx dX2_isUnderBehind_23 (by decide) (by omega) (by omega) (fun c_3 => ?_) (fun c_3 => by exfalso; omega)
  refine z_aload hx dX2_isUnderBehind_42 4 rfl ?_
  refine z_ifnull hx dX2_isUnderBehind_44 ?_
  refine z_aload hx dX2_isUnderBehind_47 5 rfl ?_
  refine z_ifnull hx dX2_isUnderBehind_49 ?_
  refine z_iload_n hx dX2_isUnderBehind_52 rfl 2 rfl ?_
  refine z_iconst hx dX2_isUnderBehind_53 ?_
  refine z_icmp_ge (tgt := 68) hx dX2_isUnderBehind_54 (by decide) (by omega) (by decide) (fun c_4 => by exfalso; omega) (fun c_4 => ?_)
  refine z_aload hx dX2_isUnderBehind_57 4 rfl ?_
  refine z_get hx dX2_isUnderBehind_59 fl_X2_34 (EM.row hE (i := s) (by omega) ew_1 rfl).1 rfl ?_
  refine z_iload_n hx dX2_isUnderBehind_62 rfl 1 rfl ?_
  refine z_iald hx dX2_isUnderBehind_63 (EM.row hE (i := s) (by omega) ew_1 rfl).2.2.2.2.2.2.1 (by omega) (by decide) ?_
  have rp_5 := hR.p p (by first | omega | decide)
  have ip_6 := hI.p p (by first | omega | decide)
  have cc_7 := cv_c (f (17 + p))
  refine z_iconst hx dX2_isUnderBehind_64 ?_
  refine z_icmp_eq (tgt := 70) hx dX2_isUnderBehind_65 (by decide) (by omega) (by decide) (fun c_8 => ?_) (fun c_8 => ?_)
  ·
    have h0 : f (17 + p) = 0 := by omega
    refine z_aload hx dX2_isUnderBehind_70 4 rfl ?_
    refine z_iload_n hx dX2_isUnderBehind_72 rfl 1 rfl ?_
    refine z_cVI (as := [.int (iI p)]) (rest := []) hx dX2_isUnderBehind_73 lk_X2_37 wm_X1_fewestHoursTo wv_X1_fewestHoursTo (rcv_obj hx (And.left (EM.row hE (i := s) (by omega) ew_1 rfl)) rfl) mo_X1_fewestHoursTo (kX1_fewestHoursTo g (F := (Es s)) (f := f) (p := p) (EM.row hE (i := s) (by omega) ew_1 rfl) hR hI (show 0 ≤ p ∧ p < f 37 by omega)) (by decide) rfl rfl (Nat.le_of_ble_eq_true rfl) ?_
    have f_9 : 1 ≤ fht f p ∧ fht f p ≤ 10 := by have q1 := fht_rg hI (p := p) (n := f 26) (by have := (hI).n; omega) (by have := (hI).n; omega); unfold fht; omega
    refine z_iload_n hx dX2_isUnderBehind_76 rfl 3 rfl ?_
    refine z_iload_n hx dX2_isUnderBehind_77 rfl 2 rfl ?_
    refine z_isub hx dX2_isUnderBehind_78 ?_
    refine z_icmp_le (tgt := 84) hx dX2_isUnderBehind_79 (by decide) (by omega) (by omega) (fun c_10 => ?_) (fun c_10 => ?_)
    ·
      refine z_iconst hx dX2_isUnderBehind_84 ?_
      refine z_istore hx dX2_isUnderBehind_85 (by decide) [1, 2, 3, 4, 5, 6, 0] (lv' := [(0, .ref e), (1, .int (iI p)), (2, .int (iI s)), (3, .int (iI t)), (4, .ref w_1), (5, .ref w_2), (6, .int (iI 0))]) rfl ?_
      have hL_11 : ∀ (mm : Nat) (v6 : Int) (gC : Int → Int) (gE : Int → Nat → Int → Int) (h_12 : AH), (0 ≤ v6 ∧ v6 ≤ 5) → (∀ i, 0 ≤ i → i ≤ s → gE i = Es i) → (∀ i, 0 ≤ i → i < s → gC i = C i) → (∀ w9, 0 ≤ w9 → w9 < v6 → ¬ (vld f p w9 ∧ fc p 1 (hrW f p w9) ≠ -1)) → (EM h_12 e gC gE) → (Fr h h_12 e 53) → (5 : Int) - v6 < (mm : Int) → Zj g x (sz, 0, 0) h_12 87 [(0, .ref e), (1, .int (iI p)), (2, .int (iI s)), (3, .int (iI t)), (4, .ref w_1), (5, .ref w_2), (6, .int (iI v6))] [] := by
        intro mm
        induction mm with
        | zero => intro v6 gC gE h_12 kv hEs hCs hl hk_13 fr_14 hm; exfalso; omega
        | succ mm ih =>
          intro v6 gC gE h_12 kv hEs hCs hl hk_13 fr_14 hm
          have ih_15 := ih; clear ih
          refine z_iload hx dX2_isUnderBehind_87 6 rfl ?_
          refine z_iconst hx dX2_isUnderBehind_89 ?_
          refine z_icmp_ge (tgt := 152) hx dX2_isUnderBehind_90 (by decide) (by omega) (by decide) (fun c_16 => ?_) (fun c_16 => ?_)
          ·
            have fnn : fc p 2 f = -1 := fc_n (m := 1) (fun w9 a b => hl w9 a (by omega))
            refine z_iconst hx dX2_isUnderBehind_152 ?_
            refine z_iret hx hr dX2_isUnderBehind_153 rfl rfl (q_j (b2i_f (fun z => z fnn)).symm ⟨gC, gE, hk_13, hEs, hCs, (fun z => absurd fnn z), fr_14⟩)
          ·
            refine z_aload hx dX2_isUnderBehind_93 4 rfl ?_
            refine z_get hx dX2_isUnderBehind_95 fl_X2_41 (EM.row hk_13 (i := s) (by omega) ew_1 (hEs s (by omega) (by omega))).1 rfl ?_
            refine z_iload_n hx dX2_isUnderBehind_98 rfl 1 rfl ?_
            refine z_iald hx dX2_isUnderBehind_99 (EM.row hk_13 (i := s) (by omega) ew_1 (hEs s (by omega) (by omega))).2.2.2.2.2.1 (by omega) (by decide) ?_
            have rp_17 := hR.p p (by first | omega | decide)
            have ip_18 := hI.p p (by first | omega | decide)
            have cc_19 := cv_c (f (17 + p))
            refine z_iload hx dX2_isUnderBehind_100 6 rfl ?_
            refine z_cSI (as := [.int (iI ((Es s) 5 p)), .int (iI v6)]) (rest := []) hx dX2_isUnderBehind_102 lk_X2_44 wt_X0_beside mo_X0_beside (kX0_beside g (a := ((Es s) 5 p)) (b := v6) (by omega) (by omega)) (by decide) rfl rfl (Nat.le_of_ble_eq_true rfl) ?_
            have eb : bsd (Es s 5 p) v6 = bsd (f (11 + p)) v6 := by rw [show Es s 5 p = f (11 + p) by omega]
            have hbr : -1 ≤ bsd (Es s 5 p) v6 ∧ bsd (Es s 5 p) v6 < 24 := by by_cases z : bsd (Es s 5 p) v6 = -1; omega; have := bsd_rg (c := Es s 5 p) (by omega) z; omega
            refine z_iconst hx dX2_isUnderBehind_105 ?_
            refine z_icmp_eq (tgt := 146) hx dX2_isUnderBehind_106 (by decide) (by omega) (by decide) (fun c_20 => ?_) (fun c_20 => ?_)
            ·
              refine z_iinc hx dX2_isUnderBehind_146 (by decide) 6 rfl [1, 2, 3, 4, 5, 6, 0] (lv' := [(0, .ref e), (1, .int (iI p)), (2, .int (iI s)), (3, .int (iI t)), (4, .ref w_1), (5, .ref w_2), (6, .int (iI (v6 + 1)))]) rfl ?_
              refine z_goto (tgt := 87) hx dX2_isUnderBehind_149 (by decide) ?_
              exact ih_15 _ gC gE _ (by omega) (by exact hEs) (by exact hCs) (by intro w9 a b; by_cases z9 : w9 = v6; (rw [z9]; rintro ⟨y1, y2⟩; unfold vld at y1; omega); exact hl w9 a (by omega)) hk_13 fr_14 (by omega)
            ·
              have hv9 : vld f p v6 := by unfold vld; omega
              refine z_aload_n hx dX2_isUnderBehind_109 rfl 0 rfl ?_
              refine z_get hx dX2_isUnderBehind_110 fl_X2_17 hk_13.1 rfl ?_
              refine z_iload_n hx dX2_isUnderBehind_113 rfl 2 rfl ?_
              refine z_iload hx dX2_isUnderBehind_114 6 rfl ?_
              refine z_iastQ hx dX2_isUnderBehind_116 hk_13.2.2.1 (by omega) (by decide) (fun h_21 hs_22 hf_23 => ?_)
              have hE_24 := EM.ch hk_13 hs_22 hf_23
              have fr_25 := fr_14.tr (hf_23.wd (by omega) (by omega))
              refine z_aload hx dX2_isUnderBehind_117 5 rfl ?_
              refine z_aload hx dX2_isUnderBehind_119 4 rfl ?_
              refine z_cVV (as := [.ref w_1]) (rest := []) hx dX2_isUnderBehind_121 lk_X2_26 wm_X1_becomes wv_X1_becomes (rcv_obj hx (And.left (EM.row hE_24 (i := (s + 1)) (by omega) ew_2 rfl)) rfl) mo_X1_becomes (kX1_becomes g (F := (gE (s + 1))) (G := (Es s)) (f := f) (EM.row hE_24 (i := (s + 1)) (by omega) ew_2 rfl) (EM.row hE_24 (i := s) (by omega) ew_1 (hEs s (by omega) (by omega))) hR hI (by omega)) (by decide) rfl rfl (Nat.le_of_ble_eq_true rfl) (fun h_26 q_27 => ?_)
              obtain ⟨F_30, hC_28, hR_31, hf_29⟩ := q_27
              have hE_32 := EM.up hE_24 (i := (s + 1)) (by omega) ew_2 hC_28 hf_29
              obtain ⟨Es_33, eEs_33⟩ : ∃ G : Int → Nat → Int → Int, G = (fun j => if j = (s + 1) then F_30 else gE j) := ⟨_, rfl⟩
              rw [← eEs_33] at hE_32
              have kp_34 : ∀ j, j ≠ (s + 1) → Es_33 j = gE j := fun j z => by rw [eEs_33]; exact if_neg z
              have eF_35 : Es_33 (s) = (Es s) := (kp_34 _ (by omega)).trans (hEs s (by omega) (by omega))
              have eF_36 : Es_33 ((s + 1)) = F_30 := by rw [eEs_33]; exact if_pos rfl
              have fr_37 := fr_25.tr (hf_29.wd (by omega) (by omega))
              refine z_aload hx dX2_isUnderBehind_124 5 rfl ?_
              refine z_iload_n hx dX2_isUnderBehind_126 rfl 1 rfl ?_
              refine z_iload hx dX2_isUnderBehind_127 6 rfl ?_
              have hwfl : p = -1 ∨ ((0 ≤ p ∧ p < f 37) ∧ f (17 + p) = 0 ∧ (0 ≤ v6 ∧ v6 ≤ 4) ∧ vld f p v6) := Or.inr ⟨hp, h0, ⟨by omega, by omega⟩, hv9⟩
              refine z_cVV (as := [.int (iI p), .int (iI v6)]) (rest := []) hx dX2_isUnderBehind_129 lk_X2_50 wm_X1_passHourWith wv_X1_passHourWith (rcv_obj hx (And.left (EM.row hE_32 (i := (s + 1)) (by omega) ew_2 eF_36)) rfl) mo_X1_passHourWith (kX1_passHourWith g (F := F_30) (f := f) (r := p) (w := v6) (EM.row hE_32 (i := (s + 1)) (by omega) ew_2 eF_36) hR_31 hI  (show p = -1 ∨ ((0 ≤ p ∧ p < f 37) ∧ f (17 + p) = 0 ∧ (0 ≤ v6 ∧ v6 ≤ 4) ∧ vld f p v6) by exact Or.inr ⟨hp, h0, ⟨by omega, by omega⟩, hv9⟩) (show rgI p by omega)) (by decide) rfl rfl (Nat.le_of_ble_eq_true rfl) (fun h_38 q_39 => ?_)
              obtain ⟨F_42, hC_40, hR_43, hf_41⟩ := q_39
              obtain ⟨f_45, ef_45⟩ : ∃ G : Int → Int, G = hrW f p v6 := ⟨_, rfl⟩
              rw [← ef_45] at hR_43
              have iv_46 := inv_hrW hI hwfl
              rw [← ef_45] at iv_46
              have hE_47 := EM.up hE_32 (i := (s + 1)) (by omega) ew_2 hC_40 hf_41
              obtain ⟨Es_48, eEs_48⟩ : ∃ G : Int → Nat → Int → Int, G = (fun j => if j = (s + 1) then F_42 else Es_33 j) := ⟨_, rfl⟩
              rw [← eEs_48] at hE_47
              have kp_49 : ∀ j, j ≠ (s + 1) → Es_48 j = Es_33 j := fun j z => by rw [eEs_48]; exact if_neg z
              have eF_50 : Es_48 (s) = (Es s) := (kp_49 _ (by omega)).trans eF_35
              have eF_51 : Es_48 ((s + 1)) = F_42 := by rw [eEs_48]; exact if_pos rfl
              have fr_52 := fr_37.tr (hf_41.wd (by omega) (by omega))
              have g37 := iv_46.2 37 (by decide)
              refine z_aload_n hx dX2_isUnderBehind_132 rfl 0 rfl ?_
              refine z_iload_n hx dX2_isUnderBehind_133 rfl 1 rfl ?_
              refine z_iload_n hx dX2_isUnderBehind_134 rfl 2 rfl ?_
              refine z_iconst hx dX2_isUnderBehind_135 ?_
              refine z_iadd hx dX2_isUnderBehind_136 ?_
              refine z_iload_n hx dX2_isUnderBehind_137 rfl 3 rfl ?_
              refine z_cSJ (as := [.ref e, .int (iI p), .int (iI (s + 1)), .int (iI t)]) (rest := []) hx dX2_isUnderBehind_138 lk_X2_30 wt_X2_isUnderBehind mo_X2_isUnderBehind (kX2_ub1 g (s := s + 1) (f := f_45) hE_47 (by rw [eF_51]; exact hR_43) iv_46.1 (by omega) (by omega)) (by decide) rfl rfl (Nat.le_of_ble_eq_true rfl) (fun h_53 q_54 => ?_)
              obtain ⟨C_55, Es_56, hE_57, k_58, k_59, k_60, hf_61⟩ := q_54
              have eF_62 : Es_56 (s) = (Es s) := (k_58 _ (by omega) (by omega)).trans eF_50
              have eF_63 : Es_56 ((s + 1)) = F_42 := (k_58 _ (by omega) (by omega)).trans eF_51
              have fr_64 := fr_52.tr (hf_61.wd (by omega) (by omega))
              refine z_ifeq_b (tgt := 146) hx dX2_isUnderBehind_141 (by decide)  (fun c_65 => ?_) (fun c_65 => ?_)
              ·
                refine z_iinc hx dX2_isUnderBehind_146 (by decide) 6 rfl [1, 2, 3, 4, 5, 6, 0] (lv' := [(0, .ref e), (1, .int (iI p)), (2, .int (iI s)), (3, .int (iI t)), (4, .ref w_1), (5, .ref w_2), (6, .int (iI (v6 + 1)))]) rfl ?_
                refine z_goto (tgt := 87) hx dX2_isUnderBehind_149 (by decide) ?_
                exact ih_15 _ C_55 Es_56 _ (by omega) (by intro i a b; exact ((((k_58 i a (by omega))).trans (kp_49 i (by omega))).trans (kp_34 i (by omega))).trans (hEs i a b)) (by intro i a b; exact ((k_59 i a (by omega)).trans (fup_n (by omega))).trans (hCs i a b)) (by intro w9 a b; by_cases z9 : w9 = v6; (rw [z9]; rintro ⟨y1, y2⟩; rw [← ef_45] at y2; exact absurd y2 (by assumption)); exact hl w9 a (by omega)) hE_57 fr_64 (by omega)
              ·
                have hc9 : fc p 1 (hrW f p v6) ≠ -1 := by rw [← ef_45]; assumption
                have fy := fc_y (m := 1) (by decide) h0 (w := v6) (by omega) hv9 hl hc9
                refine z_iconst hx dX2_isUnderBehind_144 ?_
                refine z_iret hx hr dX2_isUnderBehind_145 rfl rfl (q_j (b2i_t fy.2.2).symm ⟨C_55, Es_56, hE_57, (fun i a b => ((((k_58 i a (by omega))).trans (kp_49 i (by omega))).trans (kp_34 i (by omega))).trans (hEs i a b)), (fun i a b => ((k_59 i a (by omega)).trans (fup_n (by omega))).trans (hCs i a b)), (fun _ => esc_dig (m := 1) (by decide) (w := v6) (r := fc p 1 f_45) (by omega) (by rw [ef_45]; exact fy.2.1) (by rw [ef_45]; exact fy.1) ((k_59 s (by omega) (by omega)).trans (fup_s _ _ _)) (k_60 (by assumption))), fr_64⟩)
      exact hL_11 (((5 : Int) - 0) + 1 : Int).toNat _ C Es _ (by omega) (by intro i a b; rfl) (by intro i a b; rfl) (by intro w9 a b; omega) hE Fr.rf (by omega)
    ·
      have fnn : fc p 2 f = -1 := by rcases fc_sp p 2 (by decide) f with ⟨z, _⟩ | ⟨z, _⟩; exact z; have := fc_pr 2 f hI hp h0 (by omega); omega
      refine z_iconst hx dX2_isUnderBehind_82 ?_
      refine z_iret hx hr dX2_isUnderBehind_83 rfl rfl (q_j (b2i_f (fun z => z fnn)).symm ⟨C, Es, hE, (fun _ _ _ => rfl), (fun _ _ _ => rfl), (fun z => absurd fnn z), Fr.rf⟩)
  ·
    have fnn : fc p 2 f = -1 := fc_b (m := 1) (by omega)
    refine z_iconst hx dX2_isUnderBehind_68 ?_
    refine z_iret hx hr dX2_isUnderBehind_69 rfl rfl (q_j (b2i_f (fun z => z fnn)).symm ⟨C, Es, hE, (fun _ _ _ => rfl), (fun _ _ _ => rfl), (fun z => absurd fnn z), Fr.rf⟩)

set_option maxHeartbeats 4000000 in
set_option maxRecDepth 20000 in
theorem kX2_ub3 (g : Gt) {h : AH} {e : Nat} {C : Int → Int} {Es : Int → Nat → Int → Int} {f : Int → Int} {p s t : Int} (hE : EM h e C Es) (hR : RLC (Es s) f) (hI : inv f) (hp : 0 ≤ p ∧ p < f 37) (hs : (0 ≤ s ∧ s + 3 = t) ∧ t ≤ 4) : CnJ g mX2_isUnderBehind 11 [.ref e, .int (iI p), .int (iI s), .int (iI t)] h (b2i (fc p 3 f ≠ -1)) (QS h e C Es p s 3 f) := by
  refine Cn.mk (by decide +kernel) (Nat.le_of_ble_eq_true rfl) ?_
  intro x sz hx hr
  show Zj g x (sz, 0, 0) h 0 [(0, .ref e), (1, .int (iI p)), (2, .int (iI s)), (3, .int (iI t))] []
  have hn := hI.n
  have ip := hI.p p (by omega)
  refine z_aload_n hx dX2_isUnderBehind_0 rfl 0 rfl ?_
  refine z_iload_n hx dX2_isUnderBehind_1 rfl 2 rfl ?_
  obtain ⟨w_1, ew_1⟩ : ∃ a : Nat, a = e + 3 + 10 * (s : Int).toNat := ⟨_, rfl⟩
  have rw_1 : e + 3 ≤ w_1 ∧ w_1 + 10 ≤ e + 53 := by omega
  refine z_cVR (as := [.int (iI s)]) (rest := []) hx dX2_isUnderBehind_2 lk_X2_22 wm_X2_stageAt wv_X2_stageAt (rcv_obj hx hE.1 rfl) mo_X2_stageAt (kX2_stageAt g (i := s) (w := w_1) hE (by omega) ew_1) (by decide) rfl rfl (Nat.le_of_ble_eq_true rfl) ?_
  refine z_astore hx dX2_isUnderBehind_5 (by decide) [1, 2, 3, 4, 0] (lv' := [(0, .ref e), (1, .int (iI p)), (2, .int (iI s)), (3, .int (iI t)), (4, .ref w_1)]) rfl ?_
  refine z_aload_n hx dX2_isUnderBehind_7 rfl 0 rfl ?_
  refine z_iload_n hx dX2_isUnderBehind_8 rfl 2 rfl ?_
  refine z_iconst hx dX2_isUnderBehind_9 ?_
  refine z_iadd hx dX2_isUnderBehind_10 ?_
  obtain ⟨w_2, ew_2⟩ : ∃ a : Nat, a = e + 3 + 10 * ((s + 1) : Int).toNat := ⟨_, rfl⟩
  have rw_2 : e + 3 ≤ w_2 ∧ w_2 + 10 ≤ e + 53 := by omega
  refine z_cVR (as := [.int (iI (s + 1))]) (rest := []) hx dX2_isUnderBehind_11 lk_X2_22 wm_X2_stageAt wv_X2_stageAt (rcv_obj hx hE.1 rfl) mo_X2_stageAt (kX2_stageAt g (i := (s + 1)) (w := w_2) hE (by omega) ew_2) (by decide) rfl rfl (Nat.le_of_ble_eq_true rfl) ?_
  refine z_astore hx dX2_isUnderBehind_14 (by decide) [1, 2, 3, 4, 5, 0] (lv' := [(0, .ref e), (1, .int (iI p)), (2, .int (iI s)), (3, .int (iI t)), (4, .ref w_1), (5, .ref w_2)]) rfl ?_
  refine z_aload hx dX2_isUnderBehind_16 4 rfl ?_
  refine z_ifnull hx dX2_isUnderBehind_18 ?_
  refine z_iload_n hx dX2_isUnderBehind_21 rfl 2 rfl ?_
  refine z_iload_n hx dX2_isUnderBehind_22 rfl 3 rfl ?_
  refine z_icmp_ne (tgt := 42) hx dX2_isUnderBehind_23 (by decide) (by omega) (by omega) (fun c_3 => ?_) (fun c_3 => by exfalso; omega)
  refine z_aload hx dX2_isUnderBehind_42 4 rfl ?_
  refine z_ifnull hx dX2_isUnderBehind_44 ?_
  refine z_aload hx dX2_isUnderBehind_47 5 rfl ?_
  refine z_ifnull hx dX2_isUnderBehind_49 ?_
  refine z_iload_n hx dX2_isUnderBehind_52 rfl 2 rfl ?_
  refine z_iconst hx dX2_isUnderBehind_53 ?_
  refine z_icmp_ge (tgt := 68) hx dX2_isUnderBehind_54 (by decide) (by omega) (by decide) (fun c_4 => by exfalso; omega) (fun c_4 => ?_)
  refine z_aload hx dX2_isUnderBehind_57 4 rfl ?_
  refine z_get hx dX2_isUnderBehind_59 fl_X2_34 (EM.row hE (i := s) (by omega) ew_1 rfl).1 rfl ?_
  refine z_iload_n hx dX2_isUnderBehind_62 rfl 1 rfl ?_
  refine z_iald hx dX2_isUnderBehind_63 (EM.row hE (i := s) (by omega) ew_1 rfl).2.2.2.2.2.2.1 (by omega) (by decide) ?_
  have rp_5 := hR.p p (by first | omega | decide)
  have ip_6 := hI.p p (by first | omega | decide)
  have cc_7 := cv_c (f (17 + p))
  refine z_iconst hx dX2_isUnderBehind_64 ?_
  refine z_icmp_eq (tgt := 70) hx dX2_isUnderBehind_65 (by decide) (by omega) (by decide) (fun c_8 => ?_) (fun c_8 => ?_)
  ·
    have h0 : f (17 + p) = 0 := by omega
    refine z_aload hx dX2_isUnderBehind_70 4 rfl ?_
    refine z_iload_n hx dX2_isUnderBehind_72 rfl 1 rfl ?_
    refine z_cVI (as := [.int (iI p)]) (rest := []) hx dX2_isUnderBehind_73 lk_X2_37 wm_X1_fewestHoursTo wv_X1_fewestHoursTo (rcv_obj hx (And.left (EM.row hE (i := s) (by omega) ew_1 rfl)) rfl) mo_X1_fewestHoursTo (kX1_fewestHoursTo g (F := (Es s)) (f := f) (p := p) (EM.row hE (i := s) (by omega) ew_1 rfl) hR hI (show 0 ≤ p ∧ p < f 37 by omega)) (by decide) rfl rfl (Nat.le_of_ble_eq_true rfl) ?_
    have f_9 : 1 ≤ fht f p ∧ fht f p ≤ 10 := by have q1 := fht_rg hI (p := p) (n := f 26) (by have := (hI).n; omega) (by have := (hI).n; omega); unfold fht; omega
    refine z_iload_n hx dX2_isUnderBehind_76 rfl 3 rfl ?_
    refine z_iload_n hx dX2_isUnderBehind_77 rfl 2 rfl ?_
    refine z_isub hx dX2_isUnderBehind_78 ?_
    refine z_icmp_le (tgt := 84) hx dX2_isUnderBehind_79 (by decide) (by omega) (by omega) (fun c_10 => ?_) (fun c_10 => ?_)
    ·
      refine z_iconst hx dX2_isUnderBehind_84 ?_
      refine z_istore hx dX2_isUnderBehind_85 (by decide) [1, 2, 3, 4, 5, 6, 0] (lv' := [(0, .ref e), (1, .int (iI p)), (2, .int (iI s)), (3, .int (iI t)), (4, .ref w_1), (5, .ref w_2), (6, .int (iI 0))]) rfl ?_
      have hL_11 : ∀ (mm : Nat) (v6 : Int) (gC : Int → Int) (gE : Int → Nat → Int → Int) (h_12 : AH), (0 ≤ v6 ∧ v6 ≤ 5) → (∀ i, 0 ≤ i → i ≤ s → gE i = Es i) → (∀ i, 0 ≤ i → i < s → gC i = C i) → (∀ w9, 0 ≤ w9 → w9 < v6 → ¬ (vld f p w9 ∧ fc p 2 (hrW f p w9) ≠ -1)) → (EM h_12 e gC gE) → (Fr h h_12 e 53) → (5 : Int) - v6 < (mm : Int) → Zj g x (sz, 0, 0) h_12 87 [(0, .ref e), (1, .int (iI p)), (2, .int (iI s)), (3, .int (iI t)), (4, .ref w_1), (5, .ref w_2), (6, .int (iI v6))] [] := by
        intro mm
        induction mm with
        | zero => intro v6 gC gE h_12 kv hEs hCs hl hk_13 fr_14 hm; exfalso; omega
        | succ mm ih =>
          intro v6 gC gE h_12 kv hEs hCs hl hk_13 fr_14 hm
          have ih_15 := ih; clear ih
          refine z_iload hx dX2_isUnderBehind_87 6 rfl ?_
          refine z_iconst hx dX2_isUnderBehind_89 ?_
          refine z_icmp_ge (tgt := 152) hx dX2_isUnderBehind_90 (by decide) (by omega) (by decide) (fun c_16 => ?_) (fun c_16 => ?_)
          ·
            have fnn : fc p 3 f = -1 := fc_n (m := 2) (fun w9 a b => hl w9 a (by omega))
            refine z_iconst hx dX2_isUnderBehind_152 ?_
            refine z_iret hx hr dX2_isUnderBehind_153 rfl rfl (q_j (b2i_f (fun z => z fnn)).symm ⟨gC, gE, hk_13, hEs, hCs, (fun z => absurd fnn z), fr_14⟩)
          ·
            refine z_aload hx dX2_isUnderBehind_93 4 rfl ?_
            refine z_get hx dX2_isUnderBehind_95 fl_X2_41 (EM.row hk_13 (i := s) (by omega) ew_1 (hEs s (by omega) (by omega))).1 rfl ?_
            refine z_iload_n hx dX2_isUnderBehind_98 rfl 1 rfl ?_
            refine z_iald hx dX2_isUnderBehind_99 (EM.row hk_13 (i := s) (by omega) ew_1 (hEs s (by omega) (by omega))).2.2.2.2.2.1 (by omega) (by decide) ?_
            have rp_17 := hR.p p (by first | omega | decide)
            have ip_18 := hI.p p (by first | omega | decide)
            have cc_19 := cv_c (f (17 + p))
            refine z_iload hx dX2_isUnderBehind_100 6 rfl ?_
            refine z_cSI (as := [.int (iI ((Es s) 5 p)), .int (iI v6)]) (rest := []) hx dX2_isUnderBehind_102 lk_X2_44 wt_X0_beside mo_X0_beside (kX0_beside g (a := ((Es s) 5 p)) (b := v6) (by omega) (by omega)) (by decide) rfl rfl (Nat.le_of_ble_eq_true rfl) ?_
            have eb : bsd (Es s 5 p) v6 = bsd (f (11 + p)) v6 := by rw [show Es s 5 p = f (11 + p) by omega]
            have hbr : -1 ≤ bsd (Es s 5 p) v6 ∧ bsd (Es s 5 p) v6 < 24 := by by_cases z : bsd (Es s 5 p) v6 = -1; omega; have := bsd_rg (c := Es s 5 p) (by omega) z; omega
            refine z_iconst hx dX2_isUnderBehind_105 ?_
            refine z_icmp_eq (tgt := 146) hx dX2_isUnderBehind_106 (by decide) (by omega) (by decide) (fun c_20 => ?_) (fun c_20 => ?_)
            ·
              refine z_iinc hx dX2_isUnderBehind_146 (by decide) 6 rfl [1, 2, 3, 4, 5, 6, 0] (lv' := [(0, .ref e), (1, .int (iI p)), (2, .int (iI s)), (3, .int (iI t)), (4, .ref w_1), (5, .ref w_2), (6, .int (iI (v6 + 1)))]) rfl ?_
              refine z_goto (tgt := 87) hx dX2_isUnderBehind_149 (by decide) ?_
              exact ih_15 _ gC gE _ (by omega) (by exact hEs) (by exact hCs) (by intro w9 a b; by_cases z9 : w9 = v6; (rw [z9]; rintro ⟨y1, y2⟩; unfold vld at y1; omega); exact hl w9 a (by omega)) hk_13 fr_14 (by omega)
            ·
              have hv9 : vld f p v6 := by unfold vld; omega
              refine z_aload_n hx dX2_isUnderBehind_109 rfl 0 rfl ?_
              refine z_get hx dX2_isUnderBehind_110 fl_X2_17 hk_13.1 rfl ?_
              refine z_iload_n hx dX2_isUnderBehind_113 rfl 2 rfl ?_
              refine z_iload hx dX2_isUnderBehind_114 6 rfl ?_
              refine z_iastQ hx dX2_isUnderBehind_116 hk_13.2.2.1 (by omega) (by decide) (fun h_21 hs_22 hf_23 => ?_)
              have hE_24 := EM.ch hk_13 hs_22 hf_23
              have fr_25 := fr_14.tr (hf_23.wd (by omega) (by omega))
              refine z_aload hx dX2_isUnderBehind_117 5 rfl ?_
              refine z_aload hx dX2_isUnderBehind_119 4 rfl ?_
              refine z_cVV (as := [.ref w_1]) (rest := []) hx dX2_isUnderBehind_121 lk_X2_26 wm_X1_becomes wv_X1_becomes (rcv_obj hx (And.left (EM.row hE_24 (i := (s + 1)) (by omega) ew_2 rfl)) rfl) mo_X1_becomes (kX1_becomes g (F := (gE (s + 1))) (G := (Es s)) (f := f) (EM.row hE_24 (i := (s + 1)) (by omega) ew_2 rfl) (EM.row hE_24 (i := s) (by omega) ew_1 (hEs s (by omega) (by omega))) hR hI (by omega)) (by decide) rfl rfl (Nat.le_of_ble_eq_true rfl) (fun h_26 q_27 => ?_)
              obtain ⟨F_30, hC_28, hR_31, hf_29⟩ := q_27
              have hE_32 := EM.up hE_24 (i := (s + 1)) (by omega) ew_2 hC_28 hf_29
              obtain ⟨Es_33, eEs_33⟩ : ∃ G : Int → Nat → Int → Int, G = (fun j => if j = (s + 1) then F_30 else gE j) := ⟨_, rfl⟩
              rw [← eEs_33] at hE_32
              have kp_34 : ∀ j, j ≠ (s + 1) → Es_33 j = gE j := fun j z => by rw [eEs_33]; exact if_neg z
              have eF_35 : Es_33 (s) = (Es s) := (kp_34 _ (by omega)).trans (hEs s (by omega) (by omega))
              have eF_36 : Es_33 ((s + 1)) = F_30 := by rw [eEs_33]; exact if_pos rfl
              have fr_37 := fr_25.tr (hf_29.wd (by omega) (by omega))
              refine z_aload hx dX2_isUnderBehind_124 5 rfl ?_
              refine z_iload_n hx dX2_isUnderBehind_126 rfl 1 rfl ?_
              refine z_iload hx dX2_isUnderBehind_127 6 rfl ?_
              have hwfl : p = -1 ∨ ((0 ≤ p ∧ p < f 37) ∧ f (17 + p) = 0 ∧ (0 ≤ v6 ∧ v6 ≤ 4) ∧ vld f p v6) := Or.inr ⟨hp, h0, ⟨by omega, by omega⟩, hv9⟩
              refine z_cVV (as := [.int (iI p), .int (iI v6)]) (rest := []) hx dX2_isUnderBehind_129 lk_X2_50 wm_X1_passHourWith wv_X1_passHourWith (rcv_obj hx (And.left (EM.row hE_32 (i := (s + 1)) (by omega) ew_2 eF_36)) rfl) mo_X1_passHourWith (kX1_passHourWith g (F := F_30) (f := f) (r := p) (w := v6) (EM.row hE_32 (i := (s + 1)) (by omega) ew_2 eF_36) hR_31 hI  (show p = -1 ∨ ((0 ≤ p ∧ p < f 37) ∧ f (17 + p) = 0 ∧ (0 ≤ v6 ∧ v6 ≤ 4) ∧ vld f p v6) by exact Or.inr ⟨hp, h0, ⟨by omega, by omega⟩, hv9⟩) (show rgI p by omega)) (by decide) rfl rfl (Nat.le_of_ble_eq_true rfl) (fun h_38 q_39 => ?_)
              obtain ⟨F_42, hC_40, hR_43, hf_41⟩ := q_39
              obtain ⟨f_45, ef_45⟩ : ∃ G : Int → Int, G = hrW f p v6 := ⟨_, rfl⟩
              rw [← ef_45] at hR_43
              have iv_46 := inv_hrW hI hwfl
              rw [← ef_45] at iv_46
              have hE_47 := EM.up hE_32 (i := (s + 1)) (by omega) ew_2 hC_40 hf_41
              obtain ⟨Es_48, eEs_48⟩ : ∃ G : Int → Nat → Int → Int, G = (fun j => if j = (s + 1) then F_42 else Es_33 j) := ⟨_, rfl⟩
              rw [← eEs_48] at hE_47
              have kp_49 : ∀ j, j ≠ (s + 1) → Es_48 j = Es_33 j := fun j z => by rw [eEs_48]; exact if_neg z
              have eF_50 : Es_48 (s) = (Es s) := (kp_49 _ (by omega)).trans eF_35
              have eF_51 : Es_48 ((s + 1)) = F_42 := by rw [eEs_48]; exact if_pos rfl
              have fr_52 := fr_37.tr (hf_41.wd (by omega) (by omega))
              have g37 := iv_46.2 37 (by decide)
              refine z_aload_n hx dX2_isUnderBehind_132 rfl 0 rfl ?_
              refine z_iload_n hx dX2_isUnderBehind_133 rfl 1 rfl ?_
              refine z_iload_n hx dX2_isUnderBehind_134 rfl 2 rfl ?_
              refine z_iconst hx dX2_isUnderBehind_135 ?_
              refine z_iadd hx dX2_isUnderBehind_136 ?_
              refine z_iload_n hx dX2_isUnderBehind_137 rfl 3 rfl ?_
              refine z_cSJ (as := [.ref e, .int (iI p), .int (iI (s + 1)), .int (iI t)]) (rest := []) hx dX2_isUnderBehind_138 lk_X2_30 wt_X2_isUnderBehind mo_X2_isUnderBehind (kX2_ub2 g (s := s + 1) (f := f_45) hE_47 (by rw [eF_51]; exact hR_43) iv_46.1 (by omega) (by omega)) (by decide) rfl rfl (Nat.le_of_ble_eq_true rfl) (fun h_53 q_54 => ?_)
              obtain ⟨C_55, Es_56, hE_57, k_58, k_59, k_60, hf_61⟩ := q_54
              have eF_62 : Es_56 (s) = (Es s) := (k_58 _ (by omega) (by omega)).trans eF_50
              have eF_63 : Es_56 ((s + 1)) = F_42 := (k_58 _ (by omega) (by omega)).trans eF_51
              have fr_64 := fr_52.tr (hf_61.wd (by omega) (by omega))
              refine z_ifeq_b (tgt := 146) hx dX2_isUnderBehind_141 (by decide)  (fun c_65 => ?_) (fun c_65 => ?_)
              ·
                refine z_iinc hx dX2_isUnderBehind_146 (by decide) 6 rfl [1, 2, 3, 4, 5, 6, 0] (lv' := [(0, .ref e), (1, .int (iI p)), (2, .int (iI s)), (3, .int (iI t)), (4, .ref w_1), (5, .ref w_2), (6, .int (iI (v6 + 1)))]) rfl ?_
                refine z_goto (tgt := 87) hx dX2_isUnderBehind_149 (by decide) ?_
                exact ih_15 _ C_55 Es_56 _ (by omega) (by intro i a b; exact ((((k_58 i a (by omega))).trans (kp_49 i (by omega))).trans (kp_34 i (by omega))).trans (hEs i a b)) (by intro i a b; exact ((k_59 i a (by omega)).trans (fup_n (by omega))).trans (hCs i a b)) (by intro w9 a b; by_cases z9 : w9 = v6; (rw [z9]; rintro ⟨y1, y2⟩; rw [← ef_45] at y2; exact absurd y2 (by assumption)); exact hl w9 a (by omega)) hE_57 fr_64 (by omega)
              ·
                have hc9 : fc p 2 (hrW f p v6) ≠ -1 := by rw [← ef_45]; assumption
                have fy := fc_y (m := 2) (by decide) h0 (w := v6) (by omega) hv9 hl hc9
                refine z_iconst hx dX2_isUnderBehind_144 ?_
                refine z_iret hx hr dX2_isUnderBehind_145 rfl rfl (q_j (b2i_t fy.2.2).symm ⟨C_55, Es_56, hE_57, (fun i a b => ((((k_58 i a (by omega))).trans (kp_49 i (by omega))).trans (kp_34 i (by omega))).trans (hEs i a b)), (fun i a b => ((k_59 i a (by omega)).trans (fup_n (by omega))).trans (hCs i a b)), (fun _ => esc_dig (m := 2) (by decide) (w := v6) (r := fc p 2 f_45) (by omega) (by rw [ef_45]; exact fy.2.1) (by rw [ef_45]; exact fy.1) ((k_59 s (by omega) (by omega)).trans (fup_s _ _ _)) (k_60 (by assumption))), fr_64⟩)
      exact hL_11 (((5 : Int) - 0) + 1 : Int).toNat _ C Es _ (by omega) (by intro i a b; rfl) (by intro i a b; rfl) (by intro w9 a b; omega) hE Fr.rf (by omega)
    ·
      have fnn : fc p 3 f = -1 := by rcases fc_sp p 3 (by decide) f with ⟨z, _⟩ | ⟨z, _⟩; exact z; have := fc_pr 3 f hI hp h0 (by omega); omega
      refine z_iconst hx dX2_isUnderBehind_82 ?_
      refine z_iret hx hr dX2_isUnderBehind_83 rfl rfl (q_j (b2i_f (fun z => z fnn)).symm ⟨C, Es, hE, (fun _ _ _ => rfl), (fun _ _ _ => rfl), (fun z => absurd fnn z), Fr.rf⟩)
  ·
    have fnn : fc p 3 f = -1 := fc_b (m := 2) (by omega)
    refine z_iconst hx dX2_isUnderBehind_68 ?_
    refine z_iret hx hr dX2_isUnderBehind_69 rfl rfl (q_j (b2i_f (fun z => z fnn)).symm ⟨C, Es, hE, (fun _ _ _ => rfl), (fun _ _ _ => rfl), (fun z => absurd fnn z), Fr.rf⟩)

set_option maxHeartbeats 4000000 in
set_option maxRecDepth 20000 in
theorem kX2_ub4 (g : Gt) {h : AH} {e : Nat} {C : Int → Int} {Es : Int → Nat → Int → Int} {f : Int → Int} {p s t : Int} (hE : EM h e C Es) (hR : RLC (Es s) f) (hI : inv f) (hp : 0 ≤ p ∧ p < f 37) (hs : (0 ≤ s ∧ s + 4 = t) ∧ t ≤ 4) : CnJ g mX2_isUnderBehind 12 [.ref e, .int (iI p), .int (iI s), .int (iI t)] h (b2i (fc p 4 f ≠ -1)) (QS h e C Es p s 4 f) := by
  refine Cn.mk (by decide +kernel) (Nat.le_of_ble_eq_true rfl) ?_
  intro x sz hx hr
  show Zj g x (sz, 0, 0) h 0 [(0, .ref e), (1, .int (iI p)), (2, .int (iI s)), (3, .int (iI t))] []
  have hn := hI.n
  have ip := hI.p p (by omega)
  refine z_aload_n hx dX2_isUnderBehind_0 rfl 0 rfl ?_
  refine z_iload_n hx dX2_isUnderBehind_1 rfl 2 rfl ?_
  obtain ⟨w_1, ew_1⟩ : ∃ a : Nat, a = e + 3 + 10 * (s : Int).toNat := ⟨_, rfl⟩
  have rw_1 : e + 3 ≤ w_1 ∧ w_1 + 10 ≤ e + 53 := by omega
  refine z_cVR (as := [.int (iI s)]) (rest := []) hx dX2_isUnderBehind_2 lk_X2_22 wm_X2_stageAt wv_X2_stageAt (rcv_obj hx hE.1 rfl) mo_X2_stageAt (kX2_stageAt g (i := s) (w := w_1) hE (by omega) ew_1) (by decide) rfl rfl (Nat.le_of_ble_eq_true rfl) ?_
  refine z_astore hx dX2_isUnderBehind_5 (by decide) [1, 2, 3, 4, 0] (lv' := [(0, .ref e), (1, .int (iI p)), (2, .int (iI s)), (3, .int (iI t)), (4, .ref w_1)]) rfl ?_
  refine z_aload_n hx dX2_isUnderBehind_7 rfl 0 rfl ?_
  refine z_iload_n hx dX2_isUnderBehind_8 rfl 2 rfl ?_
  refine z_iconst hx dX2_isUnderBehind_9 ?_
  refine z_iadd hx dX2_isUnderBehind_10 ?_
  obtain ⟨w_2, ew_2⟩ : ∃ a : Nat, a = e + 3 + 10 * ((s + 1) : Int).toNat := ⟨_, rfl⟩
  have rw_2 : e + 3 ≤ w_2 ∧ w_2 + 10 ≤ e + 53 := by omega
  refine z_cVR (as := [.int (iI (s + 1))]) (rest := []) hx dX2_isUnderBehind_11 lk_X2_22 wm_X2_stageAt wv_X2_stageAt (rcv_obj hx hE.1 rfl) mo_X2_stageAt (kX2_stageAt g (i := (s + 1)) (w := w_2) hE (by omega) ew_2) (by decide) rfl rfl (Nat.le_of_ble_eq_true rfl) ?_
  refine z_astore hx dX2_isUnderBehind_14 (by decide) [1, 2, 3, 4, 5, 0] (lv' := [(0, .ref e), (1, .int (iI p)), (2, .int (iI s)), (3, .int (iI t)), (4, .ref w_1), (5, .ref w_2)]) rfl ?_
  refine z_aload hx dX2_isUnderBehind_16 4 rfl ?_
  refine z_ifnull hx dX2_isUnderBehind_18 ?_
  refine z_iload_n hx dX2_isUnderBehind_21 rfl 2 rfl ?_
  refine z_iload_n hx dX2_isUnderBehind_22 rfl 3 rfl ?_
  refine z_icmp_ne (tgt := 42) hx dX2_isUnderBehind_23 (by decide) (by omega) (by omega) (fun c_3 => ?_) (fun c_3 => by exfalso; omega)
  refine z_aload hx dX2_isUnderBehind_42 4 rfl ?_
  refine z_ifnull hx dX2_isUnderBehind_44 ?_
  refine z_aload hx dX2_isUnderBehind_47 5 rfl ?_
  refine z_ifnull hx dX2_isUnderBehind_49 ?_
  refine z_iload_n hx dX2_isUnderBehind_52 rfl 2 rfl ?_
  refine z_iconst hx dX2_isUnderBehind_53 ?_
  refine z_icmp_ge (tgt := 68) hx dX2_isUnderBehind_54 (by decide) (by omega) (by decide) (fun c_4 => by exfalso; omega) (fun c_4 => ?_)
  refine z_aload hx dX2_isUnderBehind_57 4 rfl ?_
  refine z_get hx dX2_isUnderBehind_59 fl_X2_34 (EM.row hE (i := s) (by omega) ew_1 rfl).1 rfl ?_
  refine z_iload_n hx dX2_isUnderBehind_62 rfl 1 rfl ?_
  refine z_iald hx dX2_isUnderBehind_63 (EM.row hE (i := s) (by omega) ew_1 rfl).2.2.2.2.2.2.1 (by omega) (by decide) ?_
  have rp_5 := hR.p p (by first | omega | decide)
  have ip_6 := hI.p p (by first | omega | decide)
  have cc_7 := cv_c (f (17 + p))
  refine z_iconst hx dX2_isUnderBehind_64 ?_
  refine z_icmp_eq (tgt := 70) hx dX2_isUnderBehind_65 (by decide) (by omega) (by decide) (fun c_8 => ?_) (fun c_8 => ?_)
  ·
    have h0 : f (17 + p) = 0 := by omega
    refine z_aload hx dX2_isUnderBehind_70 4 rfl ?_
    refine z_iload_n hx dX2_isUnderBehind_72 rfl 1 rfl ?_
    refine z_cVI (as := [.int (iI p)]) (rest := []) hx dX2_isUnderBehind_73 lk_X2_37 wm_X1_fewestHoursTo wv_X1_fewestHoursTo (rcv_obj hx (And.left (EM.row hE (i := s) (by omega) ew_1 rfl)) rfl) mo_X1_fewestHoursTo (kX1_fewestHoursTo g (F := (Es s)) (f := f) (p := p) (EM.row hE (i := s) (by omega) ew_1 rfl) hR hI (show 0 ≤ p ∧ p < f 37 by omega)) (by decide) rfl rfl (Nat.le_of_ble_eq_true rfl) ?_
    have f_9 : 1 ≤ fht f p ∧ fht f p ≤ 10 := by have q1 := fht_rg hI (p := p) (n := f 26) (by have := (hI).n; omega) (by have := (hI).n; omega); unfold fht; omega
    refine z_iload_n hx dX2_isUnderBehind_76 rfl 3 rfl ?_
    refine z_iload_n hx dX2_isUnderBehind_77 rfl 2 rfl ?_
    refine z_isub hx dX2_isUnderBehind_78 ?_
    refine z_icmp_le (tgt := 84) hx dX2_isUnderBehind_79 (by decide) (by omega) (by omega) (fun c_10 => ?_) (fun c_10 => ?_)
    ·
      refine z_iconst hx dX2_isUnderBehind_84 ?_
      refine z_istore hx dX2_isUnderBehind_85 (by decide) [1, 2, 3, 4, 5, 6, 0] (lv' := [(0, .ref e), (1, .int (iI p)), (2, .int (iI s)), (3, .int (iI t)), (4, .ref w_1), (5, .ref w_2), (6, .int (iI 0))]) rfl ?_
      have hL_11 : ∀ (mm : Nat) (v6 : Int) (gC : Int → Int) (gE : Int → Nat → Int → Int) (h_12 : AH), (0 ≤ v6 ∧ v6 ≤ 5) → (∀ i, 0 ≤ i → i ≤ s → gE i = Es i) → (∀ i, 0 ≤ i → i < s → gC i = C i) → (∀ w9, 0 ≤ w9 → w9 < v6 → ¬ (vld f p w9 ∧ fc p 3 (hrW f p w9) ≠ -1)) → (EM h_12 e gC gE) → (Fr h h_12 e 53) → (5 : Int) - v6 < (mm : Int) → Zj g x (sz, 0, 0) h_12 87 [(0, .ref e), (1, .int (iI p)), (2, .int (iI s)), (3, .int (iI t)), (4, .ref w_1), (5, .ref w_2), (6, .int (iI v6))] [] := by
        intro mm
        induction mm with
        | zero => intro v6 gC gE h_12 kv hEs hCs hl hk_13 fr_14 hm; exfalso; omega
        | succ mm ih =>
          intro v6 gC gE h_12 kv hEs hCs hl hk_13 fr_14 hm
          have ih_15 := ih; clear ih
          refine z_iload hx dX2_isUnderBehind_87 6 rfl ?_
          refine z_iconst hx dX2_isUnderBehind_89 ?_
          refine z_icmp_ge (tgt := 152) hx dX2_isUnderBehind_90 (by decide) (by omega) (by decide) (fun c_16 => ?_) (fun c_16 => ?_)
          ·
            have fnn : fc p 4 f = -1 := fc_n (m := 3) (fun w9 a b => hl w9 a (by omega))
            refine z_iconst hx dX2_isUnderBehind_152 ?_
            refine z_iret hx hr dX2_isUnderBehind_153 rfl rfl (q_j (b2i_f (fun z => z fnn)).symm ⟨gC, gE, hk_13, hEs, hCs, (fun z => absurd fnn z), fr_14⟩)
          ·
            refine z_aload hx dX2_isUnderBehind_93 4 rfl ?_
            refine z_get hx dX2_isUnderBehind_95 fl_X2_41 (EM.row hk_13 (i := s) (by omega) ew_1 (hEs s (by omega) (by omega))).1 rfl ?_
            refine z_iload_n hx dX2_isUnderBehind_98 rfl 1 rfl ?_
            refine z_iald hx dX2_isUnderBehind_99 (EM.row hk_13 (i := s) (by omega) ew_1 (hEs s (by omega) (by omega))).2.2.2.2.2.1 (by omega) (by decide) ?_
            have rp_17 := hR.p p (by first | omega | decide)
            have ip_18 := hI.p p (by first | omega | decide)
            have cc_19 := cv_c (f (17 + p))
            refine z_iload hx dX2_isUnderBehind_100 6 rfl ?_
            refine z_cSI (as := [.int (iI ((Es s) 5 p)), .int (iI v6)]) (rest := []) hx dX2_isUnderBehind_102 lk_X2_44 wt_X0_beside mo_X0_beside (kX0_beside g (a := ((Es s) 5 p)) (b := v6) (by omega) (by omega)) (by decide) rfl rfl (Nat.le_of_ble_eq_true rfl) ?_
            have eb : bsd (Es s 5 p) v6 = bsd (f (11 + p)) v6 := by rw [show Es s 5 p = f (11 + p) by omega]
            have hbr : -1 ≤ bsd (Es s 5 p) v6 ∧ bsd (Es s 5 p) v6 < 24 := by by_cases z : bsd (Es s 5 p) v6 = -1; omega; have := bsd_rg (c := Es s 5 p) (by omega) z; omega
            refine z_iconst hx dX2_isUnderBehind_105 ?_
            refine z_icmp_eq (tgt := 146) hx dX2_isUnderBehind_106 (by decide) (by omega) (by decide) (fun c_20 => ?_) (fun c_20 => ?_)
            ·
              refine z_iinc hx dX2_isUnderBehind_146 (by decide) 6 rfl [1, 2, 3, 4, 5, 6, 0] (lv' := [(0, .ref e), (1, .int (iI p)), (2, .int (iI s)), (3, .int (iI t)), (4, .ref w_1), (5, .ref w_2), (6, .int (iI (v6 + 1)))]) rfl ?_
              refine z_goto (tgt := 87) hx dX2_isUnderBehind_149 (by decide) ?_
              exact ih_15 _ gC gE _ (by omega) (by exact hEs) (by exact hCs) (by intro w9 a b; by_cases z9 : w9 = v6; (rw [z9]; rintro ⟨y1, y2⟩; unfold vld at y1; omega); exact hl w9 a (by omega)) hk_13 fr_14 (by omega)
            ·
              have hv9 : vld f p v6 := by unfold vld; omega
              refine z_aload_n hx dX2_isUnderBehind_109 rfl 0 rfl ?_
              refine z_get hx dX2_isUnderBehind_110 fl_X2_17 hk_13.1 rfl ?_
              refine z_iload_n hx dX2_isUnderBehind_113 rfl 2 rfl ?_
              refine z_iload hx dX2_isUnderBehind_114 6 rfl ?_
              refine z_iastQ hx dX2_isUnderBehind_116 hk_13.2.2.1 (by omega) (by decide) (fun h_21 hs_22 hf_23 => ?_)
              have hE_24 := EM.ch hk_13 hs_22 hf_23
              have fr_25 := fr_14.tr (hf_23.wd (by omega) (by omega))
              refine z_aload hx dX2_isUnderBehind_117 5 rfl ?_
              refine z_aload hx dX2_isUnderBehind_119 4 rfl ?_
              refine z_cVV (as := [.ref w_1]) (rest := []) hx dX2_isUnderBehind_121 lk_X2_26 wm_X1_becomes wv_X1_becomes (rcv_obj hx (And.left (EM.row hE_24 (i := (s + 1)) (by omega) ew_2 rfl)) rfl) mo_X1_becomes (kX1_becomes g (F := (gE (s + 1))) (G := (Es s)) (f := f) (EM.row hE_24 (i := (s + 1)) (by omega) ew_2 rfl) (EM.row hE_24 (i := s) (by omega) ew_1 (hEs s (by omega) (by omega))) hR hI (by omega)) (by decide) rfl rfl (Nat.le_of_ble_eq_true rfl) (fun h_26 q_27 => ?_)
              obtain ⟨F_30, hC_28, hR_31, hf_29⟩ := q_27
              have hE_32 := EM.up hE_24 (i := (s + 1)) (by omega) ew_2 hC_28 hf_29
              obtain ⟨Es_33, eEs_33⟩ : ∃ G : Int → Nat → Int → Int, G = (fun j => if j = (s + 1) then F_30 else gE j) := ⟨_, rfl⟩
              rw [← eEs_33] at hE_32
              have kp_34 : ∀ j, j ≠ (s + 1) → Es_33 j = gE j := fun j z => by rw [eEs_33]; exact if_neg z
              have eF_35 : Es_33 (s) = (Es s) := (kp_34 _ (by omega)).trans (hEs s (by omega) (by omega))
              have eF_36 : Es_33 ((s + 1)) = F_30 := by rw [eEs_33]; exact if_pos rfl
              have fr_37 := fr_25.tr (hf_29.wd (by omega) (by omega))
              refine z_aload hx dX2_isUnderBehind_124 5 rfl ?_
              refine z_iload_n hx dX2_isUnderBehind_126 rfl 1 rfl ?_
              refine z_iload hx dX2_isUnderBehind_127 6 rfl ?_
              have hwfl : p = -1 ∨ ((0 ≤ p ∧ p < f 37) ∧ f (17 + p) = 0 ∧ (0 ≤ v6 ∧ v6 ≤ 4) ∧ vld f p v6) := Or.inr ⟨hp, h0, ⟨by omega, by omega⟩, hv9⟩
              refine z_cVV (as := [.int (iI p), .int (iI v6)]) (rest := []) hx dX2_isUnderBehind_129 lk_X2_50 wm_X1_passHourWith wv_X1_passHourWith (rcv_obj hx (And.left (EM.row hE_32 (i := (s + 1)) (by omega) ew_2 eF_36)) rfl) mo_X1_passHourWith (kX1_passHourWith g (F := F_30) (f := f) (r := p) (w := v6) (EM.row hE_32 (i := (s + 1)) (by omega) ew_2 eF_36) hR_31 hI  (show p = -1 ∨ ((0 ≤ p ∧ p < f 37) ∧ f (17 + p) = 0 ∧ (0 ≤ v6 ∧ v6 ≤ 4) ∧ vld f p v6) by exact Or.inr ⟨hp, h0, ⟨by omega, by omega⟩, hv9⟩) (show rgI p by omega)) (by decide) rfl rfl (Nat.le_of_ble_eq_true rfl) (fun h_38 q_39 => ?_)
              obtain ⟨F_42, hC_40, hR_43, hf_41⟩ := q_39
              obtain ⟨f_45, ef_45⟩ : ∃ G : Int → Int, G = hrW f p v6 := ⟨_, rfl⟩
              rw [← ef_45] at hR_43
              have iv_46 := inv_hrW hI hwfl
              rw [← ef_45] at iv_46
              have hE_47 := EM.up hE_32 (i := (s + 1)) (by omega) ew_2 hC_40 hf_41
              obtain ⟨Es_48, eEs_48⟩ : ∃ G : Int → Nat → Int → Int, G = (fun j => if j = (s + 1) then F_42 else Es_33 j) := ⟨_, rfl⟩
              rw [← eEs_48] at hE_47
              have kp_49 : ∀ j, j ≠ (s + 1) → Es_48 j = Es_33 j := fun j z => by rw [eEs_48]; exact if_neg z
              have eF_50 : Es_48 (s) = (Es s) := (kp_49 _ (by omega)).trans eF_35
              have eF_51 : Es_48 ((s + 1)) = F_42 := by rw [eEs_48]; exact if_pos rfl
              have fr_52 := fr_37.tr (hf_41.wd (by omega) (by omega))
              have g37 := iv_46.2 37 (by decide)
              refine z_aload_n hx dX2_isUnderBehind_132 rfl 0 rfl ?_
              refine z_iload_n hx dX2_isUnderBehind_133 rfl 1 rfl ?_
              refine z_iload_n hx dX2_isUnderBehind_134 rfl 2 rfl ?_
              refine z_iconst hx dX2_isUnderBehind_135 ?_
              refine z_iadd hx dX2_isUnderBehind_136 ?_
              refine z_iload_n hx dX2_isUnderBehind_137 rfl 3 rfl ?_
              refine z_cSJ (as := [.ref e, .int (iI p), .int (iI (s + 1)), .int (iI t)]) (rest := []) hx dX2_isUnderBehind_138 lk_X2_30 wt_X2_isUnderBehind mo_X2_isUnderBehind (kX2_ub3 g (s := s + 1) (f := f_45) hE_47 (by rw [eF_51]; exact hR_43) iv_46.1 (by omega) (by omega)) (by decide) rfl rfl (Nat.le_of_ble_eq_true rfl) (fun h_53 q_54 => ?_)
              obtain ⟨C_55, Es_56, hE_57, k_58, k_59, k_60, hf_61⟩ := q_54
              have eF_62 : Es_56 (s) = (Es s) := (k_58 _ (by omega) (by omega)).trans eF_50
              have eF_63 : Es_56 ((s + 1)) = F_42 := (k_58 _ (by omega) (by omega)).trans eF_51
              have fr_64 := fr_52.tr (hf_61.wd (by omega) (by omega))
              refine z_ifeq_b (tgt := 146) hx dX2_isUnderBehind_141 (by decide)  (fun c_65 => ?_) (fun c_65 => ?_)
              ·
                refine z_iinc hx dX2_isUnderBehind_146 (by decide) 6 rfl [1, 2, 3, 4, 5, 6, 0] (lv' := [(0, .ref e), (1, .int (iI p)), (2, .int (iI s)), (3, .int (iI t)), (4, .ref w_1), (5, .ref w_2), (6, .int (iI (v6 + 1)))]) rfl ?_
                refine z_goto (tgt := 87) hx dX2_isUnderBehind_149 (by decide) ?_
                exact ih_15 _ C_55 Es_56 _ (by omega) (by intro i a b; exact ((((k_58 i a (by omega))).trans (kp_49 i (by omega))).trans (kp_34 i (by omega))).trans (hEs i a b)) (by intro i a b; exact ((k_59 i a (by omega)).trans (fup_n (by omega))).trans (hCs i a b)) (by intro w9 a b; by_cases z9 : w9 = v6; (rw [z9]; rintro ⟨y1, y2⟩; rw [← ef_45] at y2; exact absurd y2 (by assumption)); exact hl w9 a (by omega)) hE_57 fr_64 (by omega)
              ·
                have hc9 : fc p 3 (hrW f p v6) ≠ -1 := by rw [← ef_45]; assumption
                have fy := fc_y (m := 3) (by decide) h0 (w := v6) (by omega) hv9 hl hc9
                refine z_iconst hx dX2_isUnderBehind_144 ?_
                refine z_iret hx hr dX2_isUnderBehind_145 rfl rfl (q_j (b2i_t fy.2.2).symm ⟨C_55, Es_56, hE_57, (fun i a b => ((((k_58 i a (by omega))).trans (kp_49 i (by omega))).trans (kp_34 i (by omega))).trans (hEs i a b)), (fun i a b => ((k_59 i a (by omega)).trans (fup_n (by omega))).trans (hCs i a b)), (fun _ => esc_dig (m := 3) (by decide) (w := v6) (r := fc p 3 f_45) (by omega) (by rw [ef_45]; exact fy.2.1) (by rw [ef_45]; exact fy.1) ((k_59 s (by omega) (by omega)).trans (fup_s _ _ _)) (k_60 (by assumption))), fr_64⟩)
      exact hL_11 (((5 : Int) - 0) + 1 : Int).toNat _ C Es _ (by omega) (by intro i a b; rfl) (by intro i a b; rfl) (by intro w9 a b; omega) hE Fr.rf (by omega)
    ·
      have fnn : fc p 4 f = -1 := by rcases fc_sp p 4 (by decide) f with ⟨z, _⟩ | ⟨z, _⟩; exact z; have := fc_pr 4 f hI hp h0 (by omega); omega
      refine z_iconst hx dX2_isUnderBehind_82 ?_
      refine z_iret hx hr dX2_isUnderBehind_83 rfl rfl (q_j (b2i_f (fun z => z fnn)).symm ⟨C, Es, hE, (fun _ _ _ => rfl), (fun _ _ _ => rfl), (fun z => absurd fnn z), Fr.rf⟩)
  ·
    have fnn : fc p 4 f = -1 := fc_b (m := 3) (by omega)
    refine z_iconst hx dX2_isUnderBehind_68 ?_
    refine z_iret hx hr dX2_isUnderBehind_69 rfl rfl (q_j (b2i_f (fun z => z fnn)).symm ⟨C, Es, hE, (fun _ _ _ => rfl), (fun _ _ _ => rfl), (fun z => absurd fnn z), Fr.rf⟩)

set_option maxHeartbeats 4000000 in
set_option maxRecDepth 20000 in
theorem kX2_ubT1 (g : Gt) {h : AH} {e : Nat} {C : Int → Int} {Es : Int → Nat → Int → Int} {f : Int → Int} {p s t : Int} (hE : EM h e C Es) (hR : RLC (Es s) f) (hI : inv f) (hp : 0 ≤ p ∧ p < f 37) (hs : (0 ≤ s ∧ s + 1 = t) ∧ t ≤ 4) : CnJ g mX2_isUnderBehind 12 [.ref e, .int (iI p), .int (iI s), .int (iI t)] h (b2i (fc p 1 f ≠ -1)) (QS h e C Es p s 1 f) := by
  refine Cn.mk (by decide +kernel) (Nat.le_of_ble_eq_true rfl) ?_
  intro x sz hx hr
  show Zj g x (sz, 0, 0) h 0 [(0, .ref e), (1, .int (iI p)), (2, .int (iI s)), (3, .int (iI t))] []
  have hn := hI.n
  have ip := hI.p p (by omega)
  refine z_aload_n hx dX2_isUnderBehind_0 rfl 0 rfl ?_
  refine z_iload_n hx dX2_isUnderBehind_1 rfl 2 rfl ?_
  obtain ⟨w_1, ew_1⟩ : ∃ a : Nat, a = e + 3 + 10 * (s : Int).toNat := ⟨_, rfl⟩
  have rw_1 : e + 3 ≤ w_1 ∧ w_1 + 10 ≤ e + 53 := by omega
  refine z_cVR (as := [.int (iI s)]) (rest := []) hx dX2_isUnderBehind_2 lk_X2_22 wm_X2_stageAt wv_X2_stageAt (rcv_obj hx hE.1 rfl) mo_X2_stageAt (kX2_stageAt g (i := s) (w := w_1) hE (by omega) ew_1) (by decide) rfl rfl (Nat.le_of_ble_eq_true rfl) ?_
  refine z_astore hx dX2_isUnderBehind_5 (by decide) [1, 2, 3, 4, 0] (lv' := [(0, .ref e), (1, .int (iI p)), (2, .int (iI s)), (3, .int (iI t)), (4, .ref w_1)]) rfl ?_
  refine z_aload_n hx dX2_isUnderBehind_7 rfl 0 rfl ?_
  refine z_iload_n hx dX2_isUnderBehind_8 rfl 2 rfl ?_
  refine z_iconst hx dX2_isUnderBehind_9 ?_
  refine z_iadd hx dX2_isUnderBehind_10 ?_
  obtain ⟨w_2, ew_2⟩ : ∃ a : Nat, a = e + 3 + 10 * ((s + 1) : Int).toNat := ⟨_, rfl⟩
  have rw_2 : e + 3 ≤ w_2 ∧ w_2 + 10 ≤ e + 53 := by omega
  refine z_cVR (as := [.int (iI (s + 1))]) (rest := []) hx dX2_isUnderBehind_11 lk_X2_22 wm_X2_stageAt wv_X2_stageAt (rcv_obj hx hE.1 rfl) mo_X2_stageAt (kX2_stageAt g (i := (s + 1)) (w := w_2) hE (by omega) ew_2) (by decide) rfl rfl (Nat.le_of_ble_eq_true rfl) ?_
  refine z_astore hx dX2_isUnderBehind_14 (by decide) [1, 2, 3, 4, 5, 0] (lv' := [(0, .ref e), (1, .int (iI p)), (2, .int (iI s)), (3, .int (iI t)), (4, .ref w_1), (5, .ref w_2)]) rfl ?_
  refine z_aload hx dX2_isUnderBehind_16 4 rfl ?_
  refine z_ifnull hx dX2_isUnderBehind_18 ?_
  refine z_iload_n hx dX2_isUnderBehind_21 rfl 2 rfl ?_
  refine z_iload_n hx dX2_isUnderBehind_22 rfl 3 rfl ?_
  refine z_icmp_ne (tgt := 42) hx dX2_isUnderBehind_23 (by decide) (by omega) (by omega) (fun c_3 => ?_) (fun c_3 => by exfalso; omega)
  refine z_aload hx dX2_isUnderBehind_42 4 rfl ?_
  refine z_ifnull hx dX2_isUnderBehind_44 ?_
  refine z_aload hx dX2_isUnderBehind_47 5 rfl ?_
  refine z_ifnull hx dX2_isUnderBehind_49 ?_
  refine z_iload_n hx dX2_isUnderBehind_52 rfl 2 rfl ?_
  refine z_iconst hx dX2_isUnderBehind_53 ?_
  refine z_icmp_ge (tgt := 68) hx dX2_isUnderBehind_54 (by decide) (by omega) (by decide) (fun c_4 => by exfalso; omega) (fun c_4 => ?_)
  refine z_aload hx dX2_isUnderBehind_57 4 rfl ?_
  refine z_get hx dX2_isUnderBehind_59 fl_X2_34 (EM.row hE (i := s) (by omega) ew_1 rfl).1 rfl ?_
  refine z_iload_n hx dX2_isUnderBehind_62 rfl 1 rfl ?_
  refine z_iald hx dX2_isUnderBehind_63 (EM.row hE (i := s) (by omega) ew_1 rfl).2.2.2.2.2.2.1 (by omega) (by decide) ?_
  have rp_5 := hR.p p (by first | omega | decide)
  have ip_6 := hI.p p (by first | omega | decide)
  have cc_7 := cv_c (f (17 + p))
  refine z_iconst hx dX2_isUnderBehind_64 ?_
  refine z_icmp_eq (tgt := 70) hx dX2_isUnderBehind_65 (by decide) (by omega) (by decide) (fun c_8 => ?_) (fun c_8 => ?_)
  ·
    have h0 : f (17 + p) = 0 := by omega
    refine z_aload hx dX2_isUnderBehind_70 4 rfl ?_
    refine z_iload_n hx dX2_isUnderBehind_72 rfl 1 rfl ?_
    refine z_cVI (as := [.int (iI p)]) (rest := []) hx dX2_isUnderBehind_73 lk_X2_37 wm_X1_fewestHoursTo wv_X1_fewestHoursTo (rcv_obj hx (And.left (EM.row hE (i := s) (by omega) ew_1 rfl)) rfl) mo_X1_fewestHoursTo (kX1_fewestHoursTo g (F := (Es s)) (f := f) (p := p) (EM.row hE (i := s) (by omega) ew_1 rfl) hR hI (show 0 ≤ p ∧ p < f 37 by omega)) (by decide) rfl rfl (Nat.le_of_ble_eq_true rfl) ?_
    have f_9 : 1 ≤ fht f p ∧ fht f p ≤ 10 := by have q1 := fht_rg hI (p := p) (n := f 26) (by have := (hI).n; omega) (by have := (hI).n; omega); unfold fht; omega
    refine z_iload_n hx dX2_isUnderBehind_76 rfl 3 rfl ?_
    refine z_iload_n hx dX2_isUnderBehind_77 rfl 2 rfl ?_
    refine z_isub hx dX2_isUnderBehind_78 ?_
    refine z_icmp_le (tgt := 84) hx dX2_isUnderBehind_79 (by decide) (by omega) (by omega) (fun c_10 => ?_) (fun c_10 => ?_)
    ·
      refine z_iconst hx dX2_isUnderBehind_84 ?_
      refine z_istore hx dX2_isUnderBehind_85 (by decide) [1, 2, 3, 4, 5, 6, 0] (lv' := [(0, .ref e), (1, .int (iI p)), (2, .int (iI s)), (3, .int (iI t)), (4, .ref w_1), (5, .ref w_2), (6, .int (iI 0))]) rfl ?_
      have hL_11 : ∀ (mm : Nat) (v6 : Int) (gC : Int → Int) (gE : Int → Nat → Int → Int) (h_12 : AH), (0 ≤ v6 ∧ v6 ≤ 5) → (∀ i, 0 ≤ i → i ≤ s → gE i = Es i) → (∀ i, 0 ≤ i → i < s → gC i = C i) → (∀ w9, 0 ≤ w9 → w9 < v6 → ¬ (vld f p w9 ∧ fc p 0 (hrW f p w9) ≠ -1)) → (EM h_12 e gC gE) → (Fr h h_12 e 53) → (5 : Int) - v6 < (mm : Int) → Zj g x (sz, 0, 0) h_12 87 [(0, .ref e), (1, .int (iI p)), (2, .int (iI s)), (3, .int (iI t)), (4, .ref w_1), (5, .ref w_2), (6, .int (iI v6))] [] := by
        intro mm
        induction mm with
        | zero => intro v6 gC gE h_12 kv hEs hCs hl hk_13 fr_14 hm; exfalso; omega
        | succ mm ih =>
          intro v6 gC gE h_12 kv hEs hCs hl hk_13 fr_14 hm
          have ih_15 := ih; clear ih
          refine z_iload hx dX2_isUnderBehind_87 6 rfl ?_
          refine z_iconst hx dX2_isUnderBehind_89 ?_
          refine z_icmp_ge (tgt := 152) hx dX2_isUnderBehind_90 (by decide) (by omega) (by decide) (fun c_16 => ?_) (fun c_16 => ?_)
          ·
            have fnn : fc p 1 f = -1 := fc_n (m := 0) (fun w9 a b => hl w9 a (by omega))
            refine z_iconst hx dX2_isUnderBehind_152 ?_
            refine z_iret hx hr dX2_isUnderBehind_153 rfl rfl (q_j (b2i_f (fun z => z fnn)).symm ⟨gC, gE, hk_13, hEs, hCs, (fun z => absurd fnn z), fr_14⟩)
          ·
            refine z_aload hx dX2_isUnderBehind_93 4 rfl ?_
            refine z_get hx dX2_isUnderBehind_95 fl_X2_41 (EM.row hk_13 (i := s) (by omega) ew_1 (hEs s (by omega) (by omega))).1 rfl ?_
            refine z_iload_n hx dX2_isUnderBehind_98 rfl 1 rfl ?_
            refine z_iald hx dX2_isUnderBehind_99 (EM.row hk_13 (i := s) (by omega) ew_1 (hEs s (by omega) (by omega))).2.2.2.2.2.1 (by omega) (by decide) ?_
            have rp_17 := hR.p p (by first | omega | decide)
            have ip_18 := hI.p p (by first | omega | decide)
            have cc_19 := cv_c (f (17 + p))
            refine z_iload hx dX2_isUnderBehind_100 6 rfl ?_
            refine z_cSI (as := [.int (iI ((Es s) 5 p)), .int (iI v6)]) (rest := []) hx dX2_isUnderBehind_102 lk_X2_44 wt_X0_beside mo_X0_beside (kX0_beside g (a := ((Es s) 5 p)) (b := v6) (by omega) (by omega)) (by decide) rfl rfl (Nat.le_of_ble_eq_true rfl) ?_
            have eb : bsd (Es s 5 p) v6 = bsd (f (11 + p)) v6 := by rw [show Es s 5 p = f (11 + p) by omega]
            have hbr : -1 ≤ bsd (Es s 5 p) v6 ∧ bsd (Es s 5 p) v6 < 24 := by by_cases z : bsd (Es s 5 p) v6 = -1; omega; have := bsd_rg (c := Es s 5 p) (by omega) z; omega
            refine z_iconst hx dX2_isUnderBehind_105 ?_
            refine z_icmp_eq (tgt := 146) hx dX2_isUnderBehind_106 (by decide) (by omega) (by decide) (fun c_20 => ?_) (fun c_20 => ?_)
            ·
              refine z_iinc hx dX2_isUnderBehind_146 (by decide) 6 rfl [1, 2, 3, 4, 5, 6, 0] (lv' := [(0, .ref e), (1, .int (iI p)), (2, .int (iI s)), (3, .int (iI t)), (4, .ref w_1), (5, .ref w_2), (6, .int (iI (v6 + 1)))]) rfl ?_
              refine z_goto (tgt := 87) hx dX2_isUnderBehind_149 (by decide) ?_
              exact ih_15 _ gC gE _ (by omega) (by exact hEs) (by exact hCs) (by intro w9 a b; by_cases z9 : w9 = v6; (rw [z9]; rintro ⟨y1, y2⟩; unfold vld at y1; omega); exact hl w9 a (by omega)) hk_13 fr_14 (by omega)
            ·
              have hv9 : vld f p v6 := by unfold vld; omega
              refine z_aload_n hx dX2_isUnderBehind_109 rfl 0 rfl ?_
              refine z_get hx dX2_isUnderBehind_110 fl_X2_17 hk_13.1 rfl ?_
              refine z_iload_n hx dX2_isUnderBehind_113 rfl 2 rfl ?_
              refine z_iload hx dX2_isUnderBehind_114 6 rfl ?_
              refine z_iastQ hx dX2_isUnderBehind_116 hk_13.2.2.1 (by omega) (by decide) (fun h_21 hs_22 hf_23 => ?_)
              have hE_24 := EM.ch hk_13 hs_22 hf_23
              have fr_25 := fr_14.tr (hf_23.wd (by omega) (by omega))
              refine z_aload hx dX2_isUnderBehind_117 5 rfl ?_
              refine z_aload hx dX2_isUnderBehind_119 4 rfl ?_
              refine z_cVV (as := [.ref w_1]) (rest := []) hx dX2_isUnderBehind_121 lk_X2_26 wm_X1_becomes wv_X1_becomes (rcv_obj hx (And.left (EM.row hE_24 (i := (s + 1)) (by omega) ew_2 rfl)) rfl) mo_X1_becomes (kX1_becomes g (F := (gE (s + 1))) (G := (Es s)) (f := f) (EM.row hE_24 (i := (s + 1)) (by omega) ew_2 rfl) (EM.row hE_24 (i := s) (by omega) ew_1 (hEs s (by omega) (by omega))) hR hI (by omega)) (by decide) rfl rfl (Nat.le_of_ble_eq_true rfl) (fun h_26 q_27 => ?_)
              obtain ⟨F_30, hC_28, hR_31, hf_29⟩ := q_27
              have hE_32 := EM.up hE_24 (i := (s + 1)) (by omega) ew_2 hC_28 hf_29
              obtain ⟨Es_33, eEs_33⟩ : ∃ G : Int → Nat → Int → Int, G = (fun j => if j = (s + 1) then F_30 else gE j) := ⟨_, rfl⟩
              rw [← eEs_33] at hE_32
              have kp_34 : ∀ j, j ≠ (s + 1) → Es_33 j = gE j := fun j z => by rw [eEs_33]; exact if_neg z
              have eF_35 : Es_33 (s) = (Es s) := (kp_34 _ (by omega)).trans (hEs s (by omega) (by omega))
              have eF_36 : Es_33 ((s + 1)) = F_30 := by rw [eEs_33]; exact if_pos rfl
              have fr_37 := fr_25.tr (hf_29.wd (by omega) (by omega))
              refine z_aload hx dX2_isUnderBehind_124 5 rfl ?_
              refine z_iload_n hx dX2_isUnderBehind_126 rfl 1 rfl ?_
              refine z_iload hx dX2_isUnderBehind_127 6 rfl ?_
              have hwfl : p = -1 ∨ ((0 ≤ p ∧ p < f 37) ∧ f (17 + p) = 0 ∧ (0 ≤ v6 ∧ v6 ≤ 4) ∧ vld f p v6) := Or.inr ⟨hp, h0, ⟨by omega, by omega⟩, hv9⟩
              refine z_cVV (as := [.int (iI p), .int (iI v6)]) (rest := []) hx dX2_isUnderBehind_129 lk_X2_50 wm_X1_passHourWith wv_X1_passHourWith (rcv_obj hx (And.left (EM.row hE_32 (i := (s + 1)) (by omega) ew_2 eF_36)) rfl) mo_X1_passHourWith (kX1_passHourWith g (F := F_30) (f := f) (r := p) (w := v6) (EM.row hE_32 (i := (s + 1)) (by omega) ew_2 eF_36) hR_31 hI  (show p = -1 ∨ ((0 ≤ p ∧ p < f 37) ∧ f (17 + p) = 0 ∧ (0 ≤ v6 ∧ v6 ≤ 4) ∧ vld f p v6) by exact Or.inr ⟨hp, h0, ⟨by omega, by omega⟩, hv9⟩) (show rgI p by omega)) (by decide) rfl rfl (Nat.le_of_ble_eq_true rfl) (fun h_38 q_39 => ?_)
              obtain ⟨F_42, hC_40, hR_43, hf_41⟩ := q_39
              obtain ⟨f_45, ef_45⟩ : ∃ G : Int → Int, G = hrW f p v6 := ⟨_, rfl⟩
              rw [← ef_45] at hR_43
              have iv_46 := inv_hrW hI hwfl
              rw [← ef_45] at iv_46
              have hE_47 := EM.up hE_32 (i := (s + 1)) (by omega) ew_2 hC_40 hf_41
              obtain ⟨Es_48, eEs_48⟩ : ∃ G : Int → Nat → Int → Int, G = (fun j => if j = (s + 1) then F_42 else Es_33 j) := ⟨_, rfl⟩
              rw [← eEs_48] at hE_47
              have kp_49 : ∀ j, j ≠ (s + 1) → Es_48 j = Es_33 j := fun j z => by rw [eEs_48]; exact if_neg z
              have eF_50 : Es_48 (s) = (Es s) := (kp_49 _ (by omega)).trans eF_35
              have eF_51 : Es_48 ((s + 1)) = F_42 := by rw [eEs_48]; exact if_pos rfl
              have fr_52 := fr_37.tr (hf_41.wd (by omega) (by omega))
              have g37 := iv_46.2 37 (by decide)
              refine z_aload_n hx dX2_isUnderBehind_132 rfl 0 rfl ?_
              refine z_iload_n hx dX2_isUnderBehind_133 rfl 1 rfl ?_
              refine z_iload_n hx dX2_isUnderBehind_134 rfl 2 rfl ?_
              refine z_iconst hx dX2_isUnderBehind_135 ?_
              refine z_iadd hx dX2_isUnderBehind_136 ?_
              refine z_iload_n hx dX2_isUnderBehind_137 rfl 3 rfl ?_
              refine z_cSJ (as := [.ref e, .int (iI p), .int (iI (s + 1)), .int (iI t)]) (rest := []) hx dX2_isUnderBehind_138 lk_X2_30 wt_X2_isUnderBehind mo_X2_isUnderBehind (kX2_ub0 g (s := s + 1) (f := f_45) hE_47 (by rw [eF_51]; exact hR_43) iv_46.1 (by omega) (by omega)) (by decide) rfl rfl (Nat.le_of_ble_eq_true rfl) (fun h_53 q_54 => ?_)
              obtain ⟨C_55, Es_56, hE_57, k_58, k_59, k_60, hf_61⟩ := q_54
              have eF_62 : Es_56 (s) = (Es s) := (k_58 _ (by omega) (by omega)).trans eF_50
              have eF_63 : Es_56 ((s + 1)) = F_42 := (k_58 _ (by omega) (by omega)).trans eF_51
              have fr_64 := fr_52.tr (hf_61.wd (by omega) (by omega))
              refine z_ifeq_b (tgt := 146) hx dX2_isUnderBehind_141 (by decide)  (fun c_65 => ?_) (fun c_65 => ?_)
              ·
                refine z_iinc hx dX2_isUnderBehind_146 (by decide) 6 rfl [1, 2, 3, 4, 5, 6, 0] (lv' := [(0, .ref e), (1, .int (iI p)), (2, .int (iI s)), (3, .int (iI t)), (4, .ref w_1), (5, .ref w_2), (6, .int (iI (v6 + 1)))]) rfl ?_
                refine z_goto (tgt := 87) hx dX2_isUnderBehind_149 (by decide) ?_
                exact ih_15 _ C_55 Es_56 _ (by omega) (by intro i a b; exact ((((k_58 i a (by omega))).trans (kp_49 i (by omega))).trans (kp_34 i (by omega))).trans (hEs i a b)) (by intro i a b; exact ((k_59 i a (by omega)).trans (fup_n (by omega))).trans (hCs i a b)) (by intro w9 a b; by_cases z9 : w9 = v6; (rw [z9]; rintro ⟨y1, y2⟩; rw [← ef_45] at y2; exact absurd y2 (by assumption)); exact hl w9 a (by omega)) hE_57 fr_64 (by omega)
              ·
                have hc9 : fc p 0 (hrW f p v6) ≠ -1 := by rw [← ef_45]; assumption
                have fy := fc_y (m := 0) (by decide) h0 (w := v6) (by omega) hv9 hl hc9
                refine z_iconst hx dX2_isUnderBehind_144 ?_
                refine z_iret hx hr dX2_isUnderBehind_145 rfl rfl (q_j (b2i_t fy.2.2).symm ⟨C_55, Es_56, hE_57, (fun i a b => ((((k_58 i a (by omega))).trans (kp_49 i (by omega))).trans (kp_34 i (by omega))).trans (hEs i a b)), (fun i a b => ((k_59 i a (by omega)).trans (fup_n (by omega))).trans (hCs i a b)), (fun _ => esc_dig (m := 0) (by decide) (w := v6) (r := fc p 0 f_45) (by omega) (by rw [ef_45]; exact fy.2.1) (by rw [ef_45]; exact fy.1) ((k_59 s (by omega) (by omega)).trans (fup_s _ _ _)) (k_60 (by assumption))), fr_64⟩)
      exact hL_11 (((5 : Int) - 0) + 1 : Int).toNat _ C Es _ (by omega) (by intro i a b; rfl) (by intro i a b; rfl) (by intro w9 a b; omega) hE Fr.rf (by omega)
    ·
      have fnn : fc p 1 f = -1 := by rcases fc_sp p 1 (by decide) f with ⟨z, _⟩ | ⟨z, _⟩; exact z; have := fc_pr 1 f hI hp h0 (by omega); omega
      refine z_iconst hx dX2_isUnderBehind_82 ?_
      refine z_iret hx hr dX2_isUnderBehind_83 rfl rfl (q_j (b2i_f (fun z => z fnn)).symm ⟨C, Es, hE, (fun _ _ _ => rfl), (fun _ _ _ => rfl), (fun z => absurd fnn z), Fr.rf⟩)
  ·
    have fnn : fc p 1 f = -1 := fc_b (m := 0) (by omega)
    refine z_iconst hx dX2_isUnderBehind_68 ?_
    refine z_iret hx hr dX2_isUnderBehind_69 rfl rfl (q_j (b2i_f (fun z => z fnn)).symm ⟨C, Es, hE, (fun _ _ _ => rfl), (fun _ _ _ => rfl), (fun z => absurd fnn z), Fr.rf⟩)

set_option maxHeartbeats 4000000 in
set_option maxRecDepth 20000 in
theorem kX2_ubT2 (g : Gt) {h : AH} {e : Nat} {C : Int → Int} {Es : Int → Nat → Int → Int} {f : Int → Int} {p s t : Int} (hE : EM h e C Es) (hR : RLC (Es s) f) (hI : inv f) (hp : 0 ≤ p ∧ p < f 37) (hs : (0 ≤ s ∧ s + 2 = t) ∧ t ≤ 4) : CnJ g mX2_isUnderBehind 12 [.ref e, .int (iI p), .int (iI s), .int (iI t)] h (b2i (fc p 2 f ≠ -1)) (QS h e C Es p s 2 f) := by
  refine Cn.mk (by decide +kernel) (Nat.le_of_ble_eq_true rfl) ?_
  intro x sz hx hr
  show Zj g x (sz, 0, 0) h 0 [(0, .ref e), (1, .int (iI p)), (2, .int (iI s)), (3, .int (iI t))] []
  have hn := hI.n
  have ip := hI.p p (by omega)
  refine z_aload_n hx dX2_isUnderBehind_0 rfl 0 rfl ?_
  refine z_iload_n hx dX2_isUnderBehind_1 rfl 2 rfl ?_
  obtain ⟨w_1, ew_1⟩ : ∃ a : Nat, a = e + 3 + 10 * (s : Int).toNat := ⟨_, rfl⟩
  have rw_1 : e + 3 ≤ w_1 ∧ w_1 + 10 ≤ e + 53 := by omega
  refine z_cVR (as := [.int (iI s)]) (rest := []) hx dX2_isUnderBehind_2 lk_X2_22 wm_X2_stageAt wv_X2_stageAt (rcv_obj hx hE.1 rfl) mo_X2_stageAt (kX2_stageAt g (i := s) (w := w_1) hE (by omega) ew_1) (by decide) rfl rfl (Nat.le_of_ble_eq_true rfl) ?_
  refine z_astore hx dX2_isUnderBehind_5 (by decide) [1, 2, 3, 4, 0] (lv' := [(0, .ref e), (1, .int (iI p)), (2, .int (iI s)), (3, .int (iI t)), (4, .ref w_1)]) rfl ?_
  refine z_aload_n hx dX2_isUnderBehind_7 rfl 0 rfl ?_
  refine z_iload_n hx dX2_isUnderBehind_8 rfl 2 rfl ?_
  refine z_iconst hx dX2_isUnderBehind_9 ?_
  refine z_iadd hx dX2_isUnderBehind_10 ?_
  obtain ⟨w_2, ew_2⟩ : ∃ a : Nat, a = e + 3 + 10 * ((s + 1) : Int).toNat := ⟨_, rfl⟩
  have rw_2 : e + 3 ≤ w_2 ∧ w_2 + 10 ≤ e + 53 := by omega
  refine z_cVR (as := [.int (iI (s + 1))]) (rest := []) hx dX2_isUnderBehind_11 lk_X2_22 wm_X2_stageAt wv_X2_stageAt (rcv_obj hx hE.1 rfl) mo_X2_stageAt (kX2_stageAt g (i := (s + 1)) (w := w_2) hE (by omega) ew_2) (by decide) rfl rfl (Nat.le_of_ble_eq_true rfl) ?_
  refine z_astore hx dX2_isUnderBehind_14 (by decide) [1, 2, 3, 4, 5, 0] (lv' := [(0, .ref e), (1, .int (iI p)), (2, .int (iI s)), (3, .int (iI t)), (4, .ref w_1), (5, .ref w_2)]) rfl ?_
  refine z_aload hx dX2_isUnderBehind_16 4 rfl ?_
  refine z_ifnull hx dX2_isUnderBehind_18 ?_
  refine z_iload_n hx dX2_isUnderBehind_21 rfl 2 rfl ?_
  refine z_iload_n hx dX2_isUnderBehind_22 rfl 3 rfl ?_
  refine z_icmp_ne (tgt := 42) hx dX2_isUnderBehind_23 (by decide) (by omega) (by omega) (fun c_3 => ?_) (fun c_3 => by exfalso; omega)
  refine z_aload hx dX2_isUnderBehind_42 4 rfl ?_
  refine z_ifnull hx dX2_isUnderBehind_44 ?_
  refine z_aload hx dX2_isUnderBehind_47 5 rfl ?_
  refine z_ifnull hx dX2_isUnderBehind_49 ?_
  refine z_iload_n hx dX2_isUnderBehind_52 rfl 2 rfl ?_
  refine z_iconst hx dX2_isUnderBehind_53 ?_
  refine z_icmp_ge (tgt := 68) hx dX2_isUnderBehind_54 (by decide) (by omega) (by decide) (fun c_4 => by exfalso; omega) (fun c_4 => ?_)
  refine z_aload hx dX2_isUnderBehind_57 4 rfl ?_
  refine z_get hx dX2_isUnderBehind_59 fl_X2_34 (EM.row hE (i := s) (by omega) ew_1 rfl).1 rfl ?_
  refine z_iload_n hx dX2_isUnderBehind_62 rfl 1 rfl ?_
  refine z_iald hx dX2_isUnderBehind_63 (EM.row hE (i := s) (by omega) ew_1 rfl).2.2.2.2.2.2.1 (by omega) (by decide) ?_
  have rp_5 := hR.p p (by first | omega | decide)
  have ip_6 := hI.p p (by first | omega | decide)
  have cc_7 := cv_c (f (17 + p))
  refine z_iconst hx dX2_isUnderBehind_64 ?_
  refine z_icmp_eq (tgt := 70) hx dX2_isUnderBehind_65 (by decide) (by omega) (by decide) (fun c_8 => ?_) (fun c_8 => ?_)
  ·
    have h0 : f (17 + p) = 0 := by omega
    refine z_aload hx dX2_isUnderBehind_70 4 rfl ?_
    refine z_iload_n hx dX2_isUnderBehind_72 rfl 1 rfl ?_
    refine z_cVI (as := [.int (iI p)]) (rest := []) hx dX2_isUnderBehind_73 lk_X2_37 wm_X1_fewestHoursTo wv_X1_fewestHoursTo (rcv_obj hx (And.left (EM.row hE (i := s) (by omega) ew_1 rfl)) rfl) mo_X1_fewestHoursTo (kX1_fewestHoursTo g (F := (Es s)) (f := f) (p := p) (EM.row hE (i := s) (by omega) ew_1 rfl) hR hI (show 0 ≤ p ∧ p < f 37 by omega)) (by decide) rfl rfl (Nat.le_of_ble_eq_true rfl) ?_
    have f_9 : 1 ≤ fht f p ∧ fht f p ≤ 10 := by have q1 := fht_rg hI (p := p) (n := f 26) (by have := (hI).n; omega) (by have := (hI).n; omega); unfold fht; omega
    refine z_iload_n hx dX2_isUnderBehind_76 rfl 3 rfl ?_
    refine z_iload_n hx dX2_isUnderBehind_77 rfl 2 rfl ?_
    refine z_isub hx dX2_isUnderBehind_78 ?_
    refine z_icmp_le (tgt := 84) hx dX2_isUnderBehind_79 (by decide) (by omega) (by omega) (fun c_10 => ?_) (fun c_10 => ?_)
    ·
      refine z_iconst hx dX2_isUnderBehind_84 ?_
      refine z_istore hx dX2_isUnderBehind_85 (by decide) [1, 2, 3, 4, 5, 6, 0] (lv' := [(0, .ref e), (1, .int (iI p)), (2, .int (iI s)), (3, .int (iI t)), (4, .ref w_1), (5, .ref w_2), (6, .int (iI 0))]) rfl ?_
      have hL_11 : ∀ (mm : Nat) (v6 : Int) (gC : Int → Int) (gE : Int → Nat → Int → Int) (h_12 : AH), (0 ≤ v6 ∧ v6 ≤ 5) → (∀ i, 0 ≤ i → i ≤ s → gE i = Es i) → (∀ i, 0 ≤ i → i < s → gC i = C i) → (∀ w9, 0 ≤ w9 → w9 < v6 → ¬ (vld f p w9 ∧ fc p 1 (hrW f p w9) ≠ -1)) → (EM h_12 e gC gE) → (Fr h h_12 e 53) → (5 : Int) - v6 < (mm : Int) → Zj g x (sz, 0, 0) h_12 87 [(0, .ref e), (1, .int (iI p)), (2, .int (iI s)), (3, .int (iI t)), (4, .ref w_1), (5, .ref w_2), (6, .int (iI v6))] [] := by
        intro mm
        induction mm with
        | zero => intro v6 gC gE h_12 kv hEs hCs hl hk_13 fr_14 hm; exfalso; omega
        | succ mm ih =>
          intro v6 gC gE h_12 kv hEs hCs hl hk_13 fr_14 hm
          have ih_15 := ih; clear ih
          refine z_iload hx dX2_isUnderBehind_87 6 rfl ?_
          refine z_iconst hx dX2_isUnderBehind_89 ?_
          refine z_icmp_ge (tgt := 152) hx dX2_isUnderBehind_90 (by decide) (by omega) (by decide) (fun c_16 => ?_) (fun c_16 => ?_)
          ·
            have fnn : fc p 2 f = -1 := fc_n (m := 1) (fun w9 a b => hl w9 a (by omega))
            refine z_iconst hx dX2_isUnderBehind_152 ?_
            refine z_iret hx hr dX2_isUnderBehind_153 rfl rfl (q_j (b2i_f (fun z => z fnn)).symm ⟨gC, gE, hk_13, hEs, hCs, (fun z => absurd fnn z), fr_14⟩)
          ·
            refine z_aload hx dX2_isUnderBehind_93 4 rfl ?_
            refine z_get hx dX2_isUnderBehind_95 fl_X2_41 (EM.row hk_13 (i := s) (by omega) ew_1 (hEs s (by omega) (by omega))).1 rfl ?_
            refine z_iload_n hx dX2_isUnderBehind_98 rfl 1 rfl ?_
            refine z_iald hx dX2_isUnderBehind_99 (EM.row hk_13 (i := s) (by omega) ew_1 (hEs s (by omega) (by omega))).2.2.2.2.2.1 (by omega) (by decide) ?_
            have rp_17 := hR.p p (by first | omega | decide)
            have ip_18 := hI.p p (by first | omega | decide)
            have cc_19 := cv_c (f (17 + p))
            refine z_iload hx dX2_isUnderBehind_100 6 rfl ?_
            refine z_cSI (as := [.int (iI ((Es s) 5 p)), .int (iI v6)]) (rest := []) hx dX2_isUnderBehind_102 lk_X2_44 wt_X0_beside mo_X0_beside (kX0_beside g (a := ((Es s) 5 p)) (b := v6) (by omega) (by omega)) (by decide) rfl rfl (Nat.le_of_ble_eq_true rfl) ?_
            have eb : bsd (Es s 5 p) v6 = bsd (f (11 + p)) v6 := by rw [show Es s 5 p = f (11 + p) by omega]
            have hbr : -1 ≤ bsd (Es s 5 p) v6 ∧ bsd (Es s 5 p) v6 < 24 := by by_cases z : bsd (Es s 5 p) v6 = -1; omega; have := bsd_rg (c := Es s 5 p) (by omega) z; omega
            refine z_iconst hx dX2_isUnderBehind_105 ?_
            refine z_icmp_eq (tgt := 146) hx dX2_isUnderBehind_106 (by decide) (by omega) (by decide) (fun c_20 => ?_) (fun c_20 => ?_)
            ·
              refine z_iinc hx dX2_isUnderBehind_146 (by decide) 6 rfl [1, 2, 3, 4, 5, 6, 0] (lv' := [(0, .ref e), (1, .int (iI p)), (2, .int (iI s)), (3, .int (iI t)), (4, .ref w_1), (5, .ref w_2), (6, .int (iI (v6 + 1)))]) rfl ?_
              refine z_goto (tgt := 87) hx dX2_isUnderBehind_149 (by decide) ?_
              exact ih_15 _ gC gE _ (by omega) (by exact hEs) (by exact hCs) (by intro w9 a b; by_cases z9 : w9 = v6; (rw [z9]; rintro ⟨y1, y2⟩; unfold vld at y1; omega); exact hl w9 a (by omega)) hk_13 fr_14 (by omega)
            ·
              have hv9 : vld f p v6 := by unfold vld; omega
              refine z_aload_n hx dX2_isUnderBehind_109 rfl 0 rfl ?_
              refine z_get hx dX2_isUnderBehind_110 fl_X2_17 hk_13.1 rfl ?_
              refine z_iload_n hx dX2_isUnderBehind_113 rfl 2 rfl ?_
              refine z_iload hx dX2_isUnderBehind_114 6 rfl ?_
              refine z_iastQ hx dX2_isUnderBehind_116 hk_13.2.2.1 (by omega) (by decide) (fun h_21 hs_22 hf_23 => ?_)
              have hE_24 := EM.ch hk_13 hs_22 hf_23
              have fr_25 := fr_14.tr (hf_23.wd (by omega) (by omega))
              refine z_aload hx dX2_isUnderBehind_117 5 rfl ?_
              refine z_aload hx dX2_isUnderBehind_119 4 rfl ?_
              refine z_cVV (as := [.ref w_1]) (rest := []) hx dX2_isUnderBehind_121 lk_X2_26 wm_X1_becomes wv_X1_becomes (rcv_obj hx (And.left (EM.row hE_24 (i := (s + 1)) (by omega) ew_2 rfl)) rfl) mo_X1_becomes (kX1_becomes g (F := (gE (s + 1))) (G := (Es s)) (f := f) (EM.row hE_24 (i := (s + 1)) (by omega) ew_2 rfl) (EM.row hE_24 (i := s) (by omega) ew_1 (hEs s (by omega) (by omega))) hR hI (by omega)) (by decide) rfl rfl (Nat.le_of_ble_eq_true rfl) (fun h_26 q_27 => ?_)
              obtain ⟨F_30, hC_28, hR_31, hf_29⟩ := q_27
              have hE_32 := EM.up hE_24 (i := (s + 1)) (by omega) ew_2 hC_28 hf_29
              obtain ⟨Es_33, eEs_33⟩ : ∃ G : Int → Nat → Int → Int, G = (fun j => if j = (s + 1) then F_30 else gE j) := ⟨_, rfl⟩
              rw [← eEs_33] at hE_32
              have kp_34 : ∀ j, j ≠ (s + 1) → Es_33 j = gE j := fun j z => by rw [eEs_33]; exact if_neg z
              have eF_35 : Es_33 (s) = (Es s) := (kp_34 _ (by omega)).trans (hEs s (by omega) (by omega))
              have eF_36 : Es_33 ((s + 1)) = F_30 := by rw [eEs_33]; exact if_pos rfl
              have fr_37 := fr_25.tr (hf_29.wd (by omega) (by omega))
              refine z_aload hx dX2_isUnderBehind_124 5 rfl ?_
              refine z_iload_n hx dX2_isUnderBehind_126 rfl 1 rfl ?_
              refine z_iload hx dX2_isUnderBehind_127 6 rfl ?_
              have hwfl : p = -1 ∨ ((0 ≤ p ∧ p < f 37) ∧ f (17 + p) = 0 ∧ (0 ≤ v6 ∧ v6 ≤ 4) ∧ vld f p v6) := Or.inr ⟨hp, h0, ⟨by omega, by omega⟩, hv9⟩
              refine z_cVV (as := [.int (iI p), .int (iI v6)]) (rest := []) hx dX2_isUnderBehind_129 lk_X2_50 wm_X1_passHourWith wv_X1_passHourWith (rcv_obj hx (And.left (EM.row hE_32 (i := (s + 1)) (by omega) ew_2 eF_36)) rfl) mo_X1_passHourWith (kX1_passHourWith g (F := F_30) (f := f) (r := p) (w := v6) (EM.row hE_32 (i := (s + 1)) (by omega) ew_2 eF_36) hR_31 hI  (show p = -1 ∨ ((0 ≤ p ∧ p < f 37) ∧ f (17 + p) = 0 ∧ (0 ≤ v6 ∧ v6 ≤ 4) ∧ vld f p v6) by exact Or.inr ⟨hp, h0, ⟨by omega, by omega⟩, hv9⟩) (show rgI p by omega)) (by decide) rfl rfl (Nat.le_of_ble_eq_true rfl) (fun h_38 q_39 => ?_)
              obtain ⟨F_42, hC_40, hR_43, hf_41⟩ := q_39
              obtain ⟨f_45, ef_45⟩ : ∃ G : Int → Int, G = hrW f p v6 := ⟨_, rfl⟩
              rw [← ef_45] at hR_43
              have iv_46 := inv_hrW hI hwfl
              rw [← ef_45] at iv_46
              have hE_47 := EM.up hE_32 (i := (s + 1)) (by omega) ew_2 hC_40 hf_41
              obtain ⟨Es_48, eEs_48⟩ : ∃ G : Int → Nat → Int → Int, G = (fun j => if j = (s + 1) then F_42 else Es_33 j) := ⟨_, rfl⟩
              rw [← eEs_48] at hE_47
              have kp_49 : ∀ j, j ≠ (s + 1) → Es_48 j = Es_33 j := fun j z => by rw [eEs_48]; exact if_neg z
              have eF_50 : Es_48 (s) = (Es s) := (kp_49 _ (by omega)).trans eF_35
              have eF_51 : Es_48 ((s + 1)) = F_42 := by rw [eEs_48]; exact if_pos rfl
              have fr_52 := fr_37.tr (hf_41.wd (by omega) (by omega))
              have g37 := iv_46.2 37 (by decide)
              refine z_aload_n hx dX2_isUnderBehind_132 rfl 0 rfl ?_
              refine z_iload_n hx dX2_isUnderBehind_133 rfl 1 rfl ?_
              refine z_iload_n hx dX2_isUnderBehind_134 rfl 2 rfl ?_
              refine z_iconst hx dX2_isUnderBehind_135 ?_
              refine z_iadd hx dX2_isUnderBehind_136 ?_
              refine z_iload_n hx dX2_isUnderBehind_137 rfl 3 rfl ?_
              refine z_cSJ (as := [.ref e, .int (iI p), .int (iI (s + 1)), .int (iI t)]) (rest := []) hx dX2_isUnderBehind_138 lk_X2_30 wt_X2_isUnderBehind mo_X2_isUnderBehind (kX2_ub1 g (s := s + 1) (f := f_45) hE_47 (by rw [eF_51]; exact hR_43) iv_46.1 (by omega) (by omega)) (by decide) rfl rfl (Nat.le_of_ble_eq_true rfl) (fun h_53 q_54 => ?_)
              obtain ⟨C_55, Es_56, hE_57, k_58, k_59, k_60, hf_61⟩ := q_54
              have eF_62 : Es_56 (s) = (Es s) := (k_58 _ (by omega) (by omega)).trans eF_50
              have eF_63 : Es_56 ((s + 1)) = F_42 := (k_58 _ (by omega) (by omega)).trans eF_51
              have fr_64 := fr_52.tr (hf_61.wd (by omega) (by omega))
              refine z_ifeq_b (tgt := 146) hx dX2_isUnderBehind_141 (by decide)  (fun c_65 => ?_) (fun c_65 => ?_)
              ·
                refine z_iinc hx dX2_isUnderBehind_146 (by decide) 6 rfl [1, 2, 3, 4, 5, 6, 0] (lv' := [(0, .ref e), (1, .int (iI p)), (2, .int (iI s)), (3, .int (iI t)), (4, .ref w_1), (5, .ref w_2), (6, .int (iI (v6 + 1)))]) rfl ?_
                refine z_goto (tgt := 87) hx dX2_isUnderBehind_149 (by decide) ?_
                exact ih_15 _ C_55 Es_56 _ (by omega) (by intro i a b; exact ((((k_58 i a (by omega))).trans (kp_49 i (by omega))).trans (kp_34 i (by omega))).trans (hEs i a b)) (by intro i a b; exact ((k_59 i a (by omega)).trans (fup_n (by omega))).trans (hCs i a b)) (by intro w9 a b; by_cases z9 : w9 = v6; (rw [z9]; rintro ⟨y1, y2⟩; rw [← ef_45] at y2; exact absurd y2 (by assumption)); exact hl w9 a (by omega)) hE_57 fr_64 (by omega)
              ·
                have hc9 : fc p 1 (hrW f p v6) ≠ -1 := by rw [← ef_45]; assumption
                have fy := fc_y (m := 1) (by decide) h0 (w := v6) (by omega) hv9 hl hc9
                refine z_iconst hx dX2_isUnderBehind_144 ?_
                refine z_iret hx hr dX2_isUnderBehind_145 rfl rfl (q_j (b2i_t fy.2.2).symm ⟨C_55, Es_56, hE_57, (fun i a b => ((((k_58 i a (by omega))).trans (kp_49 i (by omega))).trans (kp_34 i (by omega))).trans (hEs i a b)), (fun i a b => ((k_59 i a (by omega)).trans (fup_n (by omega))).trans (hCs i a b)), (fun _ => esc_dig (m := 1) (by decide) (w := v6) (r := fc p 1 f_45) (by omega) (by rw [ef_45]; exact fy.2.1) (by rw [ef_45]; exact fy.1) ((k_59 s (by omega) (by omega)).trans (fup_s _ _ _)) (k_60 (by assumption))), fr_64⟩)
      exact hL_11 (((5 : Int) - 0) + 1 : Int).toNat _ C Es _ (by omega) (by intro i a b; rfl) (by intro i a b; rfl) (by intro w9 a b; omega) hE Fr.rf (by omega)
    ·
      have fnn : fc p 2 f = -1 := by rcases fc_sp p 2 (by decide) f with ⟨z, _⟩ | ⟨z, _⟩; exact z; have := fc_pr 2 f hI hp h0 (by omega); omega
      refine z_iconst hx dX2_isUnderBehind_82 ?_
      refine z_iret hx hr dX2_isUnderBehind_83 rfl rfl (q_j (b2i_f (fun z => z fnn)).symm ⟨C, Es, hE, (fun _ _ _ => rfl), (fun _ _ _ => rfl), (fun z => absurd fnn z), Fr.rf⟩)
  ·
    have fnn : fc p 2 f = -1 := fc_b (m := 1) (by omega)
    refine z_iconst hx dX2_isUnderBehind_68 ?_
    refine z_iret hx hr dX2_isUnderBehind_69 rfl rfl (q_j (b2i_f (fun z => z fnn)).symm ⟨C, Es, hE, (fun _ _ _ => rfl), (fun _ _ _ => rfl), (fun z => absurd fnn z), Fr.rf⟩)

set_option maxHeartbeats 4000000 in
set_option maxRecDepth 20000 in
theorem kX2_ubT3 (g : Gt) {h : AH} {e : Nat} {C : Int → Int} {Es : Int → Nat → Int → Int} {f : Int → Int} {p s t : Int} (hE : EM h e C Es) (hR : RLC (Es s) f) (hI : inv f) (hp : 0 ≤ p ∧ p < f 37) (hs : (0 ≤ s ∧ s + 3 = t) ∧ t ≤ 4) : CnJ g mX2_isUnderBehind 12 [.ref e, .int (iI p), .int (iI s), .int (iI t)] h (b2i (fc p 3 f ≠ -1)) (QS h e C Es p s 3 f) := by
  refine Cn.mk (by decide +kernel) (Nat.le_of_ble_eq_true rfl) ?_
  intro x sz hx hr
  show Zj g x (sz, 0, 0) h 0 [(0, .ref e), (1, .int (iI p)), (2, .int (iI s)), (3, .int (iI t))] []
  have hn := hI.n
  have ip := hI.p p (by omega)
  refine z_aload_n hx dX2_isUnderBehind_0 rfl 0 rfl ?_
  refine z_iload_n hx dX2_isUnderBehind_1 rfl 2 rfl ?_
  obtain ⟨w_1, ew_1⟩ : ∃ a : Nat, a = e + 3 + 10 * (s : Int).toNat := ⟨_, rfl⟩
  have rw_1 : e + 3 ≤ w_1 ∧ w_1 + 10 ≤ e + 53 := by omega
  refine z_cVR (as := [.int (iI s)]) (rest := []) hx dX2_isUnderBehind_2 lk_X2_22 wm_X2_stageAt wv_X2_stageAt (rcv_obj hx hE.1 rfl) mo_X2_stageAt (kX2_stageAt g (i := s) (w := w_1) hE (by omega) ew_1) (by decide) rfl rfl (Nat.le_of_ble_eq_true rfl) ?_
  refine z_astore hx dX2_isUnderBehind_5 (by decide) [1, 2, 3, 4, 0] (lv' := [(0, .ref e), (1, .int (iI p)), (2, .int (iI s)), (3, .int (iI t)), (4, .ref w_1)]) rfl ?_
  refine z_aload_n hx dX2_isUnderBehind_7 rfl 0 rfl ?_
  refine z_iload_n hx dX2_isUnderBehind_8 rfl 2 rfl ?_
  refine z_iconst hx dX2_isUnderBehind_9 ?_
  refine z_iadd hx dX2_isUnderBehind_10 ?_
  obtain ⟨w_2, ew_2⟩ : ∃ a : Nat, a = e + 3 + 10 * ((s + 1) : Int).toNat := ⟨_, rfl⟩
  have rw_2 : e + 3 ≤ w_2 ∧ w_2 + 10 ≤ e + 53 := by omega
  refine z_cVR (as := [.int (iI (s + 1))]) (rest := []) hx dX2_isUnderBehind_11 lk_X2_22 wm_X2_stageAt wv_X2_stageAt (rcv_obj hx hE.1 rfl) mo_X2_stageAt (kX2_stageAt g (i := (s + 1)) (w := w_2) hE (by omega) ew_2) (by decide) rfl rfl (Nat.le_of_ble_eq_true rfl) ?_
  refine z_astore hx dX2_isUnderBehind_14 (by decide) [1, 2, 3, 4, 5, 0] (lv' := [(0, .ref e), (1, .int (iI p)), (2, .int (iI s)), (3, .int (iI t)), (4, .ref w_1), (5, .ref w_2)]) rfl ?_
  refine z_aload hx dX2_isUnderBehind_16 4 rfl ?_
  refine z_ifnull hx dX2_isUnderBehind_18 ?_
  refine z_iload_n hx dX2_isUnderBehind_21 rfl 2 rfl ?_
  refine z_iload_n hx dX2_isUnderBehind_22 rfl 3 rfl ?_
  refine z_icmp_ne (tgt := 42) hx dX2_isUnderBehind_23 (by decide) (by omega) (by omega) (fun c_3 => ?_) (fun c_3 => by exfalso; omega)
  refine z_aload hx dX2_isUnderBehind_42 4 rfl ?_
  refine z_ifnull hx dX2_isUnderBehind_44 ?_
  refine z_aload hx dX2_isUnderBehind_47 5 rfl ?_
  refine z_ifnull hx dX2_isUnderBehind_49 ?_
  refine z_iload_n hx dX2_isUnderBehind_52 rfl 2 rfl ?_
  refine z_iconst hx dX2_isUnderBehind_53 ?_
  refine z_icmp_ge (tgt := 68) hx dX2_isUnderBehind_54 (by decide) (by omega) (by decide) (fun c_4 => by exfalso; omega) (fun c_4 => ?_)
  refine z_aload hx dX2_isUnderBehind_57 4 rfl ?_
  refine z_get hx dX2_isUnderBehind_59 fl_X2_34 (EM.row hE (i := s) (by omega) ew_1 rfl).1 rfl ?_
  refine z_iload_n hx dX2_isUnderBehind_62 rfl 1 rfl ?_
  refine z_iald hx dX2_isUnderBehind_63 (EM.row hE (i := s) (by omega) ew_1 rfl).2.2.2.2.2.2.1 (by omega) (by decide) ?_
  have rp_5 := hR.p p (by first | omega | decide)
  have ip_6 := hI.p p (by first | omega | decide)
  have cc_7 := cv_c (f (17 + p))
  refine z_iconst hx dX2_isUnderBehind_64 ?_
  refine z_icmp_eq (tgt := 70) hx dX2_isUnderBehind_65 (by decide) (by omega) (by decide) (fun c_8 => ?_) (fun c_8 => ?_)
  ·
    have h0 : f (17 + p) = 0 := by omega
    refine z_aload hx dX2_isUnderBehind_70 4 rfl ?_
    refine z_iload_n hx dX2_isUnderBehind_72 rfl 1 rfl ?_
    refine z_cVI (as := [.int (iI p)]) (rest := []) hx dX2_isUnderBehind_73 lk_X2_37 wm_X1_fewestHoursTo wv_X1_fewestHoursTo (rcv_obj hx (And.left (EM.row hE (i := s) (by omega) ew_1 rfl)) rfl) mo_X1_fewestHoursTo (kX1_fewestHoursTo g (F := (Es s)) (f := f) (p := p) (EM.row hE (i := s) (by omega) ew_1 rfl) hR hI (show 0 ≤ p ∧ p < f 37 by omega)) (by decide) rfl rfl (Nat.le_of_ble_eq_true rfl) ?_
    have f_9 : 1 ≤ fht f p ∧ fht f p ≤ 10 := by have q1 := fht_rg hI (p := p) (n := f 26) (by have := (hI).n; omega) (by have := (hI).n; omega); unfold fht; omega
    refine z_iload_n hx dX2_isUnderBehind_76 rfl 3 rfl ?_
    refine z_iload_n hx dX2_isUnderBehind_77 rfl 2 rfl ?_
    refine z_isub hx dX2_isUnderBehind_78 ?_
    refine z_icmp_le (tgt := 84) hx dX2_isUnderBehind_79 (by decide) (by omega) (by omega) (fun c_10 => ?_) (fun c_10 => ?_)
    ·
      refine z_iconst hx dX2_isUnderBehind_84 ?_
      refine z_istore hx dX2_isUnderBehind_85 (by decide) [1, 2, 3, 4, 5, 6, 0] (lv' := [(0, .ref e), (1, .int (iI p)), (2, .int (iI s)), (3, .int (iI t)), (4, .ref w_1), (5, .ref w_2), (6, .int (iI 0))]) rfl ?_
      have hL_11 : ∀ (mm : Nat) (v6 : Int) (gC : Int → Int) (gE : Int → Nat → Int → Int) (h_12 : AH), (0 ≤ v6 ∧ v6 ≤ 5) → (∀ i, 0 ≤ i → i ≤ s → gE i = Es i) → (∀ i, 0 ≤ i → i < s → gC i = C i) → (∀ w9, 0 ≤ w9 → w9 < v6 → ¬ (vld f p w9 ∧ fc p 2 (hrW f p w9) ≠ -1)) → (EM h_12 e gC gE) → (Fr h h_12 e 53) → (5 : Int) - v6 < (mm : Int) → Zj g x (sz, 0, 0) h_12 87 [(0, .ref e), (1, .int (iI p)), (2, .int (iI s)), (3, .int (iI t)), (4, .ref w_1), (5, .ref w_2), (6, .int (iI v6))] [] := by
        intro mm
        induction mm with
        | zero => intro v6 gC gE h_12 kv hEs hCs hl hk_13 fr_14 hm; exfalso; omega
        | succ mm ih =>
          intro v6 gC gE h_12 kv hEs hCs hl hk_13 fr_14 hm
          have ih_15 := ih; clear ih
          refine z_iload hx dX2_isUnderBehind_87 6 rfl ?_
          refine z_iconst hx dX2_isUnderBehind_89 ?_
          refine z_icmp_ge (tgt := 152) hx dX2_isUnderBehind_90 (by decide) (by omega) (by decide) (fun c_16 => ?_) (fun c_16 => ?_)
          ·
            have fnn : fc p 3 f = -1 := fc_n (m := 2) (fun w9 a b => hl w9 a (by omega))
            refine z_iconst hx dX2_isUnderBehind_152 ?_
            refine z_iret hx hr dX2_isUnderBehind_153 rfl rfl (q_j (b2i_f (fun z => z fnn)).symm ⟨gC, gE, hk_13, hEs, hCs, (fun z => absurd fnn z), fr_14⟩)
          ·
            refine z_aload hx dX2_isUnderBehind_93 4 rfl ?_
            refine z_get hx dX2_isUnderBehind_95 fl_X2_41 (EM.row hk_13 (i := s) (by omega) ew_1 (hEs s (by omega) (by omega))).1 rfl ?_
            refine z_iload_n hx dX2_isUnderBehind_98 rfl 1 rfl ?_
            refine z_iald hx dX2_isUnderBehind_99 (EM.row hk_13 (i := s) (by omega) ew_1 (hEs s (by omega) (by omega))).2.2.2.2.2.1 (by omega) (by decide) ?_
            have rp_17 := hR.p p (by first | omega | decide)
            have ip_18 := hI.p p (by first | omega | decide)
            have cc_19 := cv_c (f (17 + p))
            refine z_iload hx dX2_isUnderBehind_100 6 rfl ?_
            refine z_cSI (as := [.int (iI ((Es s) 5 p)), .int (iI v6)]) (rest := []) hx dX2_isUnderBehind_102 lk_X2_44 wt_X0_beside mo_X0_beside (kX0_beside g (a := ((Es s) 5 p)) (b := v6) (by omega) (by omega)) (by decide) rfl rfl (Nat.le_of_ble_eq_true rfl) ?_
            have eb : bsd (Es s 5 p) v6 = bsd (f (11 + p)) v6 := by rw [show Es s 5 p = f (11 + p) by omega]
            have hbr : -1 ≤ bsd (Es s 5 p) v6 ∧ bsd (Es s 5 p) v6 < 24 := by by_cases z : bsd (Es s 5 p) v6 = -1; omega; have := bsd_rg (c := Es s 5 p) (by omega) z; omega
            refine z_iconst hx dX2_isUnderBehind_105 ?_
            refine z_icmp_eq (tgt := 146) hx dX2_isUnderBehind_106 (by decide) (by omega) (by decide) (fun c_20 => ?_) (fun c_20 => ?_)
            ·
              refine z_iinc hx dX2_isUnderBehind_146 (by decide) 6 rfl [1, 2, 3, 4, 5, 6, 0] (lv' := [(0, .ref e), (1, .int (iI p)), (2, .int (iI s)), (3, .int (iI t)), (4, .ref w_1), (5, .ref w_2), (6, .int (iI (v6 + 1)))]) rfl ?_
              refine z_goto (tgt := 87) hx dX2_isUnderBehind_149 (by decide) ?_
              exact ih_15 _ gC gE _ (by omega) (by exact hEs) (by exact hCs) (by intro w9 a b; by_cases z9 : w9 = v6; (rw [z9]; rintro ⟨y1, y2⟩; unfold vld at y1; omega); exact hl w9 a (by omega)) hk_13 fr_14 (by omega)
            ·
              have hv9 : vld f p v6 := by unfold vld; omega
              refine z_aload_n hx dX2_isUnderBehind_109 rfl 0 rfl ?_
              refine z_get hx dX2_isUnderBehind_110 fl_X2_17 hk_13.1 rfl ?_
              refine z_iload_n hx dX2_isUnderBehind_113 rfl 2 rfl ?_
              refine z_iload hx dX2_isUnderBehind_114 6 rfl ?_
              refine z_iastQ hx dX2_isUnderBehind_116 hk_13.2.2.1 (by omega) (by decide) (fun h_21 hs_22 hf_23 => ?_)
              have hE_24 := EM.ch hk_13 hs_22 hf_23
              have fr_25 := fr_14.tr (hf_23.wd (by omega) (by omega))
              refine z_aload hx dX2_isUnderBehind_117 5 rfl ?_
              refine z_aload hx dX2_isUnderBehind_119 4 rfl ?_
              refine z_cVV (as := [.ref w_1]) (rest := []) hx dX2_isUnderBehind_121 lk_X2_26 wm_X1_becomes wv_X1_becomes (rcv_obj hx (And.left (EM.row hE_24 (i := (s + 1)) (by omega) ew_2 rfl)) rfl) mo_X1_becomes (kX1_becomes g (F := (gE (s + 1))) (G := (Es s)) (f := f) (EM.row hE_24 (i := (s + 1)) (by omega) ew_2 rfl) (EM.row hE_24 (i := s) (by omega) ew_1 (hEs s (by omega) (by omega))) hR hI (by omega)) (by decide) rfl rfl (Nat.le_of_ble_eq_true rfl) (fun h_26 q_27 => ?_)
              obtain ⟨F_30, hC_28, hR_31, hf_29⟩ := q_27
              have hE_32 := EM.up hE_24 (i := (s + 1)) (by omega) ew_2 hC_28 hf_29
              obtain ⟨Es_33, eEs_33⟩ : ∃ G : Int → Nat → Int → Int, G = (fun j => if j = (s + 1) then F_30 else gE j) := ⟨_, rfl⟩
              rw [← eEs_33] at hE_32
              have kp_34 : ∀ j, j ≠ (s + 1) → Es_33 j = gE j := fun j z => by rw [eEs_33]; exact if_neg z
              have eF_35 : Es_33 (s) = (Es s) := (kp_34 _ (by omega)).trans (hEs s (by omega) (by omega))
              have eF_36 : Es_33 ((s + 1)) = F_30 := by rw [eEs_33]; exact if_pos rfl
              have fr_37 := fr_25.tr (hf_29.wd (by omega) (by omega))
              refine z_aload hx dX2_isUnderBehind_124 5 rfl ?_
              refine z_iload_n hx dX2_isUnderBehind_126 rfl 1 rfl ?_
              refine z_iload hx dX2_isUnderBehind_127 6 rfl ?_
              have hwfl : p = -1 ∨ ((0 ≤ p ∧ p < f 37) ∧ f (17 + p) = 0 ∧ (0 ≤ v6 ∧ v6 ≤ 4) ∧ vld f p v6) := Or.inr ⟨hp, h0, ⟨by omega, by omega⟩, hv9⟩
              refine z_cVV (as := [.int (iI p), .int (iI v6)]) (rest := []) hx dX2_isUnderBehind_129 lk_X2_50 wm_X1_passHourWith wv_X1_passHourWith (rcv_obj hx (And.left (EM.row hE_32 (i := (s + 1)) (by omega) ew_2 eF_36)) rfl) mo_X1_passHourWith (kX1_passHourWith g (F := F_30) (f := f) (r := p) (w := v6) (EM.row hE_32 (i := (s + 1)) (by omega) ew_2 eF_36) hR_31 hI  (show p = -1 ∨ ((0 ≤ p ∧ p < f 37) ∧ f (17 + p) = 0 ∧ (0 ≤ v6 ∧ v6 ≤ 4) ∧ vld f p v6) by exact Or.inr ⟨hp, h0, ⟨by omega, by omega⟩, hv9⟩) (show rgI p by omega)) (by decide) rfl rfl (Nat.le_of_ble_eq_true rfl) (fun h_38 q_39 => ?_)
              obtain ⟨F_42, hC_40, hR_43, hf_41⟩ := q_39
              obtain ⟨f_45, ef_45⟩ : ∃ G : Int → Int, G = hrW f p v6 := ⟨_, rfl⟩
              rw [← ef_45] at hR_43
              have iv_46 := inv_hrW hI hwfl
              rw [← ef_45] at iv_46
              have hE_47 := EM.up hE_32 (i := (s + 1)) (by omega) ew_2 hC_40 hf_41
              obtain ⟨Es_48, eEs_48⟩ : ∃ G : Int → Nat → Int → Int, G = (fun j => if j = (s + 1) then F_42 else Es_33 j) := ⟨_, rfl⟩
              rw [← eEs_48] at hE_47
              have kp_49 : ∀ j, j ≠ (s + 1) → Es_48 j = Es_33 j := fun j z => by rw [eEs_48]; exact if_neg z
              have eF_50 : Es_48 (s) = (Es s) := (kp_49 _ (by omega)).trans eF_35
              have eF_51 : Es_48 ((s + 1)) = F_42 := by rw [eEs_48]; exact if_pos rfl
              have fr_52 := fr_37.tr (hf_41.wd (by omega) (by omega))
              have g37 := iv_46.2 37 (by decide)
              refine z_aload_n hx dX2_isUnderBehind_132 rfl 0 rfl ?_
              refine z_iload_n hx dX2_isUnderBehind_133 rfl 1 rfl ?_
              refine z_iload_n hx dX2_isUnderBehind_134 rfl 2 rfl ?_
              refine z_iconst hx dX2_isUnderBehind_135 ?_
              refine z_iadd hx dX2_isUnderBehind_136 ?_
              refine z_iload_n hx dX2_isUnderBehind_137 rfl 3 rfl ?_
              refine z_cSJ (as := [.ref e, .int (iI p), .int (iI (s + 1)), .int (iI t)]) (rest := []) hx dX2_isUnderBehind_138 lk_X2_30 wt_X2_isUnderBehind mo_X2_isUnderBehind (kX2_ub2 g (s := s + 1) (f := f_45) hE_47 (by rw [eF_51]; exact hR_43) iv_46.1 (by omega) (by omega)) (by decide) rfl rfl (Nat.le_of_ble_eq_true rfl) (fun h_53 q_54 => ?_)
              obtain ⟨C_55, Es_56, hE_57, k_58, k_59, k_60, hf_61⟩ := q_54
              have eF_62 : Es_56 (s) = (Es s) := (k_58 _ (by omega) (by omega)).trans eF_50
              have eF_63 : Es_56 ((s + 1)) = F_42 := (k_58 _ (by omega) (by omega)).trans eF_51
              have fr_64 := fr_52.tr (hf_61.wd (by omega) (by omega))
              refine z_ifeq_b (tgt := 146) hx dX2_isUnderBehind_141 (by decide)  (fun c_65 => ?_) (fun c_65 => ?_)
              ·
                refine z_iinc hx dX2_isUnderBehind_146 (by decide) 6 rfl [1, 2, 3, 4, 5, 6, 0] (lv' := [(0, .ref e), (1, .int (iI p)), (2, .int (iI s)), (3, .int (iI t)), (4, .ref w_1), (5, .ref w_2), (6, .int (iI (v6 + 1)))]) rfl ?_
                refine z_goto (tgt := 87) hx dX2_isUnderBehind_149 (by decide) ?_
                exact ih_15 _ C_55 Es_56 _ (by omega) (by intro i a b; exact ((((k_58 i a (by omega))).trans (kp_49 i (by omega))).trans (kp_34 i (by omega))).trans (hEs i a b)) (by intro i a b; exact ((k_59 i a (by omega)).trans (fup_n (by omega))).trans (hCs i a b)) (by intro w9 a b; by_cases z9 : w9 = v6; (rw [z9]; rintro ⟨y1, y2⟩; rw [← ef_45] at y2; exact absurd y2 (by assumption)); exact hl w9 a (by omega)) hE_57 fr_64 (by omega)
              ·
                have hc9 : fc p 2 (hrW f p v6) ≠ -1 := by rw [← ef_45]; assumption
                have fy := fc_y (m := 2) (by decide) h0 (w := v6) (by omega) hv9 hl hc9
                refine z_iconst hx dX2_isUnderBehind_144 ?_
                refine z_iret hx hr dX2_isUnderBehind_145 rfl rfl (q_j (b2i_t fy.2.2).symm ⟨C_55, Es_56, hE_57, (fun i a b => ((((k_58 i a (by omega))).trans (kp_49 i (by omega))).trans (kp_34 i (by omega))).trans (hEs i a b)), (fun i a b => ((k_59 i a (by omega)).trans (fup_n (by omega))).trans (hCs i a b)), (fun _ => esc_dig (m := 2) (by decide) (w := v6) (r := fc p 2 f_45) (by omega) (by rw [ef_45]; exact fy.2.1) (by rw [ef_45]; exact fy.1) ((k_59 s (by omega) (by omega)).trans (fup_s _ _ _)) (k_60 (by assumption))), fr_64⟩)
      exact hL_11 (((5 : Int) - 0) + 1 : Int).toNat _ C Es _ (by omega) (by intro i a b; rfl) (by intro i a b; rfl) (by intro w9 a b; omega) hE Fr.rf (by omega)
    ·
      have fnn : fc p 3 f = -1 := by rcases fc_sp p 3 (by decide) f with ⟨z, _⟩ | ⟨z, _⟩; exact z; have := fc_pr 3 f hI hp h0 (by omega); omega
      refine z_iconst hx dX2_isUnderBehind_82 ?_
      refine z_iret hx hr dX2_isUnderBehind_83 rfl rfl (q_j (b2i_f (fun z => z fnn)).symm ⟨C, Es, hE, (fun _ _ _ => rfl), (fun _ _ _ => rfl), (fun z => absurd fnn z), Fr.rf⟩)
  ·
    have fnn : fc p 3 f = -1 := fc_b (m := 2) (by omega)
    refine z_iconst hx dX2_isUnderBehind_68 ?_
    refine z_iret hx hr dX2_isUnderBehind_69 rfl rfl (q_j (b2i_f (fun z => z fnn)).symm ⟨C, Es, hE, (fun _ _ _ => rfl), (fun _ _ _ => rfl), (fun z => absurd fnn z), Fr.rf⟩)

theorem kX2_isUnderBehind (g : Gt) {h : AH} {e : Nat} {C : Int → Int} {Es : Int → Nat → Int → Int} {f : Int → Int} {p t : Int} (hE : EM h e C Es) (hR : RLC (Es 0) f) (hI : inv f) (hp : 0 ≤ p ∧ p < f 37) (ht : 1 ≤ t ∧ t ≤ 4) : CnJ g mX2_isUnderBehind 12 [.ref e, .int (iI p), .int (iI 0), .int (iI t)] h (b2i (fc p t.toNat f ≠ -1)) (QS h e C Es p 0 t.toNat f) := by
  have c : t = 1 ∨ t = 2 ∨ t = 3 ∨ t = 4 := by omega
  rcases c with rfl | rfl | rfl | rfl
  · exact kX2_ubT1 g hE hR hI hp (by decide)
  · exact kX2_ubT2 g hE hR hI hp (by decide)
  · exact kX2_ubT3 g hE hR hI hp (by decide)
  · exact kX2_ub4 g hE hR hI hp (by decide)

set_option maxHeartbeats 4000000 in
set_option maxRecDepth 20000 in
theorem kX2_findFewestHours (g : Gt) {h : AH} {e : Nat} {C : Int → Int} {Es : Int → Nat → Int → Int} {c : Nat} {F : Nat → Int → Int} {f : Int → Int} {p : Int} (hE : EM h e C Es) (hC : CM h c F) (hR : RLC F f) (hI : inv f) (hp : 0 ≤ p ∧ p < f 37) (hce : c + 10 ≤ e ∨ e + 53 ≤ c) : CnJ g mX2_findFewestHours 13 [.ref e, .ref c, .int (iI p)] h (nH p f) (fun h' => ∃ (C' : Int → Int) (Es' : Int → Nat → Int → Int), EM h' e C' Es' ∧ (nH p f ≠ -1 → ∀ j, 0 ≤ j → j < nH p f → C' j = fc p (nH p f).toNat f / p5 (nH p f - 1 - j) % 5) ∧ Fr h h' e 53) := by
  refine Cn.mk (by decide +kernel) (Nat.le_of_ble_eq_true rfl) ?_
  intro x sz hx hr
  show Zj g x (sz, 0, 0) h 0 [(0, .ref e), (1, .ref c), (2, .int (iI p))] []
  refine z_aload_n hx dX2_findFewestHours_0 rfl 0 rfl ?_
  refine z_iconst hx dX2_findFewestHours_1 ?_
  obtain ⟨w_1, ew_1⟩ : ∃ a : Nat, a = e + 3 + 10 * (0 : Int).toNat := ⟨_, rfl⟩
  have rw_1 : e + 3 ≤ w_1 ∧ w_1 + 10 ≤ e + 53 := by omega
  refine z_cVR (as := [.int (iI 0)]) (rest := []) hx dX2_findFewestHours_2 lk_X2_22 wm_X2_stageAt wv_X2_stageAt (rcv_obj hx hE.1 rfl) mo_X2_stageAt (kX2_stageAt g (i := 0) (w := w_1) hE (by omega) ew_1) (by decide) rfl rfl (Nat.le_of_ble_eq_true rfl) ?_
  refine z_astore_n hx dX2_findFewestHours_5 rfl (by decide) [1, 2, 3, 0] (lv' := [(0, .ref e), (1, .ref c), (2, .int (iI p)), (3, .ref w_1)]) rfl ?_
  refine z_aload_n hx dX2_findFewestHours_6 rfl 3 rfl ?_
  refine z_ifnonnull (tgt := 12) hx dX2_findFewestHours_7 (by decide) ?_
  refine z_aload_n hx dX2_findFewestHours_12 rfl 3 rfl ?_
  refine z_aload_n hx dX2_findFewestHours_13 rfl 1 rfl ?_
  refine z_cVV (as := [.ref c]) (rest := []) hx dX2_findFewestHours_14 lk_X2_26 wm_X1_becomes wv_X1_becomes (rcv_obj hx (And.left (EM.row hE (i := 0) (by omega) ew_1 rfl)) rfl) mo_X1_becomes (kX1_becomes g (F := (Es 0)) (G := F) (f := f) (EM.row hE (i := 0) (by omega) ew_1 rfl) hC hR hI (by omega)) (by decide) rfl rfl (Nat.le_of_ble_eq_true rfl) (fun h_2 q_3 => ?_)
  obtain ⟨F_6, hC_4, hR_7, hf_5⟩ := q_3
  have hE_8 := EM.up hE (i := 0) (by omega) ew_1 hC_4 hf_5
  obtain ⟨Es_9, eEs_9⟩ : ∃ G : Int → Nat → Int → Int, G = (fun j => if j = 0 then F_6 else Es j) := ⟨_, rfl⟩
  rw [← eEs_9] at hE_8
  have kp_10 : ∀ j, j ≠ 0 → Es_9 j = Es j := fun j z => by rw [eEs_9]; exact if_neg z
  have eF_11 : Es_9 (0) = F_6 := by rw [eEs_9]; exact if_pos rfl
  have h_12 := CM.fr hC hf_5 (by omega)
  have fr_13 : Fr h h_2 e 53 := hf_5.wd (by omega) (by omega)
  refine z_iconst hx dX2_findFewestHours_17 ?_
  refine z_istore hx dX2_findFewestHours_18 (by decide) [1, 2, 3, 4, 0] (lv' := [(0, .ref e), (1, .ref c), (2, .int (iI p)), (3, .ref w_1), (4, .int (iI 1))]) rfl ?_
  have hL_14 : ∀ (mm : Nat) (v4 : Int) (gC : Int → Int) (gE : Int → Nat → Int → Int) (h_15 : AH), (1 ≤ v4 ∧ v4 ≤ 5) → (RLC (gE 0) f) → (fnd (fun n => decide (fc p n.toNat f ≠ -1)) (5 - v4).toNat v4 = nH p f) → (EM h_15 e gC gE) → (CM h_15 c F) → (Fr h h_15 e 53) → (5 : Int) - v4 < (mm : Int) → Zj g x (sz, 0, 0) h_15 20 [(0, .ref e), (1, .ref c), (2, .int (iI p)), (3, .ref w_1), (4, .int (iI v4))] [] := by
    intro mm
    induction mm with
    | zero => intro v4 gC gE h_15 kv hrl eg hk_16 hk_17 fr_18 hm; exfalso; omega
    | succ mm ih =>
      intro v4 gC gE h_15 kv hrl eg hk_16 hk_17 fr_18 hm
      have ih_19 := ih; clear ih
      refine z_iload hx dX2_findFewestHours_20 4 rfl ?_
      refine z_iconst hx dX2_findFewestHours_22 ?_
      refine z_icmp_gt (tgt := 46) hx dX2_findFewestHours_23 (by decide) (by omega) (by decide) (fun c_20 => ?_) (fun c_20 => ?_)
      ·
        have eN : nH p f = -1 := by rw [← eg, show (5 - v4).toNat = 0 by omega]; rfl
        refine z_iconst hx dX2_findFewestHours_46 ?_
        refine z_iret hx hr dX2_findFewestHours_47 rfl rfl (q_j (Q := (fun h' => ∃ (C' : Int → Int) (Es' : Int → Nat → Int → Int), EM h' e C' Es' ∧ (nH p f ≠ -1 → ∀ j, 0 ≤ j → j < nH p f → C' j = fc p (nH p f).toNat f / p5 (nH p f - 1 - j) % 5) ∧ Fr h h' e 53)) eN.symm ⟨gC, gE, hk_16, (fun z => absurd eN z), fr_18⟩)
      ·
        refine z_aload_n hx dX2_findFewestHours_26 rfl 0 rfl ?_
        refine z_iload_n hx dX2_findFewestHours_27 rfl 2 rfl ?_
        refine z_iconst hx dX2_findFewestHours_28 ?_
        refine z_iload hx dX2_findFewestHours_29 4 rfl ?_
        refine z_cSJ (as := [.ref e, .int (iI p), .int (iI 0), .int (iI v4)]) (rest := []) hx dX2_findFewestHours_31 lk_X2_30 wt_X2_isUnderBehind mo_X2_isUnderBehind (kX2_isUnderBehind g (f := f) hk_16 hrl hI hp (by omega)) (by decide) rfl rfl (Nat.le_of_ble_eq_true rfl) (fun h_21 q_22 => ?_)
        obtain ⟨C_23, Es_24, hE_25, k_26, k_27, k_28, hf_29⟩ := q_22
        have h_30 := CM.fr hk_17 hf_29 (by omega)
        have fr_31 := fr_18.tr (hf_29.wd (by omega) (by omega))
        refine z_ifeq_b (tgt := 40) hx dX2_findFewestHours_34 (by decide)  (fun c_32 => ?_) (fun c_32 => ?_)
        ·
          refine z_iinc hx dX2_findFewestHours_40 (by decide) 4 rfl [1, 2, 3, 4, 0] (lv' := [(0, .ref e), (1, .ref c), (2, .int (iI p)), (3, .ref w_1), (4, .int (iI (v4 + 1)))]) rfl ?_
          refine z_goto (tgt := 20) hx dX2_findFewestHours_43 (by decide) ?_
          exact ih_19 _ C_23 Es_24 _ (by omega) (by rw [k_26 0 (by decide) (by decide)]; exact hrl) (by rw [← fnd_n (P := (fun n => decide (fc p n.toNat f ≠ -1))) (by omega) (by intro z; exact absurd (of_decide_eq_true z) (by assumption))]; exact eg) hE_25 h_30 fr_31 (by omega)
        ·
          have eN : nH p f = v4 := by rw [← eg]; exact fnd_y (by omega) (decide_eq_true (by assumption))
          refine z_iload hx dX2_findFewestHours_37 4 rfl ?_
          refine z_iret hx hr dX2_findFewestHours_39 rfl rfl (q_j (Q := (fun h' => ∃ (C' : Int → Int) (Es' : Int → Nat → Int → Int), EM h' e C' Es' ∧ (nH p f ≠ -1 → ∀ j, 0 ≤ j → j < nH p f → C' j = fc p (nH p f).toNat f / p5 (nH p f - 1 - j) % 5) ∧ Fr h h' e 53)) eN.symm ⟨C_23, Es_24, hE_25, (fun _ j a b => by rw [eN] at b ⊢; have q := k_28 (by assumption) j a (by omega); rw [show (v4.toNat : Int) = v4 by omega, Int.zero_add] at q; exact q), fr_31⟩)
  exact hL_14 (((5 : Int) - 1) + 1 : Int).toNat _ C Es_9 _ (by omega) (by rw [eF_11]; exact hR_7) (by rfl) hE_8 h_12 fr_13 (by omega)

theorem nH_rg (p : Int) (f : Int → Int) : nH p f = -1 ∨ (1 ≤ nH p f ∧ nH p f ≤ 4) := by
  rcases fnd_sp (P := fun n => decide (fc p n.toNat f ≠ -1)) 4 1 with ⟨h, _⟩ | ⟨h, _⟩
  · exact Or.inl h
  · exact Or.inr ⟨h.1, by have := h.2; unfold nH; omega⟩

set_option maxHeartbeats 4000000 in
set_option maxRecDepth 20000 in
theorem kX8_run (g : Gt) {h : AH} {b : Nat} {S : Nat → Int → Int} {p : Int} {i : Int} (hX : XR h b S) (hV : invM S) (g_p : rgI p) (g_i : rgI i) : CnJ g mX8_run 14 [.ref b, .int (iI p), .int (iI i)] h (runA S p i).1 (QX h b (runA S p i).2) := by
  refine Cn.mk (by decide +kernel) (Nat.le_of_ble_eq_true rfl) ?_
  intro x sz hx hr
  show Zj g x (sz, 0, 0) h 0 [(0, .ref b), (1, .int (iI p)), (2, .int (iI i))] []
  have hX0 := hX
  obtain ⟨F, pi, Fs, kq, N, T, x0, hK, hi0, hi1, htx, htr, hrb, heb, hhb, ⟨hR, hPR, hNn⟩, htt⟩ := hX
  obtain ⟨k0, k1, k2, k3, k4, k5⟩ := hK
  have hN := hV.1
  have hI := hN.1
  have hn := hI.n
  have rn := hR.n
  have h58 : 0 ≤ S 1 58 ∧ S 1 58 ≤ 8 := ⟨(hI.rg 58 (by decide)).1, hN.2.2.2.1⟩
  have h39 : 0 ≤ S 1 39 ∧ S 1 39 ≤ 6 := ⟨(hI.rg 39 (by decide)).1, hN.2.2.1⟩
  have h0 : 0 ≤ S 1 0 ∧ S 1 0 ≤ 999 := ⟨hN.2.1.2, hN.2.1.1⟩
  have hmx : ∀ i, 0 ≤ i → i < S 1 58 → inv (mixF (S 1) i) := fun i a b => (hN.2.2.2.2.1 i a b).1
  have hno : ∀ i, 0 ≤ i → i < S 1 39 → S 1 (40 + 3 * i) < 5 ∧ S 1 (40 + 3 * i + 1) ≤ 40 ∧ S 1 (40 + 3 * i + 2) ≤ 9 := fun i a b => by have q := hN.2.2.2.2.2 i a b; rw [show 41 + 3 * i = 40 + 3 * i + 1 by omega, show 42 + 3 * i = 40 + 3 * i + 2 by omega] at q; exact q
  have hTo : outR (S 2) := hV.2.1
  have hL := hV.2.2.2.1
  have htt2 := hV.2.2.2.2.1
  obtain ⟨eC, eE, hem⟩ := heb
  have hIT : inv (cpn (S 1) (S 2)) := inv_T hV
  have cT : ∀ j, 0 ≤ j → j < 39 → cpn (S 1) (S 2) j = S 1 j := fun j x y => cpn_in ⟨x, by omega⟩
  have hRT : RLC F (cpn (S 1) (S 2)) := RLC_ext hR hn cT
  have cT37 := cT 37 (by decide) (by decide)
  refine z_aload_n hx dX8_run_0 rfl 0 rfl ?_
  refine z_iload_n hx dX8_run_1 rfl 1 rfl ?_
  refine z_cVI (as := [.int (iI p)]) (rest := []) hx dX8_run_2 lk_X8_194 wm_X8_isOneHunted wv_X8_isOneHunted (rcv_obj hx x0 rfl) mo_X8_isOneHunted (kX8_isOneHunted g (k := p) (F := F) (N := N) (f := (S 1)) x0 ⟨k0, k1, k2, k3, k4, k5⟩ hR hI (show rgI p by omega)) (by decide) rfl rfl (Nat.le_of_ble_eq_true rfl) ?_
  refine z_ifeq_b (tgt := 13) hx dX8_run_5 (by decide)  (fun c_1 => ?_) (fun c_1 => ?_)
  ·
    refine z_aload_n hx dX8_run_13 rfl 0 rfl ?_
    refine z_bipush hx dX8_run_14 (by decide) ?_
    refine z_cVJ (as := [.int (iI (-10))]) (rest := []) hx dX8_run_16 lk_X8_88 wm_X8_bad wv_X8_bad (rcv_obj hx x0 rfl) mo_X8_bad (kX8_bad g (v := (-10)) x0) (by decide) rfl rfl (Nat.le_of_ble_eq_true rfl) (fun h_2 q_3 => ?_)
    obtain ⟨hs_4, hf_5⟩ := q_3
    have h_6 := hf_5.at (by omega) k0
    have h_7 := CM.fr k1 hf_5 (by omega)
    have h_8 := PM.fr k2 hf_5 (by omega)
    have h_9 := hf_5.at (by omega) k3
    have h_10 := hf_5.at (by omega) k4
    have h_11 := hf_5.at (by omega) k5
    have h_12 := IB.fr hi0 hf_5 (by omega)
    have h_13 := IB.fr hi1 hf_5 (by omega)
    have h_14 := TB.fr htx hf_5 (by omega)
    have h_15 := CB.fr htr hf_5 (by omega)
    have h_16 := RB.fr hrb hf_5 (by omega)
    have h_17 := HB.fr hhb hf_5 (by omega)
    have hE_18 := EM.fr hem hf_5 (by omega)
    have fr_19 : Fr h h_2 b 367 := hf_5.wd (by omega) (by omega)
    refine z_iret hx hr dX8_run_19 rfl rfl (q_j (by unfold runA; (repeat (first | rw [if_pos (by omega)] | rw [if_neg (by omega)])); (try first | exact e9 | exact e9.symm | rfl)) (by unfold runA; (repeat (first | rw [if_pos (by omega)] | rw [if_neg (by omega)])); show XC h_2 b (S 0) (S 1) (S 4) (S 5) (fup (S 6) 0 ((S 6) 0 + 1)) (S 7) ∧ Fr h h_2 b 367; exact ⟨⟨F, pi, Fs, kq, N, T, hs_4, KM.eq ⟨h_6, h_7, h_8, h_9, h_10, h_11⟩ (rfl) (rfl), h_12, h_13, h_14, h_15, h_16, ⟨_, _, hE_18⟩, h_17, ⟨hR, hPR, hNn⟩, htt⟩, fr_19⟩))
  ·
    refine z_iload_n hx dX8_run_8 rfl 2 rfl ?_
    refine z_iconst hx dX8_run_9 ?_
    refine z_icmp_ge (tgt := 20) hx dX8_run_10 (by decide) (by omega) (by decide) (fun c_20 => ?_) (fun c_20 => ?_)
    ·
      refine z_aload_n hx dX8_run_20 rfl 0 rfl ?_
      refine z_get hx dX8_run_21 fl_X8_10 x0 rfl ?_
      refine z_get hx dX8_run_24 fl_X8_71 k0 rfl ?_
      refine z_get hx dX8_run_27 fl_X8_209 k1.1 rfl ?_
      refine z_iload_n hx dX8_run_30 rfl 1 rfl ?_
      refine z_iald hx dX8_run_31 k1.2.2.2.2.2.2.1 (by omega) (by decide) ?_
      have rp_21 := hR.p p (by first | omega | decide)
      have ip_22 := hI.p p (by first | omega | decide)
      have cc_23 := cv_c ((S 1) (17 + p))
      refine z_iconst hx dX8_run_32 ?_
      have cv0 := cv_c (S 1 (17 + p))
      refine z_icmp_eq (tgt := 41) hx dX8_run_33 (by decide) (by omega) (by decide) (fun c_24 => ?_) (fun c_24 => ?_)
      ·
        refine z_aload_n hx dX8_run_41 rfl 0 rfl ?_
        refine z_get hx dX8_run_42 fl_X8_46 x0 rfl ?_
        refine z_aload_n hx dX8_run_45 rfl 0 rfl ?_
        refine z_get hx dX8_run_46 fl_X8_10 x0 rfl ?_
        refine z_get hx dX8_run_49 fl_X8_71 k0 rfl ?_
        refine z_iload_n hx dX8_run_52 rfl 1 rfl ?_
        refine z_cVJ (as := [.ref ((b + 1) + 1), .int (iI p)]) (rest := []) hx dX8_run_53 lk_X8_212 wm_X2_findFewestHours wv_X2_findFewestHours (rcv_obj hx hem.1 rfl) mo_X2_findFewestHours (kX2_findFewestHours g (f := (cpn (S 1) (S 2))) (p := p) hem k1 hRT hIT (by omega) (by omega)) (by decide) rfl rfl (Nat.le_of_ble_eq_true rfl) (fun h_25 q_26 => ?_)
        obtain ⟨C_27, Es_28, hE_29, k_30, hf_31⟩ := q_26
        have h_32 := hf_31.at (by omega) x0
        have h_33 := hf_31.at (by omega) k0
        have h_34 := CM.fr k1 hf_31 (by omega)
        have h_35 := PM.fr k2 hf_31 (by omega)
        have h_36 := hf_31.at (by omega) k3
        have h_37 := hf_31.at (by omega) k4
        have h_38 := hf_31.at (by omega) k5
        have h_39 := IB.fr hi0 hf_31 (by omega)
        have h_40 := IB.fr hi1 hf_31 (by omega)
        have h_41 := TB.fr htx hf_31 (by omega)
        have h_42 := CB.fr htr hf_31 (by omega)
        have h_43 := RB.fr hrb hf_31 (by omega)
        have h_44 := HB.fr hhb hf_31 (by omega)
        have fr_45 : Fr h h_25 b 367 := hf_31.wd (by omega) (by omega)
        have hnr := nH_rg p (cpn (S 1) (S 2))
        have rf := run_fc hV (p := p) (by omega)
        refine z_istore_n hx dX8_run_56 rfl (by decide) [1, 2, 3, 0] (lv' := [(0, .ref b), (1, .int (iI p)), (2, .int (iI i)), (3, .int (iI (nH p (cpn (S 1) (S 2)))))]) rfl ?_
        refine z_iload_n hx dX8_run_57 rfl 3 rfl ?_
        refine z_iconst hx dX8_run_58 ?_
        refine z_icmp_eq (tgt := 67) hx dX8_run_59 (by decide) (by omega) (by decide) (fun c_46 => ?_) (fun c_46 => ?_)
        ·
          have e9 : runV S p i = nH p (cpn (S 1) (S 2)) := by unfold runV; rw [rf.1]; first | (rw [if_pos (by omega)]; omega) | (rw [if_neg (by omega), if_pos (by omega)])
          refine z_iload_n hx dX8_run_67 rfl 3 rfl ?_
          refine z_iret hx hr dX8_run_68 rfl rfl (q_j (by unfold runA; (repeat (first | rw [if_pos (by omega)] | rw [if_neg (by omega)])); (try first | exact e9 | exact e9.symm | rfl)) (by unfold runA; (repeat (first | rw [if_pos (by omega)] | rw [if_neg (by omega)])); show XC h_25 b (S 0) (S 1) (S 4) (S 5) (S 6) (S 7) ∧ Fr h h_25 b 367; exact ⟨⟨F, pi, Fs, kq, N, T, h_32, KM.eq ⟨h_33, h_34, h_35, h_36, h_37, h_38⟩ (rfl) (rfl), h_39, h_40, h_41, h_42, h_43, ⟨_, _, hE_29⟩, h_44, ⟨hR, hPR, hNn⟩, htt⟩, fr_45⟩))
        ·
          refine z_iload_n hx dX8_run_62 rfl 2 rfl ?_
          refine z_iconst hx dX8_run_63 ?_
          refine z_icmp_ne (tgt := 69) hx dX8_run_64 (by decide) (by omega) (by decide) (fun c_47 => ?_) (fun c_47 => ?_)
          ·
            refine z_iload_n hx dX8_run_69 rfl 2 rfl ?_
            refine z_iload_n hx dX8_run_70 rfl 3 rfl ?_
            refine z_icmp_ge (tgt := 91) hx dX8_run_71 (by decide) (by omega) (by omega) (fun c_48 => ?_) (fun c_48 => ?_)
            ·
              have e9 : runV S p i = -5 := by unfold runV; rw [rf.1, if_neg (by omega), if_neg (by omega), if_neg (by omega)]
              refine z_bipush hx dX8_run_91 (by decide) ?_
              refine z_iret hx hr dX8_run_93 rfl rfl (q_j (by unfold runA; (repeat (first | rw [if_pos (by omega)] | rw [if_neg (by omega)])); (try first | exact e9 | exact e9.symm | rfl)) (by unfold runA; (repeat (first | rw [if_pos (by omega)] | rw [if_neg (by omega)])); show XC h_25 b (S 0) (S 1) (S 4) (S 5) (S 6) (S 7) ∧ Fr h h_25 b 367; exact ⟨⟨F, pi, Fs, kq, N, T, h_32, KM.eq ⟨h_33, h_34, h_35, h_36, h_37, h_38⟩ (rfl) (rfl), h_39, h_40, h_41, h_42, h_43, ⟨_, _, hE_29⟩, h_44, ⟨hR, hPR, hNn⟩, htt⟩, fr_45⟩))
            ·
              refine z_iload_n hx dX8_run_74 rfl 2 rfl ?_
              refine z_iconst hx dX8_run_75 ?_
              refine z_icmp_ge (tgt := 91) hx dX8_run_76 (by decide) (by omega) (by decide) (fun c_49 => by exfalso; omega) (fun c_49 => ?_)
              have e9 : runV S p i = C_27 i := by unfold runV; rw [rf.1, if_neg (by omega), if_neg (by omega), if_pos (by omega), rf.2 (by rw [rf.1]; omega) i (by omega) (by rw [rf.1]; omega), k_30 (by omega) i (by omega) (by omega), rf.1]
              have hcr : C_27 i = fc p (nH p (cpn (S 1) (S 2))).toNat (cpn (S 1) (S 2)) / p5 (nH p (cpn (S 1) (S 2)) - 1 - i) % 5 := k_30 (by omega) i (by omega) (by omega)
              refine z_aload_n hx dX8_run_79 rfl 0 rfl ?_
              refine z_get hx dX8_run_80 fl_X8_46 h_32 rfl ?_
              refine z_get hx dX8_run_83 fl_X8_216 hE_29.1 rfl ?_
              refine z_iload_n hx dX8_run_86 rfl 2 rfl ?_
              refine z_iald hx dX8_run_87 hE_29.2.2.1 (by omega) (by decide) ?_
              refine z_goto (tgt := 93) hx dX8_run_88 (by decide) ?_
              refine z_iret hx hr dX8_run_93 rfl rfl (q_j (by unfold runA; (repeat (first | rw [if_pos (by omega)] | rw [if_neg (by omega)])); (try first | exact e9 | exact e9.symm | rfl)) (by unfold runA; (repeat (first | rw [if_pos (by omega)] | rw [if_neg (by omega)])); show XC h_25 b (S 0) (S 1) (S 4) (S 5) (S 6) (S 7) ∧ Fr h h_25 b 367; exact ⟨⟨F, pi, Fs, kq, N, T, h_32, KM.eq ⟨h_33, h_34, h_35, h_36, h_37, h_38⟩ (rfl) (rfl), h_39, h_40, h_41, h_42, h_43, ⟨_, _, hE_29⟩, h_44, ⟨hR, hPR, hNn⟩, htt⟩, fr_45⟩))
          ·
            have e9 : runV S p i = nH p (cpn (S 1) (S 2)) := by unfold runV; rw [rf.1]; first | (rw [if_pos (by omega)]; omega) | (rw [if_neg (by omega), if_pos (by omega)])
            refine z_iload_n hx dX8_run_67 rfl 3 rfl ?_
            refine z_iret hx hr dX8_run_68 rfl rfl (q_j (by unfold runA; (repeat (first | rw [if_pos (by omega)] | rw [if_neg (by omega)])); (try first | exact e9 | exact e9.symm | rfl)) (by unfold runA; (repeat (first | rw [if_pos (by omega)] | rw [if_neg (by omega)])); show XC h_25 b (S 0) (S 1) (S 4) (S 5) (S 6) (S 7) ∧ Fr h h_25 b 367; exact ⟨⟨F, pi, Fs, kq, N, T, h_32, KM.eq ⟨h_33, h_34, h_35, h_36, h_37, h_38⟩ (rfl) (rfl), h_39, h_40, h_41, h_42, h_43, ⟨_, _, hE_29⟩, h_44, ⟨hR, hPR, hNn⟩, htt⟩, fr_45⟩))
      ·
        refine z_aload_n hx dX8_run_36 rfl 0 rfl ?_
        refine z_cVJ (as := []) (rest := []) hx dX8_run_37 lk_X8_176 wm_X8_no wv_X8_no (rcv_obj hx x0 rfl) mo_X8_no (kX8_no g  x0) (by decide) rfl rfl (Nat.le_of_ble_eq_true rfl) (fun h_50 q_51 => ?_)
        obtain ⟨hs_52, hf_53⟩ := q_51
        have h_54 := hf_53.at (by omega) k0
        have h_55 := CM.fr k1 hf_53 (by omega)
        have h_56 := PM.fr k2 hf_53 (by omega)
        have h_57 := hf_53.at (by omega) k3
        have h_58 := hf_53.at (by omega) k4
        have h_59 := hf_53.at (by omega) k5
        have h_60 := IB.fr hi0 hf_53 (by omega)
        have h_61 := IB.fr hi1 hf_53 (by omega)
        have h_62 := TB.fr htx hf_53 (by omega)
        have h_63 := CB.fr htr hf_53 (by omega)
        have h_64 := RB.fr hrb hf_53 (by omega)
        have h_65 := HB.fr hhb hf_53 (by omega)
        have hE_66 := EM.fr hem hf_53 (by omega)
        have fr_67 : Fr h h_50 b 367 := hf_53.wd (by omega) (by omega)
        refine z_iret hx hr dX8_run_40 rfl rfl (q_j (by unfold runA; (repeat (first | rw [if_pos (by omega)] | rw [if_neg (by omega)])); (try first | exact e9 | exact e9.symm | rfl)) (by unfold runA; (repeat (first | rw [if_pos (by omega)] | rw [if_neg (by omega)])); show XC h_50 b (S 0) (S 1) (S 4) (S 5) (fup (S 6) 1 ((S 6) 1 + 1)) (S 7) ∧ Fr h h_50 b 367; exact ⟨⟨F, pi, Fs, kq, N, T, hs_52, KM.eq ⟨h_54, h_55, h_56, h_57, h_58, h_59⟩ (rfl) (rfl), h_60, h_61, h_62, h_63, h_64, ⟨_, _, hE_66⟩, h_65, ⟨hR, hPR, hNn⟩, htt⟩, fr_67⟩))
    ·
      refine z_aload_n hx dX8_run_13 rfl 0 rfl ?_
      refine z_bipush hx dX8_run_14 (by decide) ?_
      refine z_cVJ (as := [.int (iI (-10))]) (rest := []) hx dX8_run_16 lk_X8_88 wm_X8_bad wv_X8_bad (rcv_obj hx x0 rfl) mo_X8_bad (kX8_bad g (v := (-10)) x0) (by decide) rfl rfl (Nat.le_of_ble_eq_true rfl) (fun h_68 q_69 => ?_)
      obtain ⟨hs_70, hf_71⟩ := q_69
      have h_72 := hf_71.at (by omega) k0
      have h_73 := CM.fr k1 hf_71 (by omega)
      have h_74 := PM.fr k2 hf_71 (by omega)
      have h_75 := hf_71.at (by omega) k3
      have h_76 := hf_71.at (by omega) k4
      have h_77 := hf_71.at (by omega) k5
      have h_78 := IB.fr hi0 hf_71 (by omega)
      have h_79 := IB.fr hi1 hf_71 (by omega)
      have h_80 := TB.fr htx hf_71 (by omega)
      have h_81 := CB.fr htr hf_71 (by omega)
      have h_82 := RB.fr hrb hf_71 (by omega)
      have h_83 := HB.fr hhb hf_71 (by omega)
      have hE_84 := EM.fr hem hf_71 (by omega)
      have fr_85 : Fr h h_68 b 367 := hf_71.wd (by omega) (by omega)
      refine z_iret hx hr dX8_run_19 rfl rfl (q_j (by unfold runA; (repeat (first | rw [if_pos (by omega)] | rw [if_neg (by omega)])); (try first | exact e9 | exact e9.symm | rfl)) (by unfold runA; (repeat (first | rw [if_pos (by omega)] | rw [if_neg (by omega)])); show XC h_68 b (S 0) (S 1) (S 4) (S 5) (fup (S 6) 0 ((S 6) 0 + 1)) (S 7) ∧ Fr h h_68 b 367; exact ⟨⟨F, pi, Fs, kq, N, T, hs_70, KM.eq ⟨h_72, h_73, h_74, h_75, h_76, h_77⟩ (rfl) (rfl), h_78, h_79, h_80, h_81, h_82, ⟨_, _, hE_84⟩, h_83, ⟨hR, hPR, hNn⟩, htt⟩, fr_85⟩))

