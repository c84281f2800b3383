/-! the class: its text, token by token -/

set_option maxHeartbeats 4000000 in
set_option maxRecDepth 20000 in
theorem kX7_byteAt (g : Gt) {h : AH} {q : Nat} {T f : Int → Int} {L a1 a2 a3 a4 : Int} {i : Int} (hM : TM h q T L a1 a2 a3 a4) (hL : 0 ≤ L ∧ L ≤ 150) (htt : ∀ j, 0 ≤ j → j < L → T j = f j) (hT : ∀ j, 0 ≤ j → j < L → 0 ≤ f j ∧ f j ≤ 127) (g_i : rgI i) : CnI g mX7_byteAt 1 [.ref q, .int (iI i)] h (bt L f i) := by
  refine Cn.mk (by decide +kernel) (Nat.le_of_ble_eq_true rfl) ?_
  intro x sz hx hr
  show Zj g x (sz, 0, 0) h 0 [(0, .ref q), (1, .int (iI i))] []
  obtain ⟨t0, t1⟩ := hM
  refine z_iload_n hx dX7_byteAt_0 rfl 1 rfl ?_
  refine z_if_lt (tgt := 28) hx dX7_byteAt_1 (by decide) (by omega) (fun c_1 => ?_) (fun c_1 => ?_)
  ·
    refine z_iconst hx dX7_byteAt_28 ?_
    refine z_iret hx hr dX7_byteAt_29 rfl rfl (q_i (by first | (rw [bt_y (by omega)]; exact htt _ (by omega) (by omega)) | (rw [bt_n (by omega)])))
  ·
    refine z_iload_n hx dX7_byteAt_4 rfl 1 rfl ?_
    refine z_aload_n hx dX7_byteAt_5 rfl 0 rfl ?_
    refine z_get hx dX7_byteAt_6 fl_X7_15 t0 rfl ?_
    refine z_icmp_ge (tgt := 28) hx dX7_byteAt_9 (by decide) (by omega) (by omega) (fun c_2 => ?_) (fun c_2 => ?_)
    ·
      refine z_iconst hx dX7_byteAt_28 ?_
      refine z_iret hx hr dX7_byteAt_29 rfl rfl (q_i (by first | (rw [bt_y (by omega)]; exact htt _ (by omega) (by omega)) | (rw [bt_n (by omega)])))
    ·
      refine z_iload_n hx dX7_byteAt_12 rfl 1 rfl ?_
      refine z_sipush hx dX7_byteAt_13 (by decide) ?_
      refine z_icmp_ge (tgt := 28) hx dX7_byteAt_16 (by decide) (by omega) (by decide) (fun c_3 => ?_) (fun c_3 => ?_)
      ·
        refine z_iconst hx dX7_byteAt_28 ?_
        refine z_iret hx hr dX7_byteAt_29 rfl rfl (q_i (by first | (rw [bt_y (by omega)]; exact htt _ (by omega) (by omega)) | (rw [bt_n (by omega)])))
      ·
        refine z_aload_n hx dX7_byteAt_19 rfl 0 rfl ?_
        refine z_get hx dX7_byteAt_20 fl_X7_9 t0 rfl ?_
        refine z_iload_n hx dX7_byteAt_23 rfl 1 rfl ?_
        refine z_cald hx dX7_byteAt_24 t1 (by omega) (by decide) ?_
        refine z_goto (tgt := 29) hx dX7_byteAt_25 (by decide) ?_
        refine z_iret hx hr dX7_byteAt_29 rfl rfl (q_i (by first | (rw [bt_y (by omega)]; exact htt _ (by omega) (by omega)) | (rw [bt_n (by omega)])))

set_option maxHeartbeats 4000000 in
set_option maxRecDepth 20000 in
theorem kX7_rewind (g : Gt) {h : AH} {q : Nat} {T : Int → Int} {L a1 a2 a3 a4 : Int} (hM : TM h q T L a1 a2 a3 a4) : CnV g mX7_rewind 1 [.ref q] h (fun h' => TM h' q T L 0 0 0 a4 ∧ Fr h h' q 1) := by
  refine Cn.mk (by decide +kernel) (Nat.le_of_ble_eq_true rfl) ?_
  intro x sz hx hr
  show Zj g x (sz, 0, 0) h 0 [(0, .ref q)] []
  obtain ⟨t0, t1⟩ := hM
  refine z_aload_n hx dX7_rewind_0 rfl 0 rfl ?_
  refine z_iconst hx dX7_rewind_1 ?_
  refine z_putQ hx dX7_rewind_2 fl_X7_19 t0 ⟨rfl, rfl⟩ (Nat.le_of_ble_eq_true rfl) (fun h_1 hs_2 hf_3 => ?_)
  have h_4 := hf_3.at (by omega) t1
  have fr_5 : Fr h h_1 q 1 := hf_3.wd (by omega) (by omega)
  refine z_aload_n hx dX7_rewind_5 rfl 0 rfl ?_
  refine z_iconst hx dX7_rewind_6 ?_
  refine z_putQ hx dX7_rewind_7 fl_X7_22 hs_2 ⟨rfl, rfl⟩ (Nat.le_of_ble_eq_true rfl) (fun h_6 hs_7 hf_8 => ?_)
  have h_9 := hf_8.at (by omega) h_4
  have fr_10 := fr_5.tr (hf_8.wd (by omega) (by omega))
  refine z_aload_n hx dX7_rewind_10 rfl 0 rfl ?_
  refine z_iconst hx dX7_rewind_11 ?_
  refine z_putQ hx dX7_rewind_12 fl_X7_25 hs_7 ⟨rfl, rfl⟩ (Nat.le_of_ble_eq_true rfl) (fun h_11 hs_12 hf_13 => ?_)
  have h_14 := hf_13.at (by omega) h_9
  have fr_15 := fr_10.tr (hf_13.wd (by omega) (by omega))
  refine z_vret hx hr dX7_rewind_15 rfl (q_v (Q := fun h' => TM h' q T L 0 0 0 a4 ∧ Fr h h' q 1) ⟨⟨hs_12, h_14⟩, fr_15⟩)

set_option maxHeartbeats 4000000 in
set_option maxRecDepth 20000 in
theorem kX7_spells (g : Gt) {h : AH} {q : Nat} {T f : Int → Int} {L a e b3 b4 : Int} {i : Nat} (hi : i < 5) (hM : TM h q T L a e b3 b4) (hL : 0 ≤ L ∧ L ≤ 150) (htt : ∀ j, 0 ≤ j → j < L → T j = f j) (hT : ∀ j, 0 ≤ j → j < L → 0 ≤ f j ∧ f j ≤ 127) (ha : 0 ≤ a ∧ a < L) (hk : kd L f a = 1) (he : (tkR L f a).1 = e) (heL : e ≤ L) : CnI g mX7_spells 5 [.ref q, .ref (gK g i)] h (b2i ((tkR L f a).2.1 = hW i)) := by
  refine Cn.mk (by decide +kernel) (Nat.le_of_ble_eq_true rfl) ?_
  intro x sz hx hr
  show Zj g x (sz, 0, 0) h 0 [(0, .ref q), (1, .ref (gK g i))] []
  obtain ⟨t0, t1⟩ := hM
  have h7 := wLen_rg hi
  have hgt := tkR_gt hk (by decide)
  refine z_aload_n hx dX7_spells_0 rfl 0 rfl ?_
  refine z_get hx dX7_spells_1 fl_X7_22 t0 rfl ?_
  refine z_aload_n hx dX7_spells_4 rfl 0 rfl ?_
  refine z_get hx dX7_spells_5 fl_X7_19 t0 rfl ?_
  refine z_isub hx dX7_spells_8 ?_
  refine z_aload_n hx dX7_spells_9 rfl 1 rfl ?_
  refine z_cVI (as := []) (rest := [.int (iI (e - a))]) hx dX7_spells_10 lk_X7_62 wm_J0_length_8abf5 wv_J0_length_8abf5 (rcv_str hi hx) mo_J0_length_8abf5 (kS_length g (i := i) hi) (by decide) rfl rfl (Nat.le_of_ble_eq_true rfl) ?_
  refine z_icmp_eq (tgt := 18) hx dX7_spells_13 (by decide) (by omega) (by omega) (fun c_1 => ?_) (fun c_1 => ?_)
  ·
    refine z_iconst hx dX7_spells_18 ?_
    refine z_istore_n hx dX7_spells_19 rfl (by decide) [1, 2, 0] (lv' := [(0, .ref q), (1, .ref (gK g i)), (2, .int (iI 0))]) rfl ?_
    have hL_2 : ∀ (mm : Nat) (v2 : Int), (0 ≤ v2 ∧ v2 ≤ wLen i) → (∀ j, 0 ≤ j → j < v2 → f (a + j) = wB i j) → wLen i - v2 < (mm : Int) → Zj g x (sz, 0, 0) h 20 [(0, .ref q), (1, .ref (gK g i)), (2, .int (iI v2))] [] := by
      intro mm
      induction mm with
      | zero => intro v2 kv ej hm; exfalso; omega
      | succ mm ih =>
        intro v2 kv ej hm
        have ih_3 := ih; clear ih
        refine z_iload_n hx dX7_spells_20 rfl 2 rfl ?_
        refine z_aload_n hx dX7_spells_21 rfl 1 rfl ?_
        refine z_cVI (as := []) (rest := [.int (iI v2)]) hx dX7_spells_22 lk_X7_62 wm_J0_length_8abf5 wv_J0_length_8abf5 (rcv_str hi hx) mo_J0_length_8abf5 (kS_length g (i := i) hi) (by decide) rfl rfl (Nat.le_of_ble_eq_true rfl) ?_
        refine z_icmp_ge (tgt := 54) hx dX7_spells_25 (by decide) (by omega) (by omega) (fun c_4 => ?_) (fun c_4 => ?_)
        ·
          refine z_iconst hx dX7_spells_54 ?_
          refine z_iret hx hr dX7_spells_55 rfl rfl (q_i (by first | exact (b2i_t ((wd_eq hi hk).mpr ⟨by omega, fun j x y => ej j x (by omega)⟩)).symm | exact (b2i_f (fun z => by have w := (wd_eq hi hk).mp z; have w1 := w.1; first | omega | (have w2 := w.2 v2 (by omega) (by omega); omega))).symm))
        ·
          refine z_aload_n hx dX7_spells_28 rfl 0 rfl ?_
          refine z_aload_n hx dX7_spells_29 rfl 0 rfl ?_
          refine z_get hx dX7_spells_30 fl_X7_19 t0 rfl ?_
          refine z_iload_n hx dX7_spells_33 rfl 2 rfl ?_
          refine z_iadd hx dX7_spells_34 ?_
          refine z_cVI (as := [.int (iI (a + v2))]) (rest := []) hx dX7_spells_35 lk_X7_31 wm_X7_byteAt wv_X7_byteAt (rcv_obj hx t0 rfl) mo_X7_byteAt (kX7_byteAt g (T := T) (f := f) (i := (a + v2)) ⟨t0, t1⟩ hL htt hT (by omega)) (by decide) rfl rfl (Nat.le_of_ble_eq_true rfl) ?_
          have f_5 := bt_rg hT (a + v2)
          refine z_aload_n hx dX7_spells_38 rfl 1 rfl ?_
          refine z_iload_n hx dX7_spells_39 rfl 2 rfl ?_
          refine z_cVI (as := [.int (iI v2)]) (rest := [.int (iI (bt L f (a + v2)))]) hx dX7_spells_40 lk_X7_67 wm_J0_charAt_5068e wv_J0_charAt_5068e (rcv_str hi hx) mo_J0_charAt_5068e (kS_charAt g (i := i) (j := v2) hi (by omega)) (by decide) rfl rfl (Nat.le_of_ble_eq_true rfl) ?_
          have f_6 := wB_rg (i := i) (j := v2) hi (by omega)
          refine z_icmp_eq (tgt := 48) hx dX7_spells_43 (by decide) (by omega) (by omega) (fun c_7 => ?_) (fun c_7 => ?_)
          ·
            refine z_iinc hx dX7_spells_48 (by decide) 2 rfl [1, 2, 0] (lv' := [(0, .ref q), (1, .ref (gK g i)), (2, .int (iI (v2 + 1)))]) rfl ?_
            refine z_goto (tgt := 20) hx dX7_spells_51 (by decide) ?_
            exact ih_3 _ (by omega) (by intro j x y; by_cases c9 : j = v2; (rw [c9]; omega); exact ej j x (by omega))  (by omega)
          ·
            refine z_iconst hx dX7_spells_46 ?_
            refine z_iret hx hr dX7_spells_47 rfl rfl (q_i (by first | exact (b2i_t ((wd_eq hi hk).mpr ⟨by omega, fun j x y => ej j x (by omega)⟩)).symm | exact (b2i_f (fun z => by have w := (wd_eq hi hk).mp z; have w1 := w.1; first | omega | (have w2 := w.2 v2 (by omega) (by omega); omega))).symm))
    exact hL_2 ((wLen i - 0) + 1 : Int).toNat _ (by omega) (by intro j x y; omega)  (by omega)
  ·
    refine z_iconst hx dX7_spells_16 ?_
    refine z_iret hx hr dX7_spells_17 rfl rfl (q_i (by first | exact (b2i_t ((wd_eq hi hk).mpr ⟨by omega, fun j x y => ej j x (by omega)⟩)).symm | exact (b2i_f (fun z => by have w := (wd_eq hi hk).mp z; have w1 := w.1; first | omega | (have w2 := w.2 v2 (by omega) (by omega); omega))).symm))

set_option maxHeartbeats 4000000 in
set_option maxRecDepth 20000 in
theorem kX7_takeNumber (g : Gt) {h : AH} {q : Nat} {T f : Int → Int} {L a b3 b4 : Int} (hM : TM h q T L a a b3 b4) (hL : 0 ≤ L ∧ L ≤ 150) (htt : ∀ j, 0 ≤ j → j < L → T j = f j) (hT : ∀ j, 0 ≤ j → j < L → 0 ≤ f j ∧ f j ≤ 127) (ha : 0 ≤ a ∧ a < L) (hk : kd L f a = 2) : CnV g mX7_takeNumber 2 [.ref q] h (fun h' => ∃ b3, TM h' q T L a (tkR L f a).1 b3 (tkR L f a).2.2 ∧ ((b3 = 2 ∧ (tkR L f a).1 - a ≤ 2) ∨ (b3 = 4 ∧ 2 < (tkR L f a).1 - a)) ∧ Fr h h' q 1) := by
  refine Cn.mk (by decide +kernel) (Nat.le_of_ble_eq_true rfl) ?_
  intro x sz hx hr
  show Zj g x (sz, 0, 0) h 0 [(0, .ref q)] []
  obtain ⟨t0, t1⟩ := hM
  refine z_aload_n hx dX7_takeNumber_0 rfl 0 rfl ?_
  refine z_iconst hx dX7_takeNumber_1 ?_
  refine z_putQ hx dX7_takeNumber_2 fl_X7_28 t0 ⟨rfl, rfl⟩ (Nat.le_of_ble_eq_true rfl) (fun h_1 hs_2 hf_3 => ?_)
  have h_4 := hf_3.at (by omega) t1
  have fr_5 : Fr h h_1 q 1 := hf_3.wd (by omega) (by omega)
  refine z_iconst hx dX7_takeNumber_5 ?_
  refine z_istore_n hx dX7_takeNumber_6 rfl (by decide) [1, 0] (lv' := [(0, .ref q), (1, .int (iI 0))]) rfl ?_
  have hL_6 : ∀ (mm : Nat) (v1 : Int) (p9 : Int) (n9 : Int) (w9 : Int) (h_7 : AH), (0 ≤ v1 ∧ v1 ≤ 150) → (p9 = a + v1 ∧ p9 ≤ L) → (tkN L f a 2 (L - p9).toNat (p9, w9, n9) = tkR L f a) → (h_7 q = some (.inr (.inr (6, [.ref (q + 1), .int (iI L), .int (iI a), .int (iI p9), .int (iI b3), .int (iI n9)])))) → (h_7 (q + 1) = some (.inl (1, 150, T))) → (Fr h h_7 q 1) → (150 : Int) - v1 < (mm : Int) → Zj g x (sz, 0, 0) h_7 7 [(0, .ref q), (1, .int (iI v1))] [] := by
    intro mm
    induction mm with
    | zero => intro v1 p9 n9 w9 h_7 kv kp eg hk_8 hk_9 fr_10 hm; exfalso; omega
    | succ mm ih =>
      intro v1 p9 n9 w9 h_7 kv kp eg hk_8 hk_9 fr_10 hm
      have ih_11 := ih; clear ih
      refine z_iload_n hx dX7_takeNumber_7 rfl 1 rfl ?_
      refine z_sipush hx dX7_takeNumber_8 (by decide) ?_
      refine z_icmp_ge (tgt := 79) hx dX7_takeNumber_11 (by decide) (by omega) (by decide) (fun c_12 => ?_) (fun c_12 => ?_)
      ·
        have eR : tkR L f a = (p9, w9, n9) := by rw [← eg]; exact tkN_e _ (by have := kd_c L f p9; omega)
        refine z_aload_n hx dX7_takeNumber_79 rfl 0 rfl ?_
        refine z_aload_n hx dX7_takeNumber_80 rfl 0 rfl ?_
        refine z_get hx dX7_takeNumber_81 fl_X7_22 hk_8 rfl ?_
        refine z_aload_n hx dX7_takeNumber_84 rfl 0 rfl ?_
        refine z_get hx dX7_takeNumber_85 fl_X7_19 hk_8 rfl ?_
        refine z_isub hx dX7_takeNumber_88 ?_
        refine z_iconst hx dX7_takeNumber_89 ?_
        refine z_icmp_gt (tgt := 97) hx dX7_takeNumber_90 (by decide) (by omega) (by decide) (fun c_13 => ?_) (fun c_13 => ?_)
        ·
          refine z_iconst hx dX7_takeNumber_97 ?_
          refine z_putQ hx dX7_takeNumber_98 fl_X7_25 hk_8 ⟨rfl, rfl⟩ (Nat.le_of_ble_eq_true rfl) (fun h_14 hs_15 hf_16 => ?_)
          have h_17 := hf_16.at (by omega) hk_9
          have fr_18 := fr_10.tr (hf_16.wd (by omega) (by omega))
          refine z_vret hx hr dX7_takeNumber_101 rfl (q_v (Q := (fun h' => ∃ b3, TM h' q T L a (tkR L f a).1 b3 (tkR L f a).2.2 ∧ ((b3 = 2 ∧ (tkR L f a).1 - a ≤ 2) ∨ (b3 = 4 ∧ 2 < (tkR L f a).1 - a)) ∧ Fr h h' q 1)) ⟨4, by rw [eR]; exact ⟨hs_15, h_17⟩, by rw [eR]; (try dsimp only); omega, fr_18⟩)
        ·
          refine z_iconst hx dX7_takeNumber_93 ?_
          refine z_goto (tgt := 98) hx dX7_takeNumber_94 (by decide) ?_
          refine z_putQ hx dX7_takeNumber_98 fl_X7_25 hk_8 ⟨rfl, rfl⟩ (Nat.le_of_ble_eq_true rfl) (fun h_19 hs_20 hf_21 => ?_)
          have h_22 := hf_21.at (by omega) hk_9
          have fr_23 := fr_10.tr (hf_21.wd (by omega) (by omega))
          refine z_vret hx hr dX7_takeNumber_101 rfl (q_v (Q := (fun h' => ∃ b3, TM h' q T L a (tkR L f a).1 b3 (tkR L f a).2.2 ∧ ((b3 = 2 ∧ (tkR L f a).1 - a ≤ 2) ∨ (b3 = 4 ∧ 2 < (tkR L f a).1 - a)) ∧ Fr h h' q 1)) ⟨2, by rw [eR]; exact ⟨hs_20, h_22⟩, by rw [eR]; (try dsimp only); omega, fr_23⟩)
      ·
        refine z_aload_n hx dX7_takeNumber_14 rfl 0 rfl ?_
        refine z_aload_n hx dX7_takeNumber_15 rfl 0 rfl ?_
        refine z_get hx dX7_takeNumber_16 fl_X7_22 hk_8 rfl ?_
        refine z_cVI (as := [.int (iI p9)]) (rest := []) hx dX7_takeNumber_19 lk_X7_31 wm_X7_byteAt wv_X7_byteAt (rcv_obj hx hk_8 rfl) mo_X7_byteAt (kX7_byteAt g (T := T) (f := f) (i := p9) ⟨hk_8, hk_9⟩ hL htt hT (by omega)) (by decide) rfl rfl (Nat.le_of_ble_eq_true rfl) ?_
        have f_24 := bt_rg hT p9
        refine z_cSI (as := [.int (iI (bt L f p9))]) (rest := []) hx dX7_takeNumber_22 lk_X7_35 wt_X7_isFigure mo_X7_isFigure (kX7_isFigure g (c := (bt L f p9)) (by omega)) (by decide) rfl rfl (Nat.le_of_ble_eq_true rfl) ?_
        refine z_ifeq_b (tgt := 79) hx dX7_takeNumber_25 (by decide)  (fun c_25 => ?_) (fun c_25 => ?_)
        ·
          have eR : tkR L f a = (p9, w9, n9) := by rw [← eg]; exact tkN_e _ (by have := kd_c L f p9; omega)
          refine z_aload_n hx dX7_takeNumber_79 rfl 0 rfl ?_
          refine z_aload_n hx dX7_takeNumber_80 rfl 0 rfl ?_
          refine z_get hx dX7_takeNumber_81 fl_X7_22 hk_8 rfl ?_
          refine z_aload_n hx dX7_takeNumber_84 rfl 0 rfl ?_
          refine z_get hx dX7_takeNumber_85 fl_X7_19 hk_8 rfl ?_
          refine z_isub hx dX7_takeNumber_88 ?_
          refine z_iconst hx dX7_takeNumber_89 ?_
          refine z_icmp_gt (tgt := 97) hx dX7_takeNumber_90 (by decide) (by omega) (by decide) (fun c_26 => ?_) (fun c_26 => ?_)
          ·
            refine z_iconst hx dX7_takeNumber_97 ?_
            refine z_putQ hx dX7_takeNumber_98 fl_X7_25 hk_8 ⟨rfl, rfl⟩ (Nat.le_of_ble_eq_true rfl) (fun h_27 hs_28 hf_29 => ?_)
            have h_30 := hf_29.at (by omega) hk_9
            have fr_31 := fr_10.tr (hf_29.wd (by omega) (by omega))
            refine z_vret hx hr dX7_takeNumber_101 rfl (q_v (Q := (fun h' => ∃ b3, TM h' q T L a (tkR L f a).1 b3 (tkR L f a).2.2 ∧ ((b3 = 2 ∧ (tkR L f a).1 - a ≤ 2) ∨ (b3 = 4 ∧ 2 < (tkR L f a).1 - a)) ∧ Fr h h' q 1)) ⟨4, by rw [eR]; exact ⟨hs_28, h_30⟩, by rw [eR]; (try dsimp only); omega, fr_31⟩)
          ·
            refine z_iconst hx dX7_takeNumber_93 ?_
            refine z_goto (tgt := 98) hx dX7_takeNumber_94 (by decide) ?_
            refine z_putQ hx dX7_takeNumber_98 fl_X7_25 hk_8 ⟨rfl, rfl⟩ (Nat.le_of_ble_eq_true rfl) (fun h_32 hs_33 hf_34 => ?_)
            have h_35 := hf_34.at (by omega) hk_9
            have fr_36 := fr_10.tr (hf_34.wd (by omega) (by omega))
            refine z_vret hx hr dX7_takeNumber_101 rfl (q_v (Q := (fun h' => ∃ b3, TM h' q T L a (tkR L f a).1 b3 (tkR L f a).2.2 ∧ ((b3 = 2 ∧ (tkR L f a).1 - a ≤ 2) ∨ (b3 = 4 ∧ 2 < (tkR L f a).1 - a)) ∧ Fr h h' q 1)) ⟨2, by rw [eR]; exact ⟨hs_33, h_35⟩, by rw [eR]; (try dsimp only); omega, fr_36⟩)
        ·
          have hk9 : kd L f p9 = 2 := by have := kd_c L f p9; omega
          have hb9 : bt L f p9 = f p9 := by omega
          refine z_aload_n hx dX7_takeNumber_28 rfl 0 rfl ?_
          refine z_iload_n hx dX7_takeNumber_29 rfl 1 rfl ?_
          refine z_iconst hx dX7_takeNumber_30 ?_
          refine z_icmp_ge (tgt := 56) hx dX7_takeNumber_31 (by decide) (by omega) (by decide) (fun c_37 => ?_) (fun c_37 => ?_)
          ·
            refine z_aload_n hx dX7_takeNumber_56 rfl 0 rfl ?_
            refine z_get hx dX7_takeNumber_57 fl_X7_28 hk_8 rfl ?_
            refine z_putQ hx dX7_takeNumber_60 fl_X7_28 hk_8 ⟨rfl, rfl⟩ (Nat.le_of_ble_eq_true rfl) (fun h_38 hs_39 hf_40 => ?_)
            have h_41 := hf_40.at (by omega) hk_9
            have fr_42 := fr_10.tr (hf_40.wd (by omega) (by omega))
            refine z_aload_n hx dX7_takeNumber_63 rfl 0 rfl ?_
            refine z_dup hx dX7_takeNumber_64 rfl ?_
            refine z_get hx dX7_takeNumber_65 fl_X7_22 hs_39 rfl ?_
            refine z_iconst hx dX7_takeNumber_68 ?_
            refine z_iadd hx dX7_takeNumber_69 ?_
            refine z_putQ hx dX7_takeNumber_70 fl_X7_22 hs_39 ⟨rfl, rfl⟩ (Nat.le_of_ble_eq_true rfl) (fun h_43 hs_44 hf_45 => ?_)
            have h_46 := hf_45.at (by omega) h_41
            have fr_47 := fr_42.tr (hf_45.wd (by omega) (by omega))
            refine z_iinc hx dX7_takeNumber_73 (by decide) 1 rfl [1, 0] (lv' := [(0, .ref q), (1, .int (iI (v1 + 1)))]) rfl ?_
            refine z_goto (tgt := 7) hx dX7_takeNumber_76 (by decide) ?_
            exact ih_11 _ (p9 + 1) n9 (if p9 - a < 7 then 256 * w9 + f p9 else -1) _ (by omega) (by omega) (by rw [← eg, tkN_s (by omega) hk9]; first | rw [if_pos (show p9 - a < 2 by omega), hb9] | rw [if_neg (show ¬ p9 - a < 2 by omega)]) hs_44 h_46 fr_47 (by omega)
          ·
            refine z_bipush hx dX7_takeNumber_34 (by decide) ?_
            refine z_aload_n hx dX7_takeNumber_36 rfl 0 rfl ?_
            refine z_get hx dX7_takeNumber_37 fl_X7_28 hk_8 rfl ?_
            refine z_imul hx dX7_takeNumber_40 ?_
            refine z_aload_n hx dX7_takeNumber_41 rfl 0 rfl ?_
            refine z_aload_n hx dX7_takeNumber_42 rfl 0 rfl ?_
            refine z_get hx dX7_takeNumber_43 fl_X7_22 hk_8 rfl ?_
            refine z_cVI (as := [.int (iI p9)]) (rest := [.int (iI (10 * n9)), .ref q]) hx dX7_takeNumber_46 lk_X7_31 wm_X7_byteAt wv_X7_byteAt (rcv_obj hx hk_8 rfl) mo_X7_byteAt (kX7_byteAt g (T := T) (f := f) (i := p9) ⟨hk_8, hk_9⟩ hL htt hT (by omega)) (by decide) rfl rfl (Nat.le_of_ble_eq_true rfl) ?_
            have f_48 := bt_rg hT p9
            refine z_iadd hx dX7_takeNumber_49 ?_
            refine z_bipush hx dX7_takeNumber_50 (by decide) ?_
            refine z_isub hx dX7_takeNumber_52 ?_
            refine z_goto (tgt := 60) hx dX7_takeNumber_53 (by decide) ?_
            refine z_putQ hx dX7_takeNumber_60 fl_X7_28 hk_8 ⟨rfl, rfl⟩ (Nat.le_of_ble_eq_true rfl) (fun h_49 hs_50 hf_51 => ?_)
            have h_52 := hf_51.at (by omega) hk_9
            have fr_53 := fr_10.tr (hf_51.wd (by omega) (by omega))
            refine z_aload_n hx dX7_takeNumber_63 rfl 0 rfl ?_
            refine z_dup hx dX7_takeNumber_64 rfl ?_
            refine z_get hx dX7_takeNumber_65 fl_X7_22 hs_50 rfl ?_
            refine z_iconst hx dX7_takeNumber_68 ?_
            refine z_iadd hx dX7_takeNumber_69 ?_
            refine z_putQ hx dX7_takeNumber_70 fl_X7_22 hs_50 ⟨rfl, rfl⟩ (Nat.le_of_ble_eq_true rfl) (fun h_54 hs_55 hf_56 => ?_)
            have h_57 := hf_56.at (by omega) h_52
            have fr_58 := fr_53.tr (hf_56.wd (by omega) (by omega))
            refine z_iinc hx dX7_takeNumber_73 (by decide) 1 rfl [1, 0] (lv' := [(0, .ref q), (1, .int (iI (v1 + 1)))]) rfl ?_
            refine z_goto (tgt := 7) hx dX7_takeNumber_76 (by decide) ?_
            exact ih_11 _ (p9 + 1) (((10 * n9) + (bt L f p9)) - 48) (if p9 - a < 7 then 256 * w9 + f p9 else -1) _ (by omega) (by omega) (by rw [← eg, tkN_s (by omega) hk9]; first | rw [if_pos (show p9 - a < 2 by omega), hb9] | rw [if_neg (show ¬ p9 - a < 2 by omega)]) hs_55 h_57 fr_58 (by omega)
  exact hL_6 (((150 : Int) - 0) + 1 : Int).toNat _ a 0 0 _ (by omega) (by omega) (by unfold tkR; rw [hk]) hs_2 h_4 fr_5 (by omega)

set_option maxHeartbeats 4000000 in
set_option maxRecDepth 20000 in
theorem kX7_takeWord (g : Gt) {h : AH} {q : Nat} {T f : Int → Int} {L a b3 b4 : Int} (hM : TM h q T L a a b3 b4) (hL : 0 ≤ L ∧ L ≤ 150) (htt : ∀ j, 0 ≤ j → j < L → T j = f j) (hT : ∀ j, 0 ≤ j → j < L → 0 ≤ f j ∧ f j ≤ 127) (ha : 0 ≤ a ∧ a < L) (hk : kd L f a = 1) : CnV g mX7_takeWord 6 [.ref q] h (fun h' => ∃ b3 b4, TM h' q T L a (tkR L f a).1 b3 b4 ∧ ((b3 = 3 ∧ (0 ≤ b4 ∧ b4 ≤ 4) ∧ (tkR L f a).2.1 = hW b4.toNat) ∨ (b3 = 4 ∧ ∀ k : Nat, k < 5 → (tkR L f a).2.1 ≠ hW k)) ∧ Fr h h' q 1) := by
  refine Cn.mk (by decide +kernel) (Nat.le_of_ble_eq_true rfl) ?_
  intro x sz hx hr
  show Zj g x (sz, 0, 0) h 0 [(0, .ref q)] []
  obtain ⟨t0, t1⟩ := hM
  refine z_iconst hx dX7_takeWord_0 ?_
  refine z_istore_n hx dX7_takeWord_1 rfl (by decide) [1, 0] (lv' := [(0, .ref q), (1, .int (iI 0))]) rfl ?_
  have hL_1 : ∀ (mm : Nat) (v1 : Int) (p9 : Int) (w9 : Int) (n9 : Int) (h_2 : AH), (0 ≤ v1 ∧ v1 ≤ 150) → (p9 = a + v1 ∧ p9 ≤ L) → (tkN L f a 1 (L - p9).toNat (p9, w9, n9) = tkR L f a) → (h_2 q = some (.inr (.inr (6, [.ref (q + 1), .int (iI L), .int (iI a), .int (iI p9), .int (iI b3), .int (iI b4)])))) → (h_2 (q + 1) = some (.inl (1, 150, T))) → (Fr h h_2 q 1) → (150 : Int) - v1 < (mm : Int) → Zj g x (sz, 0, 0) h_2 2 [(0, .ref q), (1, .int (iI v1))] [] := by
    intro mm
    induction mm with
    | zero => intro v1 p9 w9 n9 h_2 kv kp eg hk_3 hk_4 fr_5 hm; exfalso; omega
    | succ mm ih =>
      intro v1 p9 w9 n9 h_2 kv kp eg hk_3 hk_4 fr_5 hm
      have ih_6 := ih; clear ih
      refine z_iload_n hx dX7_takeWord_2 rfl 1 rfl ?_
      refine z_sipush hx dX7_takeWord_3 (by decide) ?_
      refine z_icmp_ge (tgt := 39) hx dX7_takeWord_6 (by decide) (by omega) (by decide) (fun c_7 => ?_) (fun c_7 => ?_)
      ·
        have eR : tkR L f a = (p9, w9, n9) := by rw [← eg]; exact tkN_e _ (by have := kd_c L f p9; omega)
        have hep : (tkR L f a).1 = p9 := by rw [eR]
        refine z_aload_n hx dX7_takeWord_39 rfl 0 rfl ?_
        refine z_iconst hx dX7_takeWord_40 ?_
        refine z_putQ hx dX7_takeWord_41 fl_X7_25 hk_3 ⟨rfl, rfl⟩ (Nat.le_of_ble_eq_true rfl) (fun h_8 hs_9 hf_10 => ?_)
        have h_11 := hf_10.at (by omega) hk_4
        have fr_12 := fr_5.tr (hf_10.wd (by omega) (by omega))
        refine z_aload_n hx dX7_takeWord_44 rfl 0 rfl ?_
        refine z_ldcS (i := 0) (by decide) hx dX7_takeWord_45 rfl rfl ?_
        refine z_cVI (as := [.ref (gK g 0)]) (rest := []) hx dX7_takeWord_47 lk_X7_50 wm_X7_spells wv_X7_spells (rcv_obj hx hs_9 rfl) mo_X7_spells (kX7_spells g (T := T) (f := f) (i := 0) (by decide) ⟨hs_9, h_11⟩ hL htt hT ha hk hep (by omega)) (by decide) rfl rfl (Nat.le_of_ble_eq_true rfl) ?_
        refine z_ifeq_b (tgt := 61) hx dX7_takeWord_50 (by decide)  (fun c_13 => ?_) (fun c_13 => ?_)
        ·
          refine z_aload_n hx dX7_takeWord_61 rfl 0 rfl ?_
          refine z_ldcS (i := 1) (by decide) hx dX7_takeWord_62 rfl rfl ?_
          refine z_cVI (as := [.ref (gK g 1)]) (rest := []) hx dX7_takeWord_64 lk_X7_50 wm_X7_spells wv_X7_spells (rcv_obj hx hs_9 rfl) mo_X7_spells (kX7_spells g (T := T) (f := f) (i := 1) (by decide) ⟨hs_9, h_11⟩ hL htt hT ha hk hep (by omega)) (by decide) rfl rfl (Nat.le_of_ble_eq_true rfl) ?_
          refine z_ifeq_b (tgt := 78) hx dX7_takeWord_67 (by decide)  (fun c_14 => ?_) (fun c_14 => ?_)
          ·
            refine z_aload_n hx dX7_takeWord_78 rfl 0 rfl ?_
            refine z_ldcS (i := 2) (by decide) hx dX7_takeWord_79 rfl rfl ?_
            refine z_cVI (as := [.ref (gK g 2)]) (rest := []) hx dX7_takeWord_81 lk_X7_50 wm_X7_spells wv_X7_spells (rcv_obj hx hs_9 rfl) mo_X7_spells (kX7_spells g (T := T) (f := f) (i := 2) (by decide) ⟨hs_9, h_11⟩ hL htt hT ha hk hep (by omega)) (by decide) rfl rfl (Nat.le_of_ble_eq_true rfl) ?_
            refine z_ifeq_b (tgt := 95) hx dX7_takeWord_84 (by decide)  (fun c_15 => ?_) (fun c_15 => ?_)
            ·
              refine z_aload_n hx dX7_takeWord_95 rfl 0 rfl ?_
              refine z_ldcS (i := 3) (by decide) hx dX7_takeWord_96 rfl rfl ?_
              refine z_cVI (as := [.ref (gK g 3)]) (rest := []) hx dX7_takeWord_98 lk_X7_50 wm_X7_spells wv_X7_spells (rcv_obj hx hs_9 rfl) mo_X7_spells (kX7_spells g (T := T) (f := f) (i := 3) (by decide) ⟨hs_9, h_11⟩ hL htt hT ha hk hep (by omega)) (by decide) rfl rfl (Nat.le_of_ble_eq_true rfl) ?_
              refine z_ifeq_b (tgt := 112) hx dX7_takeWord_101 (by decide)  (fun c_16 => ?_) (fun c_16 => ?_)
              ·
                refine z_aload_n hx dX7_takeWord_112 rfl 0 rfl ?_
                refine z_ldcS (i := 4) (by decide) hx dX7_takeWord_113 rfl rfl ?_
                refine z_cVI (as := [.ref (gK g 4)]) (rest := []) hx dX7_takeWord_115 lk_X7_50 wm_X7_spells wv_X7_spells (rcv_obj hx hs_9 rfl) mo_X7_spells (kX7_spells g (T := T) (f := f) (i := 4) (by decide) ⟨hs_9, h_11⟩ hL htt hT ha hk hep (by omega)) (by decide) rfl rfl (Nat.le_of_ble_eq_true rfl) ?_
                refine z_ifeq_b (tgt := 129) hx dX7_takeWord_118 (by decide)  (fun c_17 => ?_) (fun c_17 => ?_)
                ·
                  refine z_aload_n hx dX7_takeWord_129 rfl 0 rfl ?_
                  refine z_iconst hx dX7_takeWord_130 ?_
                  refine z_putQ hx dX7_takeWord_131 fl_X7_25 hs_9 ⟨rfl, rfl⟩ (Nat.le_of_ble_eq_true rfl) (fun h_18 hs_19 hf_20 => ?_)
                  have h_21 := hf_20.at (by omega) h_11
                  have fr_22 := fr_12.tr (hf_20.wd (by omega) (by omega))
                  refine z_vret hx hr dX7_takeWord_134 rfl (q_v (Q := (fun h' => ∃ b3 b4, TM h' q T L a (tkR L f a).1 b3 b4 ∧ ((b3 = 3 ∧ (0 ≤ b4 ∧ b4 ≤ 4) ∧ (tkR L f a).2.1 = hW b4.toNat) ∨ (b3 = 4 ∧ ∀ k : Nat, k < 5 → (tkR L f a).2.1 ≠ hW k)) ∧ Fr h h' q 1)) ⟨4, b4, by rw [hep]; exact ⟨hs_19, h_21⟩, Or.inr ⟨rfl, fun k hk9 => by rcases i5 hk9 with rfl | rfl | rfl | rfl | rfl <;> assumption⟩, fr_22⟩)
                ·
                  refine z_aload_n hx dX7_takeWord_121 rfl 0 rfl ?_
                  refine z_iconst hx dX7_takeWord_122 ?_
                  refine z_putQ hx dX7_takeWord_123 fl_X7_28 hs_9 ⟨rfl, rfl⟩ (Nat.le_of_ble_eq_true rfl) (fun h_23 hs_24 hf_25 => ?_)
                  have h_26 := hf_25.at (by omega) h_11
                  have fr_27 := fr_12.tr (hf_25.wd (by omega) (by omega))
                  refine z_goto (tgt := 134) hx dX7_takeWord_126 (by decide) ?_
                  refine z_vret hx hr dX7_takeWord_134 rfl (q_v (Q := (fun h' => ∃ b3 b4, TM h' q T L a (tkR L f a).1 b3 b4 ∧ ((b3 = 3 ∧ (0 ≤ b4 ∧ b4 ≤ 4) ∧ (tkR L f a).2.1 = hW b4.toNat) ∨ (b3 = 4 ∧ ∀ k : Nat, k < 5 → (tkR L f a).2.1 ≠ hW k)) ∧ Fr h h' q 1)) ⟨3, 4, by rw [hep]; exact ⟨hs_24, h_26⟩, Or.inl ⟨rfl, by decide, (show (tkR L f a).2.1 = hW 4 by assumption)⟩, fr_27⟩)
              ·
                refine z_aload_n hx dX7_takeWord_104 rfl 0 rfl ?_
                refine z_iconst hx dX7_takeWord_105 ?_
                refine z_putQ hx dX7_takeWord_106 fl_X7_28 hs_9 ⟨rfl, rfl⟩ (Nat.le_of_ble_eq_true rfl) (fun h_28 hs_29 hf_30 => ?_)
                have h_31 := hf_30.at (by omega) h_11
                have fr_32 := fr_12.tr (hf_30.wd (by omega) (by omega))
                refine z_goto (tgt := 134) hx dX7_takeWord_109 (by decide) ?_
                refine z_vret hx hr dX7_takeWord_134 rfl (q_v (Q := (fun h' => ∃ b3 b4, TM h' q T L a (tkR L f a).1 b3 b4 ∧ ((b3 = 3 ∧ (0 ≤ b4 ∧ b4 ≤ 4) ∧ (tkR L f a).2.1 = hW b4.toNat) ∨ (b3 = 4 ∧ ∀ k : Nat, k < 5 → (tkR L f a).2.1 ≠ hW k)) ∧ Fr h h' q 1)) ⟨3, 3, by rw [hep]; exact ⟨hs_29, h_31⟩, Or.inl ⟨rfl, by decide, (show (tkR L f a).2.1 = hW 3 by assumption)⟩, fr_32⟩)
            ·
              refine z_aload_n hx dX7_takeWord_87 rfl 0 rfl ?_
              refine z_iconst hx dX7_takeWord_88 ?_
              refine z_putQ hx dX7_takeWord_89 fl_X7_28 hs_9 ⟨rfl, rfl⟩ (Nat.le_of_ble_eq_true rfl) (fun h_33 hs_34 hf_35 => ?_)
              have h_36 := hf_35.at (by omega) h_11
              have fr_37 := fr_12.tr (hf_35.wd (by omega) (by omega))
              refine z_goto (tgt := 134) hx dX7_takeWord_92 (by decide) ?_
              refine z_vret hx hr dX7_takeWord_134 rfl (q_v (Q := (fun h' => ∃ b3 b4, TM h' q T L a (tkR L f a).1 b3 b4 ∧ ((b3 = 3 ∧ (0 ≤ b4 ∧ b4 ≤ 4) ∧ (tkR L f a).2.1 = hW b4.toNat) ∨ (b3 = 4 ∧ ∀ k : Nat, k < 5 → (tkR L f a).2.1 ≠ hW k)) ∧ Fr h h' q 1)) ⟨3, 2, by rw [hep]; exact ⟨hs_34, h_36⟩, Or.inl ⟨rfl, by decide, (show (tkR L f a).2.1 = hW 2 by assumption)⟩, fr_37⟩)
          ·
            refine z_aload_n hx dX7_takeWord_70 rfl 0 rfl ?_
            refine z_iconst hx dX7_takeWord_71 ?_
            refine z_putQ hx dX7_takeWord_72 fl_X7_28 hs_9 ⟨rfl, rfl⟩ (Nat.le_of_ble_eq_true rfl) (fun h_38 hs_39 hf_40 => ?_)
            have h_41 := hf_40.at (by omega) h_11
            have fr_42 := fr_12.tr (hf_40.wd (by omega) (by omega))
            refine z_goto (tgt := 134) hx dX7_takeWord_75 (by decide) ?_
            refine z_vret hx hr dX7_takeWord_134 rfl (q_v (Q := (fun h' => ∃ b3 b4, TM h' q T L a (tkR L f a).1 b3 b4 ∧ ((b3 = 3 ∧ (0 ≤ b4 ∧ b4 ≤ 4) ∧ (tkR L f a).2.1 = hW b4.toNat) ∨ (b3 = 4 ∧ ∀ k : Nat, k < 5 → (tkR L f a).2.1 ≠ hW k)) ∧ Fr h h' q 1)) ⟨3, 1, by rw [hep]; exact ⟨hs_39, h_41⟩, Or.inl ⟨rfl, by decide, (show (tkR L f a).2.1 = hW 1 by assumption)⟩, fr_42⟩)
        ·
          refine z_aload_n hx dX7_takeWord_53 rfl 0 rfl ?_
          refine z_iconst hx dX7_takeWord_54 ?_
          refine z_putQ hx dX7_takeWord_55 fl_X7_28 hs_9 ⟨rfl, rfl⟩ (Nat.le_of_ble_eq_true rfl) (fun h_43 hs_44 hf_45 => ?_)
          have h_46 := hf_45.at (by omega) h_11
          have fr_47 := fr_12.tr (hf_45.wd (by omega) (by omega))
          refine z_goto (tgt := 134) hx dX7_takeWord_58 (by decide) ?_
          refine z_vret hx hr dX7_takeWord_134 rfl (q_v (Q := (fun h' => ∃ b3 b4, TM h' q T L a (tkR L f a).1 b3 b4 ∧ ((b3 = 3 ∧ (0 ≤ b4 ∧ b4 ≤ 4) ∧ (tkR L f a).2.1 = hW b4.toNat) ∨ (b3 = 4 ∧ ∀ k : Nat, k < 5 → (tkR L f a).2.1 ≠ hW k)) ∧ Fr h h' q 1)) ⟨3, 0, by rw [hep]; exact ⟨hs_44, h_46⟩, Or.inl ⟨rfl, by decide, (show (tkR L f a).2.1 = hW 0 by assumption)⟩, fr_47⟩)
      ·
        refine z_aload_n hx dX7_takeWord_9 rfl 0 rfl ?_
        refine z_aload_n hx dX7_takeWord_10 rfl 0 rfl ?_
        refine z_get hx dX7_takeWord_11 fl_X7_22 hk_3 rfl ?_
        refine z_cVI (as := [.int (iI p9)]) (rest := []) hx dX7_takeWord_14 lk_X7_31 wm_X7_byteAt wv_X7_byteAt (rcv_obj hx hk_3 rfl) mo_X7_byteAt (kX7_byteAt g (T := T) (f := f) (i := p9) ⟨hk_3, hk_4⟩ hL htt hT (by omega)) (by decide) rfl rfl (Nat.le_of_ble_eq_true rfl) ?_
        have f_48 := bt_rg hT p9
        refine z_cSI (as := [.int (iI (bt L f p9))]) (rest := []) hx dX7_takeWord_17 lk_X7_42 wt_X7_isLetter mo_X7_isLetter (kX7_isLetter g (c := (bt L f p9)) (by omega)) (by decide) rfl rfl (Nat.le_of_ble_eq_true rfl) ?_
        refine z_ifeq_b (tgt := 39) hx dX7_takeWord_20 (by decide)  (fun c_49 => ?_) (fun c_49 => ?_)
        ·
          have eR : tkR L f a = (p9, w9, n9) := by rw [← eg]; exact tkN_e _ (by have := kd_c L f p9; omega)
          have hep : (tkR L f a).1 = p9 := by rw [eR]
          refine z_aload_n hx dX7_takeWord_39 rfl 0 rfl ?_
          refine z_iconst hx dX7_takeWord_40 ?_
          refine z_putQ hx dX7_takeWord_41 fl_X7_25 hk_3 ⟨rfl, rfl⟩ (Nat.le_of_ble_eq_true rfl) (fun h_50 hs_51 hf_52 => ?_)
          have h_53 := hf_52.at (by omega) hk_4
          have fr_54 := fr_5.tr (hf_52.wd (by omega) (by omega))
          refine z_aload_n hx dX7_takeWord_44 rfl 0 rfl ?_
          refine z_ldcS (i := 0) (by decide) hx dX7_takeWord_45 rfl rfl ?_
          refine z_cVI (as := [.ref (gK g 0)]) (rest := []) hx dX7_takeWord_47 lk_X7_50 wm_X7_spells wv_X7_spells (rcv_obj hx hs_51 rfl) mo_X7_spells (kX7_spells g (T := T) (f := f) (i := 0) (by decide) ⟨hs_51, h_53⟩ hL htt hT ha hk hep (by omega)) (by decide) rfl rfl (Nat.le_of_ble_eq_true rfl) ?_
          refine z_ifeq_b (tgt := 61) hx dX7_takeWord_50 (by decide)  (fun c_55 => ?_) (fun c_55 => ?_)
          ·
            refine z_aload_n hx dX7_takeWord_61 rfl 0 rfl ?_
            refine z_ldcS (i := 1) (by decide) hx dX7_takeWord_62 rfl rfl ?_
            refine z_cVI (as := [.ref (gK g 1)]) (rest := []) hx dX7_takeWord_64 lk_X7_50 wm_X7_spells wv_X7_spells (rcv_obj hx hs_51 rfl) mo_X7_spells (kX7_spells g (T := T) (f := f) (i := 1) (by decide) ⟨hs_51, h_53⟩ hL htt hT ha hk hep (by omega)) (by decide) rfl rfl (Nat.le_of_ble_eq_true rfl) ?_
            refine z_ifeq_b (tgt := 78) hx dX7_takeWord_67 (by decide)  (fun c_56 => ?_) (fun c_56 => ?_)
            ·
              refine z_aload_n hx dX7_takeWord_78 rfl 0 rfl ?_
              refine z_ldcS (i := 2) (by decide) hx dX7_takeWord_79 rfl rfl ?_
              refine z_cVI (as := [.ref (gK g 2)]) (rest := []) hx dX7_takeWord_81 lk_X7_50 wm_X7_spells wv_X7_spells (rcv_obj hx hs_51 rfl) mo_X7_spells (kX7_spells g (T := T) (f := f) (i := 2) (by decide) ⟨hs_51, h_53⟩ hL htt hT ha hk hep (by omega)) (by decide) rfl rfl (Nat.le_of_ble_eq_true rfl) ?_
              refine z_ifeq_b (tgt := 95) hx dX7_takeWord_84 (by decide)  (fun c_57 => ?_) (fun c_57 => ?_)
              ·
                refine z_aload_n hx dX7_takeWord_95 rfl 0 rfl ?_
                refine z_ldcS (i := 3) (by decide) hx dX7_takeWord_96 rfl rfl ?_
                refine z_cVI (as := [.ref (gK g 3)]) (rest := []) hx dX7_takeWord_98 lk_X7_50 wm_X7_spells wv_X7_spells (rcv_obj hx hs_51 rfl) mo_X7_spells (kX7_spells g (T := T) (f := f) (i := 3) (by decide) ⟨hs_51, h_53⟩ hL htt hT ha hk hep (by omega)) (by decide) rfl rfl (Nat.le_of_ble_eq_true rfl) ?_
                refine z_ifeq_b (tgt := 112) hx dX7_takeWord_101 (by decide)  (fun c_58 => ?_) (fun c_58 => ?_)
                ·
                  refine z_aload_n hx dX7_takeWord_112 rfl 0 rfl ?_
                  refine z_ldcS (i := 4) (by decide) hx dX7_takeWord_113 rfl rfl ?_
                  refine z_cVI (as := [.ref (gK g 4)]) (rest := []) hx dX7_takeWord_115 lk_X7_50 wm_X7_spells wv_X7_spells (rcv_obj hx hs_51 rfl) mo_X7_spells (kX7_spells g (T := T) (f := f) (i := 4) (by decide) ⟨hs_51, h_53⟩ hL htt hT ha hk hep (by omega)) (by decide) rfl rfl (Nat.le_of_ble_eq_true rfl) ?_
                  refine z_ifeq_b (tgt := 129) hx dX7_takeWord_118 (by decide)  (fun c_59 => ?_) (fun c_59 => ?_)
                  ·
                    refine z_aload_n hx dX7_takeWord_129 rfl 0 rfl ?_
                    refine z_iconst hx dX7_takeWord_130 ?_
                    refine z_putQ hx dX7_takeWord_131 fl_X7_25 hs_51 ⟨rfl, rfl⟩ (Nat.le_of_ble_eq_true rfl) (fun h_60 hs_61 hf_62 => ?_)
                    have h_63 := hf_62.at (by omega) h_53
                    have fr_64 := fr_54.tr (hf_62.wd (by omega) (by omega))
                    refine z_vret hx hr dX7_takeWord_134 rfl (q_v (Q := (fun h' => ∃ b3 b4, TM h' q T L a (tkR L f a).1 b3 b4 ∧ ((b3 = 3 ∧ (0 ≤ b4 ∧ b4 ≤ 4) ∧ (tkR L f a).2.1 = hW b4.toNat) ∨ (b3 = 4 ∧ ∀ k : Nat, k < 5 → (tkR L f a).2.1 ≠ hW k)) ∧ Fr h h' q 1)) ⟨4, b4, by rw [hep]; exact ⟨hs_61, h_63⟩, Or.inr ⟨rfl, fun k hk9 => by rcases i5 hk9 with rfl | rfl | rfl | rfl | rfl <;> assumption⟩, fr_64⟩)
                  ·
                    refine z_aload_n hx dX7_takeWord_121 rfl 0 rfl ?_
                    refine z_iconst hx dX7_takeWord_122 ?_
                    refine z_putQ hx dX7_takeWord_123 fl_X7_28 hs_51 ⟨rfl, rfl⟩ (Nat.le_of_ble_eq_true rfl) (fun h_65 hs_66 hf_67 => ?_)
                    have h_68 := hf_67.at (by omega) h_53
                    have fr_69 := fr_54.tr (hf_67.wd (by omega) (by omega))
                    refine z_goto (tgt := 134) hx dX7_takeWord_126 (by decide) ?_
                    refine z_vret hx hr dX7_takeWord_134 rfl (q_v (Q := (fun h' => ∃ b3 b4, TM h' q T L a (tkR L f a).1 b3 b4 ∧ ((b3 = 3 ∧ (0 ≤ b4 ∧ b4 ≤ 4) ∧ (tkR L f a).2.1 = hW b4.toNat) ∨ (b3 = 4 ∧ ∀ k : Nat, k < 5 → (tkR L f a).2.1 ≠ hW k)) ∧ Fr h h' q 1)) ⟨3, 4, by rw [hep]; exact ⟨hs_66, h_68⟩, Or.inl ⟨rfl, by decide, (show (tkR L f a).2.1 = hW 4 by assumption)⟩, fr_69⟩)
                ·
                  refine z_aload_n hx dX7_takeWord_104 rfl 0 rfl ?_
                  refine z_iconst hx dX7_takeWord_105 ?_
                  refine z_putQ hx dX7_takeWord_106 fl_X7_28 hs_51 ⟨rfl, rfl⟩ (Nat.le_of_ble_eq_true rfl) (fun h_70 hs_71 hf_72 => ?_)
                  have h_73 := hf_72.at (by omega) h_53
                  have fr_74 := fr_54.tr (hf_72.wd (by omega) (by omega))
                  refine z_goto (tgt := 134) hx dX7_takeWord_109 (by decide) ?_
                  refine z_vret hx hr dX7_takeWord_134 rfl (q_v (Q := (fun h' => ∃ b3 b4, TM h' q T L a (tkR L f a).1 b3 b4 ∧ ((b3 = 3 ∧ (0 ≤ b4 ∧ b4 ≤ 4) ∧ (tkR L f a).2.1 = hW b4.toNat) ∨ (b3 = 4 ∧ ∀ k : Nat, k < 5 → (tkR L f a).2.1 ≠ hW k)) ∧ Fr h h' q 1)) ⟨3, 3, by rw [hep]; exact ⟨hs_71, h_73⟩, Or.inl ⟨rfl, by decide, (show (tkR L f a).2.1 = hW 3 by assumption)⟩, fr_74⟩)
              ·
                refine z_aload_n hx dX7_takeWord_87 rfl 0 rfl ?_
                refine z_iconst hx dX7_takeWord_88 ?_
                refine z_putQ hx dX7_takeWord_89 fl_X7_28 hs_51 ⟨rfl, rfl⟩ (Nat.le_of_ble_eq_true rfl) (fun h_75 hs_76 hf_77 => ?_)
                have h_78 := hf_77.at (by omega) h_53
                have fr_79 := fr_54.tr (hf_77.wd (by omega) (by omega))
                refine z_goto (tgt := 134) hx dX7_takeWord_92 (by decide) ?_
                refine z_vret hx hr dX7_takeWord_134 rfl (q_v (Q := (fun h' => ∃ b3 b4, TM h' q T L a (tkR L f a).1 b3 b4 ∧ ((b3 = 3 ∧ (0 ≤ b4 ∧ b4 ≤ 4) ∧ (tkR L f a).2.1 = hW b4.toNat) ∨ (b3 = 4 ∧ ∀ k : Nat, k < 5 → (tkR L f a).2.1 ≠ hW k)) ∧ Fr h h' q 1)) ⟨3, 2, by rw [hep]; exact ⟨hs_76, h_78⟩, Or.inl ⟨rfl, by decide, (show (tkR L f a).2.1 = hW 2 by assumption)⟩, fr_79⟩)
            ·
              refine z_aload_n hx dX7_takeWord_70 rfl 0 rfl ?_
              refine z_iconst hx dX7_takeWord_71 ?_
              refine z_putQ hx dX7_takeWord_72 fl_X7_28 hs_51 ⟨rfl, rfl⟩ (Nat.le_of_ble_eq_true rfl) (fun h_80 hs_81 hf_82 => ?_)
              have h_83 := hf_82.at (by omega) h_53
              have fr_84 := fr_54.tr (hf_82.wd (by omega) (by omega))
              refine z_goto (tgt := 134) hx dX7_takeWord_75 (by decide) ?_
              refine z_vret hx hr dX7_takeWord_134 rfl (q_v (Q := (fun h' => ∃ b3 b4, TM h' q T L a (tkR L f a).1 b3 b4 ∧ ((b3 = 3 ∧ (0 ≤ b4 ∧ b4 ≤ 4) ∧ (tkR L f a).2.1 = hW b4.toNat) ∨ (b3 = 4 ∧ ∀ k : Nat, k < 5 → (tkR L f a).2.1 ≠ hW k)) ∧ Fr h h' q 1)) ⟨3, 1, by rw [hep]; exact ⟨hs_81, h_83⟩, Or.inl ⟨rfl, by decide, (show (tkR L f a).2.1 = hW 1 by assumption)⟩, fr_84⟩)
          ·
            refine z_aload_n hx dX7_takeWord_53 rfl 0 rfl ?_
            refine z_iconst hx dX7_takeWord_54 ?_
            refine z_putQ hx dX7_takeWord_55 fl_X7_28 hs_51 ⟨rfl, rfl⟩ (Nat.le_of_ble_eq_true rfl) (fun h_85 hs_86 hf_87 => ?_)
            have h_88 := hf_87.at (by omega) h_53
            have fr_89 := fr_54.tr (hf_87.wd (by omega) (by omega))
            refine z_goto (tgt := 134) hx dX7_takeWord_58 (by decide) ?_
            refine z_vret hx hr dX7_takeWord_134 rfl (q_v (Q := (fun h' => ∃ b3 b4, TM h' q T L a (tkR L f a).1 b3 b4 ∧ ((b3 = 3 ∧ (0 ≤ b4 ∧ b4 ≤ 4) ∧ (tkR L f a).2.1 = hW b4.toNat) ∨ (b3 = 4 ∧ ∀ k : Nat, k < 5 → (tkR L f a).2.1 ≠ hW k)) ∧ Fr h h' q 1)) ⟨3, 0, by rw [hep]; exact ⟨hs_86, h_88⟩, Or.inl ⟨rfl, by decide, (show (tkR L f a).2.1 = hW 0 by assumption)⟩, fr_89⟩)
        ·
          have hk9 : kd L f p9 = 1 := by have := kd_c L f p9; omega
          refine z_aload_n hx dX7_takeWord_23 rfl 0 rfl ?_
          refine z_dup hx dX7_takeWord_24 rfl ?_
          refine z_get hx dX7_takeWord_25 fl_X7_22 hk_3 rfl ?_
          refine z_iconst hx dX7_takeWord_28 ?_
          refine z_iadd hx dX7_takeWord_29 ?_
          refine z_putQ hx dX7_takeWord_30 fl_X7_22 hk_3 ⟨rfl, rfl⟩ (Nat.le_of_ble_eq_true rfl) (fun h_90 hs_91 hf_92 => ?_)
          have h_93 := hf_92.at (by omega) hk_4
          have fr_94 := fr_5.tr (hf_92.wd (by omega) (by omega))
          refine z_iinc hx dX7_takeWord_33 (by decide) 1 rfl [1, 0] (lv' := [(0, .ref q), (1, .int (iI (v1 + 1)))]) rfl ?_
          refine z_goto (tgt := 2) hx dX7_takeWord_36 (by decide) ?_
          exact ih_6 _ (p9 + 1) (if p9 - a < 7 then 256 * w9 + f p9 else -1) (if p9 - a < 2 then 10 * n9 + f p9 - 48 else n9) _ (by omega) (by omega) (by rw [← eg, tkN_s (by omega) hk9]) hs_91 h_93 fr_94 (by omega)
  exact hL_1 (((150 : Int) - 0) + 1 : Int).toNat _ a 0 0 _ (by omega) (by omega) (by unfold tkR; rw [hk]) t0 t1 Fr.rf (by omega)

set_option maxHeartbeats 4000000 in
set_option maxRecDepth 20000 in
theorem kX7_goOn (g : Gt) {h : AH} {q : Nat} {T f : Int → Int} {L a1 a2 a3 a4 : Int} (hM : TM h q T L a1 a2 a3 a4) (hL : 0 ≤ L ∧ L ≤ 150) (htt : ∀ j, 0 ≤ j → j < L → T j = f j) (hT : ∀ j, 0 ≤ j → j < L → 0 ≤ f j ∧ f j ≤ 127) (hE : 0 ≤ a2 ∧ a2 ≤ L) : CnV g mX7_goOn 7 [.ref q] h (fun h' => ∃ b1 b2 b3 b4, TM h' q T L b1 b2 b3 b4 ∧ TKd L f a2 b1 b2 b3 b4 ∧ Fr h h' q 1) := by
  refine Cn.mk (by decide +kernel) (Nat.le_of_ble_eq_true rfl) ?_
  intro x sz hx hr
  show Zj g x (sz, 0, 0) h 0 [(0, .ref q)] []
  obtain ⟨t0, t1⟩ := hM
  refine z_aload_n hx dX7_goOn_0 rfl 0 rfl ?_
  refine z_aload_n hx dX7_goOn_1 rfl 0 rfl ?_
  refine z_get hx dX7_goOn_2 fl_X7_22 t0 rfl ?_
  refine z_putQ hx dX7_goOn_5 fl_X7_19 t0 ⟨rfl, rfl⟩ (Nat.le_of_ble_eq_true rfl) (fun h_1 hs_2 hf_3 => ?_)
  have h_4 := hf_3.at (by omega) t1
  have fr_5 : Fr h h_1 q 1 := hf_3.wd (by omega) (by omega)
  refine z_iconst hx dX7_goOn_8 ?_
  refine z_istore_n hx dX7_goOn_9 rfl (by decide) [1, 0] (lv' := [(0, .ref q), (1, .int (iI 0))]) rfl ?_
  have hL_6 : ∀ (mm : Nat) (v1 : Int) (s1 : Int) (h_7 : AH), (0 ≤ v1 ∧ v1 ≤ 150) → (s1 = a2 + v1 ∧ s1 ≤ L) → (skN L f (L - s1).toNat s1 = skp L f a2) → (h_7 q = some (.inr (.inr (6, [.ref (q + 1), .int (iI L), .int (iI s1), .int (iI a2), .int (iI a3), .int (iI a4)])))) → (h_7 (q + 1) = some (.inl (1, 150, T))) → (Fr h h_7 q 1) → (150 : Int) - v1 < (mm : Int) → Zj g x (sz, 0, 0) h_7 10 [(0, .ref q), (1, .int (iI v1))] [] := by
    intro mm
    induction mm with
    | zero => intro v1 s1 h_7 kv kp eg hk_8 hk_9 fr_10 hm; exfalso; omega
    | succ mm ih =>
      intro v1 s1 h_7 kv kp eg hk_8 hk_9 fr_10 hm
      have ih_11 := ih; clear ih
      refine z_iload_n hx dX7_goOn_10 rfl 1 rfl ?_
      refine z_sipush hx dX7_goOn_11 (by decide) ?_
      refine z_icmp_ge (tgt := 46) hx dX7_goOn_14 (by decide) (by omega) (by decide) (fun c_12 => ?_) (fun c_12 => ?_)
      ·
        have ea : skp L f a2 = s1 := by rw [← eg]; exact skN_e _ (by omega)
        refine z_aload_n hx dX7_goOn_46 rfl 0 rfl ?_
        refine z_aload_n hx dX7_goOn_47 rfl 0 rfl ?_
        refine z_get hx dX7_goOn_48 fl_X7_19 hk_8 rfl ?_
        refine z_putQ hx dX7_goOn_51 fl_X7_22 hk_8 ⟨rfl, rfl⟩ (Nat.le_of_ble_eq_true rfl) (fun h_13 hs_14 hf_15 => ?_)
        have h_16 := hf_15.at (by omega) hk_9
        have fr_17 := fr_10.tr (hf_15.wd (by omega) (by omega))
        refine z_aload_n hx dX7_goOn_54 rfl 0 rfl ?_
        refine z_aload_n hx dX7_goOn_55 rfl 0 rfl ?_
        refine z_get hx dX7_goOn_56 fl_X7_19 hs_14 rfl ?_
        refine z_cVI (as := [.int (iI s1)]) (rest := []) hx dX7_goOn_59 lk_X7_31 wm_X7_byteAt wv_X7_byteAt (rcv_obj hx hs_14 rfl) mo_X7_byteAt (kX7_byteAt g (T := T) (f := f) (i := s1) ⟨hs_14, h_16⟩ hL htt hT (by omega)) (by decide) rfl rfl (Nat.le_of_ble_eq_true rfl) ?_
        have f_18 := bt_rg hT s1
        refine z_istore_n hx dX7_goOn_62 rfl (by decide) [1, 0] (lv' := [(0, .ref q), (1, .int (iI (bt L f s1)))]) rfl ?_
        refine z_iload_n hx dX7_goOn_63 rfl 1 rfl ?_
        refine z_iconst hx dX7_goOn_64 ?_
        refine z_icmp_ne (tgt := 76) hx dX7_goOn_65 (by decide) (by omega) (by decide) (fun c_19 => ?_) (fun c_19 => ?_)
        ·
          refine z_iload_n hx dX7_goOn_76 rfl 1 rfl ?_
          refine z_bipush hx dX7_goOn_77 (by decide) ?_
          refine z_icmp_ne (tgt := 100) hx dX7_goOn_79 (by decide) (by omega) (by decide) (fun c_20 => ?_) (fun c_20 => ?_)
          ·
            refine z_iload_n hx dX7_goOn_100 rfl 1 rfl ?_
            refine z_cSI (as := [.int (iI (bt L f s1))]) (rest := []) hx dX7_goOn_101 lk_X7_35 wt_X7_isFigure mo_X7_isFigure (kX7_isFigure g (c := (bt L f s1)) (by omega)) (by decide) rfl rfl (Nat.le_of_ble_eq_true rfl) ?_
            refine z_ifeq_b (tgt := 114) hx dX7_goOn_104 (by decide)  (fun c_21 => ?_) (fun c_21 => ?_)
            ·
              refine z_iload_n hx dX7_goOn_114 rfl 1 rfl ?_
              refine z_cSI (as := [.int (iI (bt L f s1))]) (rest := []) hx dX7_goOn_115 lk_X7_42 wt_X7_isLetter mo_X7_isLetter (kX7_isLetter g (c := (bt L f s1)) (by omega)) (by decide) rfl rfl (Nat.le_of_ble_eq_true rfl) ?_
              refine z_ifeq_b (tgt := 128) hx dX7_goOn_118 (by decide)  (fun c_22 => ?_) (fun c_22 => ?_)
              ·
                have hk0 : kd L f s1 = 0 := by have := kd_c L f s1; omega
                refine z_aload_n hx dX7_goOn_128 rfl 0 rfl ?_
                refine z_iconst hx dX7_goOn_129 ?_
                refine z_putQ hx dX7_goOn_130 fl_X7_25 hs_14 ⟨rfl, rfl⟩ (Nat.le_of_ble_eq_true rfl) (fun h_23 hs_24 hf_25 => ?_)
                have h_26 := hf_25.at (by omega) h_16
                have fr_27 := fr_17.tr (hf_25.wd (by omega) (by omega))
                refine z_vret hx hr dX7_goOn_133 rfl (q_v (Q := (fun h' => ∃ b1 b2 b3 b4, TM h' q T L b1 b2 b3 b4 ∧ TKd L f a2 b1 b2 b3 b4 ∧ Fr h h' q 1)) ⟨s1, s1, 4, a4, ⟨hs_24, h_26⟩, ⟨ea.symm, Or.inr (Or.inr (Or.inr (Or.inr ⟨by omega, hk0, by omega, rfl⟩)))⟩, fr_27⟩)
              ·
                have hk1 : kd L f s1 = 1 := by have := kd_c L f s1; omega
                refine z_aload_n hx dX7_goOn_121 rfl 0 rfl ?_
                refine z_cVV (as := []) (rest := []) hx dX7_goOn_122 lk_X7_45 wm_X7_takeWord wv_X7_takeWord (rcv_obj hx hs_14 rfl) mo_X7_takeWord (kX7_takeWord g (T := T) (f := f) (a := s1) ⟨hs_14, h_16⟩ hL htt hT (by omega) hk1) (by decide) rfl rfl (Nat.le_of_ble_eq_true rfl) (fun h_28 q_29 => ?_)
                obtain ⟨b_30, b_31, q_32, q_33, hf_34⟩ := q_29
                obtain ⟨t_35, t_36⟩ := q_32
                have fr_37 := fr_17.tr (hf_34.wd (by omega) (by omega))
                refine z_goto (tgt := 133) hx dX7_goOn_125 (by decide) ?_
                refine z_vret hx hr dX7_goOn_133 rfl (q_v (Q := (fun h' => ∃ b1 b2 b3 b4, TM h' q T L b1 b2 b3 b4 ∧ TKd L f a2 b1 b2 b3 b4 ∧ Fr h h' q 1)) ⟨s1, ((tkR L f s1).1), b_30, b_31, ⟨t_35, t_36⟩, ⟨ea.symm, Or.inr (Or.inr (Or.inr (Or.inl ⟨by omega, hk1, q_33.imp (fun w => ⟨w.1, rfl, w.2⟩) id⟩)))⟩, fr_37⟩)
            ·
              have hk2 : kd L f s1 = 2 := by have := kd_c L f s1; omega
              refine z_aload_n hx dX7_goOn_107 rfl 0 rfl ?_
              refine z_cVV (as := []) (rest := []) hx dX7_goOn_108 lk_X7_39 wm_X7_takeNumber wv_X7_takeNumber (rcv_obj hx hs_14 rfl) mo_X7_takeNumber (kX7_takeNumber g (T := T) (f := f) (a := s1) ⟨hs_14, h_16⟩ hL htt hT (by omega) hk2) (by decide) rfl rfl (Nat.le_of_ble_eq_true rfl) (fun h_38 q_39 => ?_)
              obtain ⟨b_40, q_41, q_42, hf_43⟩ := q_39
              obtain ⟨t_44, t_45⟩ := q_41
              have fr_46 := fr_17.tr (hf_43.wd (by omega) (by omega))
              refine z_goto (tgt := 133) hx dX7_goOn_111 (by decide) ?_
              refine z_vret hx hr dX7_goOn_133 rfl (q_v (Q := (fun h' => ∃ b1 b2 b3 b4, TM h' q T L b1 b2 b3 b4 ∧ TKd L f a2 b1 b2 b3 b4 ∧ Fr h h' q 1)) ⟨s1, ((tkR L f s1).1), b_40, ((tkR L f s1).2.2), ⟨t_44, t_45⟩, ⟨ea.symm, Or.inr (Or.inr (Or.inl ⟨by omega, hk2, q_42.imp (fun w => ⟨w.1, w.2, rfl, rfl⟩) id⟩))⟩, fr_46⟩)
          ·
            refine z_aload_n hx dX7_goOn_82 rfl 0 rfl ?_
            refine z_iconst hx dX7_goOn_83 ?_
            refine z_putQ hx dX7_goOn_84 fl_X7_25 hs_14 ⟨rfl, rfl⟩ (Nat.le_of_ble_eq_true rfl) (fun h_47 hs_48 hf_49 => ?_)
            have h_50 := hf_49.at (by omega) h_16
            have fr_51 := fr_17.tr (hf_49.wd (by omega) (by omega))
            refine z_aload_n hx dX7_goOn_87 rfl 0 rfl ?_
            refine z_aload_n hx dX7_goOn_88 rfl 0 rfl ?_
            refine z_get hx dX7_goOn_89 fl_X7_19 hs_48 rfl ?_
            refine z_iconst hx dX7_goOn_92 ?_
            refine z_iadd hx dX7_goOn_93 ?_
            refine z_putQ hx dX7_goOn_94 fl_X7_22 hs_48 ⟨rfl, rfl⟩ (Nat.le_of_ble_eq_true rfl) (fun h_52 hs_53 hf_54 => ?_)
            have h_55 := hf_54.at (by omega) h_50
            have fr_56 := fr_51.tr (hf_54.wd (by omega) (by omega))
            refine z_goto (tgt := 133) hx dX7_goOn_97 (by decide) ?_
            refine z_vret hx hr dX7_goOn_133 rfl (q_v (Q := (fun h' => ∃ b1 b2 b3 b4, TM h' q T L b1 b2 b3 b4 ∧ TKd L f a2 b1 b2 b3 b4 ∧ Fr h h' q 1)) ⟨s1, (s1 + 1), 1, a4, ⟨hs_53, h_55⟩, ⟨ea.symm, Or.inr (Or.inl ⟨by omega, by omega, rfl, rfl⟩)⟩, fr_56⟩)
        ·
          refine z_aload_n hx dX7_goOn_68 rfl 0 rfl ?_
          refine z_iconst hx dX7_goOn_69 ?_
          refine z_putQ hx dX7_goOn_70 fl_X7_25 hs_14 ⟨rfl, rfl⟩ (Nat.le_of_ble_eq_true rfl) (fun h_57 hs_58 hf_59 => ?_)
          have h_60 := hf_59.at (by omega) h_16
          have fr_61 := fr_17.tr (hf_59.wd (by omega) (by omega))
          refine z_goto (tgt := 133) hx dX7_goOn_73 (by decide) ?_
          refine z_vret hx hr dX7_goOn_133 rfl (q_v (Q := (fun h' => ∃ b1 b2 b3 b4, TM h' q T L b1 b2 b3 b4 ∧ TKd L f a2 b1 b2 b3 b4 ∧ Fr h h' q 1)) ⟨s1, s1, 0, a4, ⟨hs_58, h_60⟩, ⟨ea.symm, Or.inl ⟨by omega, rfl⟩⟩, fr_61⟩)
      ·
        refine z_aload_n hx dX7_goOn_17 rfl 0 rfl ?_
        refine z_aload_n hx dX7_goOn_18 rfl 0 rfl ?_
        refine z_get hx dX7_goOn_19 fl_X7_19 hk_8 rfl ?_
        refine z_cVI (as := [.int (iI s1)]) (rest := []) hx dX7_goOn_22 lk_X7_31 wm_X7_byteAt wv_X7_byteAt (rcv_obj hx hk_8 rfl) mo_X7_byteAt (kX7_byteAt g (T := T) (f := f) (i := s1) ⟨hk_8, hk_9⟩ hL htt hT (by omega)) (by decide) rfl rfl (Nat.le_of_ble_eq_true rfl) ?_
        have f_62 := bt_rg hT s1
        refine z_bipush hx dX7_goOn_25 (by decide) ?_
        refine z_icmp_ne (tgt := 46) hx dX7_goOn_27 (by decide) (by omega) (by decide) (fun c_63 => ?_) (fun c_63 => ?_)
        ·
          have ea : skp L f a2 = s1 := by rw [← eg]; exact skN_e _ (by omega)
          refine z_aload_n hx dX7_goOn_46 rfl 0 rfl ?_
          refine z_aload_n hx dX7_goOn_47 rfl 0 rfl ?_
          refine z_get hx dX7_goOn_48 fl_X7_19 hk_8 rfl ?_
          refine z_putQ hx dX7_goOn_51 fl_X7_22 hk_8 ⟨rfl, rfl⟩ (Nat.le_of_ble_eq_true rfl) (fun h_64 hs_65 hf_66 => ?_)
          have h_67 := hf_66.at (by omega) hk_9
          have fr_68 := fr_10.tr (hf_66.wd (by omega) (by omega))
          refine z_aload_n hx dX7_goOn_54 rfl 0 rfl ?_
          refine z_aload_n hx dX7_goOn_55 rfl 0 rfl ?_
          refine z_get hx dX7_goOn_56 fl_X7_19 hs_65 rfl ?_
          refine z_cVI (as := [.int (iI s1)]) (rest := []) hx dX7_goOn_59 lk_X7_31 wm_X7_byteAt wv_X7_byteAt (rcv_obj hx hs_65 rfl) mo_X7_byteAt (kX7_byteAt g (T := T) (f := f) (i := s1) ⟨hs_65, h_67⟩ hL htt hT (by omega)) (by decide) rfl rfl (Nat.le_of_ble_eq_true rfl) ?_
          have f_69 := bt_rg hT s1
          refine z_istore_n hx dX7_goOn_62 rfl (by decide) [1, 0] (lv' := [(0, .ref q), (1, .int (iI (bt L f s1)))]) rfl ?_
          refine z_iload_n hx dX7_goOn_63 rfl 1 rfl ?_
          refine z_iconst hx dX7_goOn_64 ?_
          refine z_icmp_ne (tgt := 76) hx dX7_goOn_65 (by decide) (by omega) (by decide) (fun c_70 => ?_) (fun c_70 => ?_)
          ·
            refine z_iload_n hx dX7_goOn_76 rfl 1 rfl ?_
            refine z_bipush hx dX7_goOn_77 (by decide) ?_
            refine z_icmp_ne (tgt := 100) hx dX7_goOn_79 (by decide) (by omega) (by decide) (fun c_71 => ?_) (fun c_71 => ?_)
            ·
              refine z_iload_n hx dX7_goOn_100 rfl 1 rfl ?_
              refine z_cSI (as := [.int (iI (bt L f s1))]) (rest := []) hx dX7_goOn_101 lk_X7_35 wt_X7_isFigure mo_X7_isFigure (kX7_isFigure g (c := (bt L f s1)) (by omega)) (by decide) rfl rfl (Nat.le_of_ble_eq_true rfl) ?_
              refine z_ifeq_b (tgt := 114) hx dX7_goOn_104 (by decide)  (fun c_72 => ?_) (fun c_72 => ?_)
              ·
                refine z_iload_n hx dX7_goOn_114 rfl 1 rfl ?_
                refine z_cSI (as := [.int (iI (bt L f s1))]) (rest := []) hx dX7_goOn_115 lk_X7_42 wt_X7_isLetter mo_X7_isLetter (kX7_isLetter g (c := (bt L f s1)) (by omega)) (by decide) rfl rfl (Nat.le_of_ble_eq_true rfl) ?_
                refine z_ifeq_b (tgt := 128) hx dX7_goOn_118 (by decide)  (fun c_73 => ?_) (fun c_73 => ?_)
                ·
                  have hk0 : kd L f s1 = 0 := by have := kd_c L f s1; omega
                  refine z_aload_n hx dX7_goOn_128 rfl 0 rfl ?_
                  refine z_iconst hx dX7_goOn_129 ?_
                  refine z_putQ hx dX7_goOn_130 fl_X7_25 hs_65 ⟨rfl, rfl⟩ (Nat.le_of_ble_eq_true rfl) (fun h_74 hs_75 hf_76 => ?_)
                  have h_77 := hf_76.at (by omega) h_67
                  have fr_78 := fr_68.tr (hf_76.wd (by omega) (by omega))
                  refine z_vret hx hr dX7_goOn_133 rfl (q_v (Q := (fun h' => ∃ b1 b2 b3 b4, TM h' q T L b1 b2 b3 b4 ∧ TKd L f a2 b1 b2 b3 b4 ∧ Fr h h' q 1)) ⟨s1, s1, 4, a4, ⟨hs_75, h_77⟩, ⟨ea.symm, Or.inr (Or.inr (Or.inr (Or.inr ⟨by omega, hk0, by omega, rfl⟩)))⟩, fr_78⟩)
                ·
                  have hk1 : kd L f s1 = 1 := by have := kd_c L f s1; omega
                  refine z_aload_n hx dX7_goOn_121 rfl 0 rfl ?_
                  refine z_cVV (as := []) (rest := []) hx dX7_goOn_122 lk_X7_45 wm_X7_takeWord wv_X7_takeWord (rcv_obj hx hs_65 rfl) mo_X7_takeWord (kX7_takeWord g (T := T) (f := f) (a := s1) ⟨hs_65, h_67⟩ hL htt hT (by omega) hk1) (by decide) rfl rfl (Nat.le_of_ble_eq_true rfl) (fun h_79 q_80 => ?_)
                  obtain ⟨b_81, b_82, q_83, q_84, hf_85⟩ := q_80
                  obtain ⟨t_86, t_87⟩ := q_83
                  have fr_88 := fr_68.tr (hf_85.wd (by omega) (by omega))
                  refine z_goto (tgt := 133) hx dX7_goOn_125 (by decide) ?_
                  refine z_vret hx hr dX7_goOn_133 rfl (q_v (Q := (fun h' => ∃ b1 b2 b3 b4, TM h' q T L b1 b2 b3 b4 ∧ TKd L f a2 b1 b2 b3 b4 ∧ Fr h h' q 1)) ⟨s1, ((tkR L f s1).1), b_81, b_82, ⟨t_86, t_87⟩, ⟨ea.symm, Or.inr (Or.inr (Or.inr (Or.inl ⟨by omega, hk1, q_84.imp (fun w => ⟨w.1, rfl, w.2⟩) id⟩)))⟩, fr_88⟩)
              ·
                have hk2 : kd L f s1 = 2 := by have := kd_c L f s1; omega
                refine z_aload_n hx dX7_goOn_107 rfl 0 rfl ?_
                refine z_cVV (as := []) (rest := []) hx dX7_goOn_108 lk_X7_39 wm_X7_takeNumber wv_X7_takeNumber (rcv_obj hx hs_65 rfl) mo_X7_takeNumber (kX7_takeNumber g (T := T) (f := f) (a := s1) ⟨hs_65, h_67⟩ hL htt hT (by omega) hk2) (by decide) rfl rfl (Nat.le_of_ble_eq_true rfl) (fun h_89 q_90 => ?_)
                obtain ⟨b_91, q_92, q_93, hf_94⟩ := q_90
                obtain ⟨t_95, t_96⟩ := q_92
                have fr_97 := fr_68.tr (hf_94.wd (by omega) (by omega))
                refine z_goto (tgt := 133) hx dX7_goOn_111 (by decide) ?_
                refine z_vret hx hr dX7_goOn_133 rfl (q_v (Q := (fun h' => ∃ b1 b2 b3 b4, TM h' q T L b1 b2 b3 b4 ∧ TKd L f a2 b1 b2 b3 b4 ∧ Fr h h' q 1)) ⟨s1, ((tkR L f s1).1), b_91, ((tkR L f s1).2.2), ⟨t_95, t_96⟩, ⟨ea.symm, Or.inr (Or.inr (Or.inl ⟨by omega, hk2, q_93.imp (fun w => ⟨w.1, w.2, rfl, rfl⟩) id⟩))⟩, fr_97⟩)
            ·
              refine z_aload_n hx dX7_goOn_82 rfl 0 rfl ?_
              refine z_iconst hx dX7_goOn_83 ?_
              refine z_putQ hx dX7_goOn_84 fl_X7_25 hs_65 ⟨rfl, rfl⟩ (Nat.le_of_ble_eq_true rfl) (fun h_98 hs_99 hf_100 => ?_)
              have h_101 := hf_100.at (by omega) h_67
              have fr_102 := fr_68.tr (hf_100.wd (by omega) (by omega))
              refine z_aload_n hx dX7_goOn_87 rfl 0 rfl ?_
              refine z_aload_n hx dX7_goOn_88 rfl 0 rfl ?_
              refine z_get hx dX7_goOn_89 fl_X7_19 hs_99 rfl ?_
              refine z_iconst hx dX7_goOn_92 ?_
              refine z_iadd hx dX7_goOn_93 ?_
              refine z_putQ hx dX7_goOn_94 fl_X7_22 hs_99 ⟨rfl, rfl⟩ (Nat.le_of_ble_eq_true rfl) (fun h_103 hs_104 hf_105 => ?_)
              have h_106 := hf_105.at (by omega) h_101
              have fr_107 := fr_102.tr (hf_105.wd (by omega) (by omega))
              refine z_goto (tgt := 133) hx dX7_goOn_97 (by decide) ?_
              refine z_vret hx hr dX7_goOn_133 rfl (q_v (Q := (fun h' => ∃ b1 b2 b3 b4, TM h' q T L b1 b2 b3 b4 ∧ TKd L f a2 b1 b2 b3 b4 ∧ Fr h h' q 1)) ⟨s1, (s1 + 1), 1, a4, ⟨hs_104, h_106⟩, ⟨ea.symm, Or.inr (Or.inl ⟨by omega, by omega, rfl, rfl⟩)⟩, fr_107⟩)
          ·
            refine z_aload_n hx dX7_goOn_68 rfl 0 rfl ?_
            refine z_iconst hx dX7_goOn_69 ?_
            refine z_putQ hx dX7_goOn_70 fl_X7_25 hs_65 ⟨rfl, rfl⟩ (Nat.le_of_ble_eq_true rfl) (fun h_108 hs_109 hf_110 => ?_)
            have h_111 := hf_110.at (by omega) h_67
            have fr_112 := fr_68.tr (hf_110.wd (by omega) (by omega))
            refine z_goto (tgt := 133) hx dX7_goOn_73 (by decide) ?_
            refine z_vret hx hr dX7_goOn_133 rfl (q_v (Q := (fun h' => ∃ b1 b2 b3 b4, TM h' q T L b1 b2 b3 b4 ∧ TKd L f a2 b1 b2 b3 b4 ∧ Fr h h' q 1)) ⟨s1, s1, 0, a4, ⟨hs_109, h_111⟩, ⟨ea.symm, Or.inl ⟨by omega, rfl⟩⟩, fr_112⟩)
        ·
          refine z_aload_n hx dX7_goOn_30 rfl 0 rfl ?_
          refine z_dup hx dX7_goOn_31 rfl ?_
          refine z_get hx dX7_goOn_32 fl_X7_19 hk_8 rfl ?_
          refine z_iconst hx dX7_goOn_35 ?_
          refine z_iadd hx dX7_goOn_36 ?_
          refine z_putQ hx dX7_goOn_37 fl_X7_19 hk_8 ⟨rfl, rfl⟩ (Nat.le_of_ble_eq_true rfl) (fun h_113 hs_114 hf_115 => ?_)
          have h_116 := hf_115.at (by omega) hk_9
          have fr_117 := fr_10.tr (hf_115.wd (by omega) (by omega))
          refine z_iinc hx dX7_goOn_40 (by decide) 1 rfl [1, 0] (lv' := [(0, .ref q), (1, .int (iI (v1 + 1)))]) rfl ?_
          refine z_goto (tgt := 10) hx dX7_goOn_43 (by decide) ?_
          exact ih_11 _ (s1 + 1) _ (by omega) (by omega) (by rw [← skN_s (by omega) (by omega)]; exact eg) hs_114 h_116 fr_117 (by omega)
  exact hL_6 (((150 : Int) - 0) + 1 : Int).toNat _ a2 _ (by omega) (by omega) (by rfl) hs_2 h_4 fr_5 (by omega)

