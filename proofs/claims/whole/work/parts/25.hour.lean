/-! the class: an hour of a Common -/
theorem golG_y {f : Int → Int} {p k b : Int} (c : popc (und f k) < hlf f k ∧ (b = -1 ∨ far (f (1 + k)) (f (11 + p)) < far (f (1 + b)) (f (11 + p)))) : golG f p k b = k := if_pos c
theorem golG_n {f : Int → Int} {p k b : Int} (c : ¬ (popc (und f k) < hlf f k ∧ (b = -1 ∨ far (f (1 + k)) (f (11 + p)) < far (f (1 + b)) (f (11 + p))))) : golG f p k b = b := if_neg c

set_option maxHeartbeats 4000000 in
set_option maxRecDepth 20000 in
theorem kX1_countRooms (g : Gt) {h : AH} {c : Nat} {F : Nat → Int → Int} {f : Int → Int}  (hM : CM h c F) (hR : RLC F f) (hI : inv f)  : CnV g mX1_countRooms 4 [.ref c] h (QU h c (f)) := by
  refine Cn.mk (by decide +kernel) (Nat.le_of_ble_eq_true rfl) ?_
  intro x sz hx hr
  show Zj g x (sz, 0, 0) h 0 [(0, .ref c)] []
  obtain ⟨m0, m1, m2, m3, m4, m5, m6, m7, m8, m9⟩ := hM
  have hn := hI.n
  have rn := hR.n
  refine z_iconst hx dX1_countRooms_0 ?_
  refine z_istore_n hx dX1_countRooms_1 rfl (by decide) [1, 0] (lv' := [(0, .ref c), (1, .int (iI 0))]) rfl ?_
  have hL_1 : ∀ (mm : Nat) (v1 : Int) (g8 : Int → Int) (g9 : Int → Int) (h_2 : AH), (0 ≤ v1 ∧ v1 ≤ f 26) → (∀ q, 0 ≤ q → q < v1 → g8 q = hlf f q ∧ g9 q = 0) → (h_2 c = some (.inr (.inr (1, [.ref (c + 1), .ref (c + 2), .ref (c + 3), .ref (c + 4), .ref (c + 5), .ref (c + 6), .ref (c + 7), .ref (c + 8), .ref (c + 9), .int (iI (F 0 0)), .int (iI (F 0 1)), .int (iI (F 0 2)), .int (iI (F 0 3))])))) → (h_2 (c + 1) = some (.inl (0, 5, F 1))) → (h_2 (c + 2) = some (.inl (0, 5, F 2))) → (h_2 (c + 3) = some (.inl (0, 5, F 3))) → (h_2 (c + 4) = some (.inl (0, 5, F 4))) → (h_2 (c + 5) = some (.inl (0, 6, F 5))) → (h_2 (c + 6) = some (.inl (0, 6, F 6))) → (h_2 (c + 7) = some (.inl (0, 3, F 7))) → (h_2 (c + 8) = some (.inl (0, 5, g8))) → (h_2 (c + 9) = some (.inl (0, 5, g9))) → (Fr h h_2 c 10) → f 26 - v1 < (mm : Int) → Zj g x (sz, 0, 0) h_2 2 [(0, .ref c), (1, .int (iI v1))] [] := by
    intro mm
    induction mm with
    | zero => intro v1 g8 g9 h_2 kv ek hk_3 hk_4 hk_5 hk_6 hk_7 hk_8 hk_9 hk_10 hk_11 hk_12 fr_13 hm; exfalso; omega
    | succ mm ih =>
      intro v1 g8 g9 h_2 kv ek hk_3 hk_4 hk_5 hk_6 hk_7 hk_8 hk_9 hk_10 hk_11 hk_12 fr_13 hm
      have ih_14 := ih; clear ih
      refine z_iload_n hx dX1_countRooms_2 rfl 1 rfl ?_
      refine z_aload_n hx dX1_countRooms_3 rfl 0 rfl ?_
      refine z_get hx dX1_countRooms_4 fl_X1_39 hk_3 rfl ?_
      refine z_icmp_ge (tgt := 34) hx dX1_countRooms_7 (by decide) (by omega) (by omega) (fun c_15 => ?_) (fun c_15 => ?_)
      ·
        refine z_iconst hx dX1_countRooms_34 ?_
        refine z_istore_n hx dX1_countRooms_35 rfl (by decide) [1, 0] (lv' := [(0, .ref c), (1, .int (iI 0))]) rfl ?_
        have hL_16 : ∀ (mm : Nat) (w1 : Int) (gF : Nat → Int → Int) (h_17 : AH), (0 ≤ w1 ∧ w1 ≤ f 37) → (RLC gF f) → (RUn gF f w1) → (h_17 c = some (.inr (.inr (1, [.ref (c + 1), .ref (c + 2), .ref (c + 3), .ref (c + 4), .ref (c + 5), .ref (c + 6), .ref (c + 7), .ref (c + 8), .ref (c + 9), .int (iI (gF 0 0)), .int (iI (gF 0 1)), .int (iI (gF 0 2)), .int (iI (gF 0 3))])))) → (h_17 (c + 1) = some (.inl (0, 5, gF 1))) → (h_17 (c + 2) = some (.inl (0, 5, gF 2))) → (h_17 (c + 3) = some (.inl (0, 5, gF 3))) → (h_17 (c + 4) = some (.inl (0, 5, gF 4))) → (h_17 (c + 5) = some (.inl (0, 6, gF 5))) → (h_17 (c + 6) = some (.inl (0, 6, gF 6))) → (h_17 (c + 7) = some (.inl (0, 3, gF 7))) → (h_17 (c + 8) = some (.inl (0, 5, gF 8))) → (h_17 (c + 9) = some (.inl (0, 5, gF 9))) → (Fr h h_17 c 10) → f 37 - w1 < (mm : Int) → Zj g x (sz, 0, 0) h_17 36 [(0, .ref c), (1, .int (iI w1))] [] := by
          intro mm
          induction mm with
          | zero => intro w1 gF h_17 kw hrl hun hk_18 hk_19 hk_20 hk_21 hk_22 hk_23 hk_24 hk_25 hk_26 hk_27 fr_28 hm; exfalso; omega
          | succ mm ih =>
            intro w1 gF h_17 kw hrl hun hk_18 hk_19 hk_20 hk_21 hk_22 hk_23 hk_24 hk_25 hk_26 hk_27 fr_28 hm
            have ih_29 := ih; clear ih
            have rn2 := hrl.n
            refine z_iload_n hx dX1_countRooms_36 rfl 1 rfl ?_
            refine z_aload_n hx dX1_countRooms_37 rfl 0 rfl ?_
            refine z_get hx dX1_countRooms_38 fl_X1_43 hk_18 rfl ?_
            refine z_icmp_ge (tgt := 79) hx dX1_countRooms_41 (by decide) (by omega) (by omega) (fun c_30 => ?_) (fun c_30 => ?_)
            ·
              refine z_vret hx hr dX1_countRooms_79 rfl (q_v ⟨gF, ⟨hk_18, hk_19, hk_20, hk_21, hk_22, hk_23, hk_24, hk_25, hk_26, hk_27⟩, hrl, RUn_e hI (by rw [← show w1 = f 37 by omega]; exact hun), fr_28⟩)
            ·
              refine z_aload_n hx dX1_countRooms_44 rfl 0 rfl ?_
              have hp3 := hrl.p w1 (by omega)
              refine z_get hx dX1_countRooms_45 fl_X1_27 hk_18 rfl ?_
              refine z_iload_n hx dX1_countRooms_48 rfl 1 rfl ?_
              refine z_iald hx dX1_countRooms_49 hk_24 (by omega) (by decide) ?_
              have rp_31 := hrl.p w1 (by first | omega | decide)
              have ip_32 := hI.p w1 (by first | omega | decide)
              have cc_33 := cv_c (f (17 + w1))
              refine z_iconst hx dX1_countRooms_50 ?_
              refine z_aload_n hx dX1_countRooms_51 rfl 0 rfl ?_
              refine z_get hx dX1_countRooms_52 fl_X1_39 hk_18 rfl ?_
              refine z_iconst hx dX1_countRooms_55 ?_
              refine z_isub hx dX1_countRooms_56 ?_
              refine z_cSI (as := [.int (iI (gF 6 w1)), .int (iI 0), .int (iI ((gF 0 0) - 1))]) (rest := []) hx dX1_countRooms_57 lk_X1_62 wt_X8_isIn mo_X8_isIn (kX8_isIn g (a := (gF 6 w1)) (b := 0) (c := ((gF 0 0) - 1)) (by omega) (by omega) (by omega)) (by decide) rfl rfl (Nat.le_of_ble_eq_true rfl) ?_
              refine z_ifeq_b (tgt := 73) hx dX1_countRooms_60 (by decide)  (fun c_34 => ?_) (fun c_34 => ?_)
              ·
                refine z_iinc hx dX1_countRooms_73 (by decide) 1 rfl [1, 0] (lv' := [(0, .ref c), (1, .int (iI (w1 + 1)))]) rfl ?_
                refine z_goto (tgt := 36) hx dX1_countRooms_76 (by decide) ?_
                exact ih_29 _ gF _ (by omega) (by exact hrl) (by exact RUn_n hun kw.1 (fun k a b => by omega)) hk_18 hk_19 hk_20 hk_21 hk_22 hk_23 hk_24 hk_25 hk_26 hk_27 fr_28 (by omega)
              ·
                refine z_aload_n hx dX1_countRooms_63 rfl 0 rfl ?_
                refine z_aload_n hx dX1_countRooms_64 rfl 0 rfl ?_
                refine z_get hx dX1_countRooms_65 fl_X1_27 hk_18 rfl ?_
                refine z_iload_n hx dX1_countRooms_68 rfl 1 rfl ?_
                refine z_iald hx dX1_countRooms_69 hk_24 (by omega) (by decide) ?_
                have rp_35 := hrl.p w1 (by first | omega | decide)
                have ip_36 := hI.p w1 (by first | omega | decide)
                have cc_37 := cv_c (f (17 + w1))
                refine z_cVV (as := [.int (iI (gF 6 w1))]) (rest := []) hx dX1_countRooms_70 lk_X1_109 wm_X1_fill wv_X1_fill (rcv_obj hx hk_18 rfl) mo_X1_fill (kX1_fill g (F := gF) (k := (gF 6 w1)) ⟨hk_18, hk_19, hk_20, hk_21, hk_22, hk_23, hk_24, hk_25, hk_26, hk_27⟩ (show 0 ≤ (gF 6 w1) ∧ (gF 6 w1) < 5 by omega)) (by decide) rfl rfl (Nat.le_of_ble_eq_true rfl) (fun h_38 q_39 => ?_)
                obtain ⟨hC_40, hf_41⟩ := q_39
                obtain ⟨F_42, eF_42⟩ : ∃ G : Nat → Int → Int, G = sst (sst gF 8 (fup (gF 8) (gF 6 w1) (gF 8 (gF 6 w1) - 1))) 9 (fup (gF 9) (gF 6 w1) (gF 9 (gF 6 w1) + 1)) := ⟨_, rfl⟩
                rw [← eF_42] at hC_40
                obtain ⟨m_43, m_44, m_45, m_46, m_47, m_48, m_49, m_50, m_51, m_52⟩ := hC_40
                have fr_53 := fr_28.tr (hf_41.wd (by omega) (by omega))
                have hrF : RLC F_42 f := by rw [eF_42]; exact RLC_fill hrl
                have huF : RUn F_42 f (w1 + 1) := RUn_y hun kw.1 (by omega) (eF_42)
                refine z_iinc hx dX1_countRooms_73 (by decide) 1 rfl [1, 0] (lv' := [(0, .ref c), (1, .int (iI (w1 + 1)))]) rfl ?_
                refine z_goto (tgt := 36) hx dX1_countRooms_76 (by decide) ?_
                exact ih_29 _ F_42 _ (by omega) (by exact hrF) (by exact huF) m_43 m_44 m_45 m_46 m_47 m_48 m_49 m_50 m_51 m_52 fr_53 (by omega)
        exact hL_16 ((f 37 - 0) + 1 : Int).toNat _ (sst (sst F 8 g8) 9 g9) _ (by omega) (by exact RLC_fill hR) (by exact RUn_0 (fun q a b => ek q a (by omega))) hk_3 hk_4 hk_5 hk_6 hk_7 hk_8 hk_9 hk_10 hk_11 hk_12 fr_13 (by omega)
      ·
        refine z_aload_n hx dX1_countRooms_10 rfl 0 rfl ?_
        refine z_get hx dX1_countRooms_11 fl_X1_33 hk_3 rfl ?_
        refine z_iload_n hx dX1_countRooms_14 rfl 1 rfl ?_
        refine z_aload_n hx dX1_countRooms_15 rfl 0 rfl ?_
        refine z_iload_n hx dX1_countRooms_16 rfl 1 rfl ?_
        refine z_cVI (as := [.int (iI v1)]) (rest := [.int (iI v1), .ref (c + 8)]) hx dX1_countRooms_17 lk_X1_107 wm_X1_holds wv_X1_holds (rcv_obj hx hk_3 rfl) mo_X1_holds (kX1_holds g (F := (sst (sst F 8 g8) 9 g9)) (f := f) (k := v1) ⟨hk_3, hk_4, hk_5, hk_6, hk_7, hk_8, hk_9, hk_10, hk_11, hk_12⟩ (RLC_fill hR) hI (show 0 ≤ v1 ∧ v1 < f 26 by omega)) (by decide) rfl rfl (Nat.le_of_ble_eq_true rfl) ?_
        have f_54 := hlf_rg hI (k := v1) (by omega)
        refine z_iastQ hx dX1_countRooms_20 hk_11 (by omega) (by decide) (fun h_55 hs_56 hf_57 => ?_)
        have h_58 := hf_57.at (by omega) hk_3
        have h_59 := hf_57.at (by omega) hk_4
        have h_60 := hf_57.at (by omega) hk_5
        have h_61 := hf_57.at (by omega) hk_6
        have h_62 := hf_57.at (by omega) hk_7
        have h_63 := hf_57.at (by omega) hk_8
        have h_64 := hf_57.at (by omega) hk_9
        have h_65 := hf_57.at (by omega) hk_10
        have h_66 := hf_57.at (by omega) hk_12
        have fr_67 := fr_13.tr (hf_57.wd (by omega) (by omega))
        refine z_aload_n hx dX1_countRooms_21 rfl 0 rfl ?_
        refine z_get hx dX1_countRooms_22 fl_X1_36 h_58 rfl ?_
        refine z_iload_n hx dX1_countRooms_25 rfl 1 rfl ?_
        refine z_iconst hx dX1_countRooms_26 ?_
        refine z_iastQ hx dX1_countRooms_27 h_66 (by omega) (by decide) (fun h_68 hs_69 hf_70 => ?_)
        have h_71 := hf_70.at (by omega) h_58
        have h_72 := hf_70.at (by omega) h_59
        have h_73 := hf_70.at (by omega) h_60
        have h_74 := hf_70.at (by omega) h_61
        have h_75 := hf_70.at (by omega) h_62
        have h_76 := hf_70.at (by omega) h_63
        have h_77 := hf_70.at (by omega) h_64
        have h_78 := hf_70.at (by omega) h_65
        have h_79 := hf_70.at (by omega) hs_56
        have fr_80 := fr_67.tr (hf_70.wd (by omega) (by omega))
        refine z_iinc hx dX1_countRooms_28 (by decide) 1 rfl [1, 0] (lv' := [(0, .ref c), (1, .int (iI (v1 + 1)))]) rfl ?_
        refine z_goto (tgt := 2) hx dX1_countRooms_31 (by decide) ?_
        exact ih_14 _ (fup g8 v1 (hlf f v1)) (fup g9 v1 0) _ (by omega) (by intro q a b; by_cases w : q = v1; (subst w; exact ⟨fup_s _ _ _, fup_s _ _ _⟩); (rw [fup_n w, fup_n w]; exact ek q a (by omega))) h_71 h_72 h_73 h_74 h_75 h_76 h_77 h_78 h_79 hs_69 fr_80 (by omega)
  exact hL_1 ((f 26 - 0) + 1 : Int).toNat _ (F 8) (F 9) _ (by omega) (by intro q a b; omega) m0 m1 m2 m3 m4 m5 m6 m7 m8 m9 Fr.rf (by omega)

set_option maxHeartbeats 4000000 in
set_option maxRecDepth 20000 in
theorem kX1_nearestRoom (g : Gt) {h : AH} {c : Nat} {F : Nat → Int → Int} {f : Int → Int} {p : Int} {ce9 : Int} (hM : CM h c F) (hR : RLC F f) (hI : inv f) (hU : RU F f) (hp : 0 ≤ p ∧ p < f 37) (hcl : ce9 = f (11 + p)) : CnI g mX1_nearestRoom 3 [.ref c, .int (iI ce9)] h (goal f p) := by
  refine Cn.mk (by decide +kernel) (Nat.le_of_ble_eq_true rfl) ?_
  intro x sz hx hr
  show Zj g x (sz, 0, 0) h 0 [(0, .ref c), (1, .int (iI ce9))] []
  obtain ⟨m0, m1, m2, m3, m4, m5, m6, m7, m8, m9⟩ := hM
  have hn := hI.n
  have rn := hR.n
  have hp1 := hI.p p (by omega)
  refine z_iconst hx dX1_nearestRoom_0 ?_
  refine z_istore_n hx dX1_nearestRoom_1 rfl (by decide) [1, 2, 0] (lv' := [(0, .ref c), (1, .int (iI ce9)), (2, .int (iI (-1)))]) rfl ?_
  refine z_bipush hx dX1_nearestRoom_2 (by decide) ?_
  refine z_istore_n hx dX1_nearestRoom_4 rfl (by decide) [1, 2, 3, 0] (lv' := [(0, .ref c), (1, .int (iI ce9)), (2, .int (iI (-1))), (3, .int (iI 9))]) rfl ?_
  refine z_iconst hx dX1_nearestRoom_5 ?_
  refine z_istore hx dX1_nearestRoom_6 (by decide) [1, 2, 3, 4, 0] (lv' := [(0, .ref c), (1, .int (iI ce9)), (2, .int (iI (-1))), (3, .int (iI 9)), (4, .int (iI 0))]) rfl ?_
  have hL_1 : ∀ (mm : Nat) (v2 : Int) (v3 : Int) (v4 : Int), (0 ≤ v4 ∧ v4 ≤ f 26) → (v2 = itI v4 (golG f p) (-1)) → ((v2 = -1 ∧ v3 = 9) ∨ ((0 ≤ v2 ∧ v2 < v4) ∧ v3 = far (f (1 + v2)) (f (11 + p)))) → f 26 - v4 < (mm : Int) → Zj g x (sz, 0, 0) h 8 [(0, .ref c), (1, .int (iI ce9)), (2, .int (iI v2)), (3, .int (iI v3)), (4, .int (iI v4))] [] := by
    intro mm
    induction mm with
    | zero => intro v2 v3 v4 kv e2 e3 hm; exfalso; omega
    | succ mm ih =>
      intro v2 v3 v4 kv e2 e3 hm
      have ih_2 := ih; clear ih
      have hv3 : v3 ≤ 9 ∧ 0 ≤ v3 := by rcases e3 with q | q; omega; have := far_rg (a := f (1 + v2)) (b := f (11 + p)) (by have := hI.k v2 (by omega); omega) hp1.1; omega
      refine z_iload hx dX1_nearestRoom_8 4 rfl ?_
      refine z_aload_n hx dX1_nearestRoom_10 rfl 0 rfl ?_
      refine z_get hx dX1_nearestRoom_11 fl_X1_39 m0 rfl ?_
      refine z_icmp_ge (tgt := 58) hx dX1_nearestRoom_14 (by decide) (by omega) (by omega) (fun c_3 => ?_) (fun c_3 => ?_)
      ·
        refine z_iload_n hx dX1_nearestRoom_58 rfl 2 rfl ?_
        refine z_iret hx hr dX1_nearestRoom_59 rfl rfl (q_i (by rw [e2, show v4 = f 26 by omega]; rfl))
      ·
        refine z_aload_n hx dX1_nearestRoom_17 rfl 0 rfl ?_
        refine z_get hx dX1_nearestRoom_18 fl_X1_33 m0 rfl ?_
        refine z_iload hx dX1_nearestRoom_21 4 rfl ?_
        have hh8 := hlf_rg hI (k := v4) (by omega)
        have hp8 := pcu_rg hI v4
        refine z_iald hx dX1_nearestRoom_23 m8 (by omega) (by decide) ?_
        have ru_4 := hU v4 (by first | omega | decide)
        refine z_if_le (tgt := 52) hx dX1_nearestRoom_24 (by decide) (by omega) (fun c_5 => ?_) (fun c_5 => ?_)
        ·
          refine z_iinc hx dX1_nearestRoom_52 (by decide) 4 rfl [1, 2, 3, 4, 0] (lv' := [(0, .ref c), (1, .int (iI ce9)), (2, .int (iI v2)), (3, .int (iI v3)), (4, .int (iI (v4 + 1)))]) rfl ?_
          refine z_goto (tgt := 8) hx dX1_nearestRoom_55 (by decide) ?_
          exact ih_2 _ _ _ (by omega) (by rw [itI_s _ _ (by omega), ← e2]; first | rw [golG_y (by refine ⟨by omega, ?_⟩; rcases e3 with q3 | q3; (left; omega); (right; omega))] | rw [golG_n (by rintro ⟨q1, q2⟩; rcases q2 with q2 | q2 <;> omega)]) (by omega)  (by omega)
        ·
          refine z_iload_n hx dX1_nearestRoom_27 rfl 1 rfl ?_
          refine z_aload_n hx dX1_nearestRoom_28 rfl 0 rfl ?_
          refine z_get hx dX1_nearestRoom_29 fl_X1_15 m0 rfl ?_
          refine z_iload hx dX1_nearestRoom_32 4 rfl ?_
          refine z_iald hx dX1_nearestRoom_34 m2 (by omega) (by decide) ?_
          have rk_6 := hR.k v4 (by first | omega | decide)
          have ik_7 := hI.k v4 (by first | omega | decide)
          have ff := far_rg (a := ce9) (b := F 2 v4) (by omega) (by omega)
          have ef : far ce9 (F 2 v4) = far (f (1 + v4)) (f (11 + p)) := by rw [hcl, show F 2 v4 = f (1 + v4) by omega]; exact far_sym _ _
          refine z_cSI (as := [.int (iI ce9), .int (iI (F 2 v4))]) (rest := []) hx dX1_nearestRoom_35 lk_X1_85 wt_X0_far mo_X0_far (kX0_far g (a := ce9) (b := (F 2 v4)) (by omega) (by omega)) (by decide) rfl rfl (Nat.le_of_ble_eq_true rfl) ?_
          refine z_istore hx dX1_nearestRoom_38 (by decide) [1, 2, 3, 4, 5, 0] (lv' := [(0, .ref c), (1, .int (iI ce9)), (2, .int (iI v2)), (3, .int (iI v3)), (4, .int (iI v4)), (5, .int (iI (far ce9 (F 2 v4))))]) rfl ?_
          refine z_iload hx dX1_nearestRoom_40 5 rfl ?_
          refine z_iload_n hx dX1_nearestRoom_42 rfl 3 rfl ?_
          refine z_icmp_ge (tgt := 52) hx dX1_nearestRoom_43 (by decide) (by omega) (by omega) (fun c_8 => ?_) (fun c_8 => ?_)
          ·
            refine z_iinc hx dX1_nearestRoom_52 (by decide) 4 rfl [1, 2, 3, 4, 0, 5] (lv' := [(0, .ref c), (1, .int (iI ce9)), (2, .int (iI v2)), (3, .int (iI v3)), (4, .int (iI (v4 + 1))), (5, .int (iI (far ce9 (F 2 v4))))]) rfl ?_
            refine z_goto (tgt := 8) hx dX1_nearestRoom_55 (by decide) ?_
            refine z_sub [0, 1, 2, 3, 4] (lv' := [(0, .ref c), (1, .int (iI ce9)), (2, .int (iI v2)), (3, .int (iI v3)), (4, .int (iI (v4 + 1)))]) rfl ?_
            exact ih_2 _ _ _ (by omega) (by rw [itI_s _ _ (by omega), ← e2]; first | rw [golG_y (by refine ⟨by omega, ?_⟩; rcases e3 with q3 | q3; (left; omega); (right; omega))] | rw [golG_n (by rintro ⟨q1, q2⟩; rcases q2 with q2 | q2 <;> omega)]) (by omega)  (by omega)
          ·
            refine z_iload hx dX1_nearestRoom_46 4 rfl ?_
            refine z_istore_n hx dX1_nearestRoom_48 rfl (by decide) [1, 2, 0, 3, 4, 5] (lv' := [(0, .ref c), (1, .int (iI ce9)), (2, .int (iI v4)), (3, .int (iI v3)), (4, .int (iI v4)), (5, .int (iI (far ce9 (F 2 v4))))]) rfl ?_
            refine z_iload hx dX1_nearestRoom_49 5 rfl ?_
            refine z_istore_n hx dX1_nearestRoom_51 rfl (by decide) [1, 2, 3, 0, 4, 5] (lv' := [(0, .ref c), (1, .int (iI ce9)), (2, .int (iI v4)), (3, .int (iI (far ce9 (F 2 v4)))), (4, .int (iI v4)), (5, .int (iI (far ce9 (F 2 v4))))]) rfl ?_
            refine z_iinc hx dX1_nearestRoom_52 (by decide) 4 rfl [1, 2, 3, 4, 0, 5] (lv' := [(0, .ref c), (1, .int (iI ce9)), (2, .int (iI v4)), (3, .int (iI (far ce9 (F 2 v4)))), (4, .int (iI (v4 + 1))), (5, .int (iI (far ce9 (F 2 v4))))]) rfl ?_
            refine z_goto (tgt := 8) hx dX1_nearestRoom_55 (by decide) ?_
            refine z_sub [0, 1, 2, 3, 4] (lv' := [(0, .ref c), (1, .int (iI ce9)), (2, .int (iI v4)), (3, .int (iI (far ce9 (F 2 v4)))), (4, .int (iI (v4 + 1)))]) rfl ?_
            exact ih_2 _ _ _ (by omega) (by rw [itI_s _ _ (by omega), ← e2]; first | rw [golG_y (by refine ⟨by omega, ?_⟩; rcases e3 with q3 | q3; (left; omega); (right; omega))] | rw [golG_n (by rintro ⟨q1, q2⟩; rcases q2 with q2 | q2 <;> omega)]) (by omega)  (by omega)
  exact hL_1 ((f 26 - 0) + 1 : Int).toNat _ _ _ (by omega) (by rfl) (by omega)  (by omega)

set_option maxHeartbeats 4000000 in
set_option maxRecDepth 20000 in
theorem kX1_nearestFree (g : Gt) {h : AH} {c : Nat} {F : Nat → Int → Int} {f : Int → Int} {s9 : Int} {ce9 : Int} (hM : CM h c F) (hR : RLC F f) (hI : inv f) (hs9 : 0 ≤ s9 ∧ s9 < f 38) (hcl : ce9 = f (23 + s9)) : CnI g mX1_nearestFree 3 [.ref c, .int (iI ce9)] h (hbe f s9) := by
  refine Cn.mk (by decide +kernel) (Nat.le_of_ble_eq_true rfl) ?_
  intro x sz hx hr
  show Zj g x (sz, 0, 0) h 0 [(0, .ref c), (1, .int (iI ce9))] []
  obtain ⟨m0, m1, m2, m3, m4, m5, m6, m7, m8, m9⟩ := hM
  have hn := hI.n
  have rn := hR.n
  have hs1 := hI.s s9 (by omega)
  refine z_iconst hx dX1_nearestFree_0 ?_
  refine z_istore_n hx dX1_nearestFree_1 rfl (by decide) [1, 2, 0] (lv' := [(0, .ref c), (1, .int (iI ce9)), (2, .int (iI (-1)))]) rfl ?_
  refine z_bipush hx dX1_nearestFree_2 (by decide) ?_
  refine z_istore_n hx dX1_nearestFree_4 rfl (by decide) [1, 2, 3, 0] (lv' := [(0, .ref c), (1, .int (iI ce9)), (2, .int (iI (-1))), (3, .int (iI 9))]) rfl ?_
  refine z_iconst hx dX1_nearestFree_5 ?_
  refine z_istore hx dX1_nearestFree_6 (by decide) [1, 2, 3, 4, 0] (lv' := [(0, .ref c), (1, .int (iI ce9)), (2, .int (iI (-1))), (3, .int (iI 9)), (4, .int (iI 0))]) rfl ?_
  have hL_1 : ∀ (mm : Nat) (v2 : Int) (v3 : Int) (v4 : Int), (0 ≤ v4 ∧ v4 ≤ f 37) → (v2 = itI v4 (hbeG f s9) (-1)) → ((v2 = -1 ∧ v3 = 9) ∨ ((0 ≤ v2 ∧ v2 < v4) ∧ v3 = far (f (11 + v2)) (f (23 + s9)))) → f 37 - v4 < (mm : Int) → Zj g x (sz, 0, 0) h 8 [(0, .ref c), (1, .int (iI ce9)), (2, .int (iI v2)), (3, .int (iI v3)), (4, .int (iI v4))] [] := by
    intro mm
    induction mm with
    | zero => intro v2 v3 v4 kv e2 e3 hm; exfalso; omega
    | succ mm ih =>
      intro v2 v3 v4 kv e2 e3 hm
      have ih_2 := ih; clear ih
      have hv3 : v3 ≤ 9 ∧ 0 ≤ v3 := by rcases e3 with q | q; omega; have := far_rg (a := f (11 + v2)) (b := f (23 + s9)) (by have := hI.p v2 (by omega); omega) hs1; omega
      refine z_iload hx dX1_nearestFree_8 4 rfl ?_
      refine z_aload_n hx dX1_nearestFree_10 rfl 0 rfl ?_
      refine z_get hx dX1_nearestFree_11 fl_X1_43 m0 rfl ?_
      refine z_icmp_ge (tgt := 59) hx dX1_nearestFree_14 (by decide) (by omega) (by omega) (fun c_3 => ?_) (fun c_3 => ?_)
      ·
        refine z_iload_n hx dX1_nearestFree_59 rfl 2 rfl ?_
        refine z_iret hx hr dX1_nearestFree_60 rfl rfl (q_i (by rw [e2, show v4 = f 37 by omega]; rfl))
      ·
        refine z_aload_n hx dX1_nearestFree_17 rfl 0 rfl ?_
        refine z_get hx dX1_nearestFree_18 fl_X1_27 m0 rfl ?_
        refine z_iload hx dX1_nearestFree_21 4 rfl ?_
        refine z_iald hx dX1_nearestFree_23 m6 (by omega) (by decide) ?_
        have rp_4 := hR.p v4 (by first | omega | decide)
        have ip_5 := hI.p v4 (by first | omega | decide)
        have cc_6 := cv_c (f (17 + v4))
        refine z_iconst hx dX1_nearestFree_24 ?_
        refine z_icmp_ne (tgt := 53) hx dX1_nearestFree_25 (by decide) (by omega) (by decide) (fun c_7 => ?_) (fun c_7 => ?_)
        ·
          refine z_iinc hx dX1_nearestFree_53 (by decide) 4 rfl [1, 2, 3, 4, 0] (lv' := [(0, .ref c), (1, .int (iI ce9)), (2, .int (iI v2)), (3, .int (iI v3)), (4, .int (iI (v4 + 1)))]) rfl ?_
          refine z_goto (tgt := 8) hx dX1_nearestFree_56 (by decide) ?_
          exact ih_2 _ _ _ (by omega) (by rw [itI_s _ _ (by omega), ← e2]; first | rw [hbeG_y (by refine ⟨by omega, ?_⟩; rcases e3 with q3 | q3; (left; omega); (right; omega))] | rw [hbeG_n (by rintro ⟨q1, q2⟩; rcases q2 with q2 | q2 <;> omega)]) (by omega)  (by omega)
        ·
          refine z_iload_n hx dX1_nearestFree_28 rfl 1 rfl ?_
          refine z_aload_n hx dX1_nearestFree_29 rfl 0 rfl ?_
          refine z_get hx dX1_nearestFree_30 fl_X1_24 m0 rfl ?_
          refine z_iload hx dX1_nearestFree_33 4 rfl ?_
          refine z_iald hx dX1_nearestFree_35 m5 (by omega) (by decide) ?_
          have rp_8 := hR.p v4 (by first | omega | decide)
          have ip_9 := hI.p v4 (by first | omega | decide)
          have cc_10 := cv_c (f (17 + v4))
          have ff := far_rg (a := ce9) (b := F 5 v4) (by omega) (by omega)
          have ef : far ce9 (F 5 v4) = far (f (11 + v4)) (f (23 + s9)) := by rw [hcl, show F 5 v4 = f (11 + v4) by omega]; exact far_sym _ _
          refine z_cSI (as := [.int (iI ce9), .int (iI (F 5 v4))]) (rest := []) hx dX1_nearestFree_36 lk_X1_85 wt_X0_far mo_X0_far (kX0_far g (a := ce9) (b := (F 5 v4)) (by omega) (by omega)) (by decide) rfl rfl (Nat.le_of_ble_eq_true rfl) ?_
          refine z_istore hx dX1_nearestFree_39 (by decide) [1, 2, 3, 4, 5, 0] (lv' := [(0, .ref c), (1, .int (iI ce9)), (2, .int (iI v2)), (3, .int (iI v3)), (4, .int (iI v4)), (5, .int (iI (far ce9 (F 5 v4))))]) rfl ?_
          refine z_iload hx dX1_nearestFree_41 5 rfl ?_
          refine z_iload_n hx dX1_nearestFree_43 rfl 3 rfl ?_
          refine z_icmp_ge (tgt := 53) hx dX1_nearestFree_44 (by decide) (by omega) (by omega) (fun c_11 => ?_) (fun c_11 => ?_)
          ·
            refine z_iinc hx dX1_nearestFree_53 (by decide) 4 rfl [1, 2, 3, 4, 0, 5] (lv' := [(0, .ref c), (1, .int (iI ce9)), (2, .int (iI v2)), (3, .int (iI v3)), (4, .int (iI (v4 + 1))), (5, .int (iI (far ce9 (F 5 v4))))]) rfl ?_
            refine z_goto (tgt := 8) hx dX1_nearestFree_56 (by decide) ?_
            refine z_sub [0, 1, 2, 3, 4] (lv' := [(0, .ref c), (1, .int (iI ce9)), (2, .int (iI v2)), (3, .int (iI v3)), (4, .int (iI (v4 + 1)))]) rfl ?_
            exact ih_2 _ _ _ (by omega) (by rw [itI_s _ _ (by omega), ← e2]; first | rw [hbeG_y (by refine ⟨by omega, ?_⟩; rcases e3 with q3 | q3; (left; omega); (right; omega))] | rw [hbeG_n (by rintro ⟨q1, q2⟩; rcases q2 with q2 | q2 <;> omega)]) (by omega)  (by omega)
          ·
            refine z_iload hx dX1_nearestFree_47 4 rfl ?_
            refine z_istore_n hx dX1_nearestFree_49 rfl (by decide) [1, 2, 0, 3, 4, 5] (lv' := [(0, .ref c), (1, .int (iI ce9)), (2, .int (iI v4)), (3, .int (iI v3)), (4, .int (iI v4)), (5, .int (iI (far ce9 (F 5 v4))))]) rfl ?_
            refine z_iload hx dX1_nearestFree_50 5 rfl ?_
            refine z_istore_n hx dX1_nearestFree_52 rfl (by decide) [1, 2, 3, 0, 4, 5] (lv' := [(0, .ref c), (1, .int (iI ce9)), (2, .int (iI v4)), (3, .int (iI (far ce9 (F 5 v4)))), (4, .int (iI v4)), (5, .int (iI (far ce9 (F 5 v4))))]) rfl ?_
            refine z_iinc hx dX1_nearestFree_53 (by decide) 4 rfl [1, 2, 3, 4, 0, 5] (lv' := [(0, .ref c), (1, .int (iI ce9)), (2, .int (iI v4)), (3, .int (iI (far ce9 (F 5 v4)))), (4, .int (iI (v4 + 1))), (5, .int (iI (far ce9 (F 5 v4))))]) rfl ?_
            refine z_goto (tgt := 8) hx dX1_nearestFree_56 (by decide) ?_
            refine z_sub [0, 1, 2, 3, 4] (lv' := [(0, .ref c), (1, .int (iI ce9)), (2, .int (iI v4)), (3, .int (iI (far ce9 (F 5 v4)))), (4, .int (iI (v4 + 1)))]) rfl ?_
            exact ih_2 _ _ _ (by omega) (by rw [itI_s _ _ (by omega), ← e2]; first | rw [hbeG_y (by refine ⟨by omega, ?_⟩; rcases e3 with q3 | q3; (left; omega); (right; omega))] | rw [hbeG_n (by rintro ⟨q1, q2⟩; rcases q2 with q2 | q2 <;> omega)]) (by omega)  (by omega)
  exact hL_1 ((f 37 - 0) + 1 : Int).toNat _ _ _ (by omega) (by rfl) (by omega)  (by omega)

set_option maxHeartbeats 4000000 in
set_option maxRecDepth 20000 in
theorem kX1_flee (g : Gt) {h : AH} {c : Nat} {F : Nat → Int → Int} {f : Int → Int} {p : Int} {w : Int} (hM : CM h c F) (hR : RLC F f) (hI : inv f) (hU : RU F f) (hp : 0 ≤ p ∧ p < f 37) (h0 : f (17 + p) = 0) (hw : w = -1 ∨ ((0 ≤ w ∧ w ≤ 4) ∧ vld f p w)) : CnV g mX1_flee 4 [.ref c, .int (iI p), .int (iI w)] h (QU h c (fle f p w)) := by
  refine Cn.mk (by decide +kernel) (Nat.le_of_ble_eq_true rfl) ?_
  intro x sz hx hr
  show Zj g x (sz, 0, 0) h 0 [(0, .ref c), (1, .int (iI p)), (2, .int (iI w))] []
  obtain ⟨m0, m1, m2, m3, m4, m5, m6, m7, m8, m9⟩ := hM
  have hn := hI.n
  have rn := hR.n
  have hwr : -1 ≤ w ∧ w ≤ 4 := by rcases hw with q | q; omega; exact ⟨by omega, q.1.2⟩
  refine z_aload_n hx dX1_flee_0 rfl 0 rfl ?_
  refine z_get hx dX1_flee_1 fl_X1_24 m0 rfl ?_
  refine z_iload_n hx dX1_flee_4 rfl 1 rfl ?_
  refine z_iald hx dX1_flee_5 m5 (by omega) (by decide) ?_
  have rp_1 := hR.p p (by first | omega | decide)
  have ip_2 := hI.p p (by first | omega | decide)
  have cc_3 := cv_c (f (17 + p))
  refine z_istore_n hx dX1_flee_6 rfl (by decide) [1, 2, 3, 0] (lv' := [(0, .ref c), (1, .int (iI p)), (2, .int (iI w)), (3, .int (iI (F 5 p)))]) rfl ?_
  refine z_iload_n hx dX1_flee_7 rfl 2 rfl ?_
  refine z_if_lt (tgt := 42) hx dX1_flee_8 (by decide) (by omega) (fun c_4 => ?_) (fun c_4 => ?_)
  ·
    refine z_aload_n hx dX1_flee_42 rfl 0 rfl ?_
    refine z_iload_n hx dX1_flee_43 rfl 3 rfl ?_
    refine z_cVI (as := [.int (iI (F 5 p))]) (rest := []) hx dX1_flee_44 lk_X1_115 wm_X1_nearestRoom wv_X1_nearestRoom (rcv_obj hx m0 rfl) mo_X1_nearestRoom (kX1_nearestRoom g (F := F) (f := f) (p := p) (ce9 := (F 5 p)) ⟨m0, m1, m2, m3, m4, m5, m6, m7, m8, m9⟩ hR hI hU (show 0 ≤ p ∧ p < f 37 by omega) (show (F 5 p) = f (11 + p) by omega)) (by decide) rfl rfl (Nat.le_of_ble_eq_true rfl) ?_
    have f_5 := gol_rg (f := f) (p := p) (n := f 26) (by have := (hI).n; omega)
    have f_6 : goal f p = itI (f 26) (golG f p) (-1) := rfl
    refine z_istore hx dX1_flee_47 (by decide) [1, 2, 3, 4, 0] (lv' := [(0, .ref c), (1, .int (iI p)), (2, .int (iI w)), (3, .int (iI (F 5 p))), (4, .int (iI (goal f p)))]) rfl ?_
    refine z_iload hx dX1_flee_49 4 rfl ?_
    refine z_iconst hx dX1_flee_51 ?_
    refine z_icmp_ne (tgt := 56) hx dX1_flee_52 (by decide) (by omega) (by decide) (fun c_7 => ?_) (fun c_7 => ?_)
    ·
      refine z_aload_n hx dX1_flee_56 rfl 0 rfl ?_
      refine z_get hx dX1_flee_57 fl_X1_15 m0 rfl ?_
      refine z_iload hx dX1_flee_60 4 rfl ?_
      refine z_iald hx dX1_flee_62 m2 (by omega) (by decide) ?_
      have rk_8 := hR.k (goal f p) (by first | omega | decide)
      have ik_9 := hI.k (goal f p) (by first | omega | decide)
      refine z_iload_n hx dX1_flee_63 rfl 3 rfl ?_
      refine z_icmp_ne (tgt := 84) hx dX1_flee_64 (by decide) (by omega) (by omega) (fun c_10 => ?_) (fun c_10 => ?_)
      ·
        refine z_iload_n hx dX1_flee_84 rfl 2 rfl ?_
        refine z_iconst hx dX1_flee_85 ?_
        refine z_icmp_eq (tgt := 106) hx dX1_flee_86 (by decide) (by omega) (by decide) (fun c_11 => ?_) (fun c_11 => ?_)
        ·
          have eb : fle f p w = f := by unfold fle; rw [if_neg (by omega)]; unfold cho; rw [if_pos (by omega), if_neg (fun z => absurd z.2 (by omega))]
          refine z_vret hx hr dX1_flee_106 rfl (q_v ⟨F, ⟨m0, m1, m2, m3, m4, m5, m6, m7, m8, m9⟩, (by rw [eb]; exact hR), (by rw [eb]; exact hU), Fr.rf⟩)
        ·
          refine z_aload_n hx dX1_flee_89 rfl 0 rfl ?_
          refine z_get hx dX1_flee_90 fl_X1_24 m0 rfl ?_
          refine z_iload_n hx dX1_flee_93 rfl 1 rfl ?_
          refine z_iload_n hx dX1_flee_94 rfl 3 rfl ?_
          refine z_aload_n hx dX1_flee_95 rfl 0 rfl ?_
          refine z_get hx dX1_flee_96 fl_X1_15 m0 rfl ?_
          refine z_iload hx dX1_flee_99 4 rfl ?_
          refine z_iald hx dX1_flee_101 m2 (by omega) (by decide) ?_
          have rk_12 := hR.k (goal f p) (by first | omega | decide)
          have ik_13 := hI.k (goal f p) (by first | omega | decide)
          refine z_cSI (as := [.int (iI (F 5 p)), .int (iI (F 2 (goal f p)))]) (rest := [.int (iI p), .ref (c + 5)]) hx dX1_flee_102 lk_X1_118 wt_X0_step mo_X0_step (kX0_step g (a := (F 5 p)) (b := (F 2 (goal f p))) (by omega) (by omega)) (by decide) rfl rfl (Nat.le_of_ble_eq_true rfl) ?_
          have eb : fle f p w = fup f (11 + p) (stp (F 5 p) (F 2 (goal f p))) := by unfold fle; rw [if_pos (by omega)]; unfold goes; rw [if_neg (by omega), if_neg (by omega), show F 5 p = f (11 + p) by omega, show F 2 (goal f p) = f (1 + goal f p) by omega]
          refine z_iastQ hx dX1_flee_105 m5 (by omega) (by decide) (fun h_14 hs_15 hf_16 => ?_)
          have h_17 := hf_16.at (by omega) m0
          have h_18 := hf_16.at (by omega) m1
          have h_19 := hf_16.at (by omega) m2
          have h_20 := hf_16.at (by omega) m3
          have h_21 := hf_16.at (by omega) m4
          have h_22 := hf_16.at (by omega) m6
          have h_23 := hf_16.at (by omega) m7
          have h_24 := hf_16.at (by omega) m8
          have h_25 := hf_16.at (by omega) m9
          have fr_26 : Fr h h_14 c 10 := hf_16.wd (by omega) (by omega)
          refine z_vret hx hr dX1_flee_106 rfl (q_v ⟨(sst F 5 (fup (F 5) p (stp (F 5 p) (F 2 (goal f p))))), ⟨h_17, h_18, h_19, h_20, h_21, hs_15, h_22, h_23, h_24, h_25⟩, (by rw [eb]; exact RLC_ce hR hn hp), (by rw [eb]; exact RU_ce hU (by omega) (by omega)), fr_26⟩)
      ·
        refine z_aload_n hx dX1_flee_67 rfl 0 rfl ?_
        refine z_get hx dX1_flee_68 fl_X1_27 m0 rfl ?_
        refine z_iload_n hx dX1_flee_71 rfl 1 rfl ?_
        refine z_iload hx dX1_flee_72 4 rfl ?_
        refine z_iastQ hx dX1_flee_74 m6 (by omega) (by decide) (fun h_27 hs_28 hf_29 => ?_)
        have h_30 := hf_29.at (by omega) m0
        have h_31 := hf_29.at (by omega) m1
        have h_32 := hf_29.at (by omega) m2
        have h_33 := hf_29.at (by omega) m3
        have h_34 := hf_29.at (by omega) m4
        have h_35 := hf_29.at (by omega) m5
        have h_36 := hf_29.at (by omega) m7
        have h_37 := hf_29.at (by omega) m8
        have h_38 := hf_29.at (by omega) m9
        have fr_39 : Fr h h_27 c 10 := hf_29.wd (by omega) (by omega)
        refine z_aload_n hx dX1_flee_75 rfl 0 rfl ?_
        refine z_iload hx dX1_flee_76 4 rfl ?_
        refine z_cVV (as := [.int (iI (goal f p))]) (rest := []) hx dX1_flee_78 lk_X1_109 wm_X1_fill wv_X1_fill (rcv_obj hx h_30 rfl) mo_X1_fill (kX1_fill g (F := (sst F 6 (fup (F 6) p (goal f p)))) (k := (goal f p)) ⟨h_30, h_31, h_32, h_33, h_34, h_35, hs_28, h_36, h_37, h_38⟩ (show 0 ≤ (goal f p) ∧ (goal f p) < 5 by omega)) (by decide) rfl rfl (Nat.le_of_ble_eq_true rfl) (fun h_40 q_41 => ?_)
        obtain ⟨hC_42, hf_43⟩ := q_41
        obtain ⟨F_44, eF_44⟩ : ∃ G : Nat → Int → Int, G = sst (sst (sst F 6 (fup (F 6) p (goal f p))) 8 (fup ((sst F 6 (fup (F 6) p (goal f p))) 8) (goal f p) ((sst F 6 (fup (F 6) p (goal f p))) 8 (goal f p) - 1))) 9 (fup ((sst F 6 (fup (F 6) p (goal f p))) 9) (goal f p) ((sst F 6 (fup (F 6) p (goal f p))) 9 (goal f p) + 1)) := ⟨_, rfl⟩
        rw [← eF_44] at hC_42
        obtain ⟨m_45, m_46, m_47, m_48, m_49, m_50, m_51, m_52, m_53, m_54⟩ := hC_42
        have fr_55 := fr_39.tr (hf_43.wd (by omega) (by omega))
        have eb : fle f p w = fup f (17 + p) (1 + goal f p) := by unfold fle; by_cases q : w = -1; (rw [if_pos q]; unfold goes; rw [if_neg (by omega), if_pos (by omega)]); (rw [if_neg q]; unfold cho; rw [if_pos (by omega), if_pos ⟨by omega, by omega⟩])
        refine z_goto (tgt := 106) hx dX1_flee_81 (by decide) ?_
        refine z_vret hx hr dX1_flee_106 rfl (q_v ⟨F_44, ⟨m_45, m_46, m_47, m_48, m_49, m_50, m_51, m_52, m_53, m_54⟩, (by rw [eb, eF_44]; exact RLC_fill (RLC_st hR hn hp (by unfold cv; rw [if_neg (by omega)]; omega))), (by rw [eb, eF_44]; exact RU_add hU hI hp h0 (by omega)), fr_55⟩)
    ·
      have eb : fle f p w = f := by unfold fle; by_cases q : w = -1; (rw [if_pos q]; unfold goes; rw [if_pos (by omega)]); (rw [if_neg q]; unfold cho; rw [if_pos (by omega), if_neg (fun z => z.1 (by omega))])
      refine z_vret hx hr dX1_flee_55 rfl (q_v ⟨F, ⟨m0, m1, m2, m3, m4, m5, m6, m7, m8, m9⟩, (by rw [eb]; exact hR), (by rw [eb]; exact hU), Fr.rf⟩)
  ·
    refine z_iload_n hx dX1_flee_11 rfl 2 rfl ?_
    refine z_iconst hx dX1_flee_12 ?_
    refine z_icmp_ge (tgt := 42) hx dX1_flee_13 (by decide) (by omega) (by decide) (fun c_56 => ?_) (fun c_56 => ?_)
    ·
      refine z_aload_n hx dX1_flee_42 rfl 0 rfl ?_
      refine z_iload_n hx dX1_flee_43 rfl 3 rfl ?_
      refine z_cVI (as := [.int (iI (F 5 p))]) (rest := []) hx dX1_flee_44 lk_X1_115 wm_X1_nearestRoom wv_X1_nearestRoom (rcv_obj hx m0 rfl) mo_X1_nearestRoom (kX1_nearestRoom g (F := F) (f := f) (p := p) (ce9 := (F 5 p)) ⟨m0, m1, m2, m3, m4, m5, m6, m7, m8, m9⟩ hR hI hU (show 0 ≤ p ∧ p < f 37 by omega) (show (F 5 p) = f (11 + p) by omega)) (by decide) rfl rfl (Nat.le_of_ble_eq_true rfl) ?_
      have f_57 := gol_rg (f := f) (p := p) (n := f 26) (by have := (hI).n; omega)
      have f_58 : goal f p = itI (f 26) (golG f p) (-1) := rfl
      refine z_istore hx dX1_flee_47 (by decide) [1, 2, 3, 4, 0] (lv' := [(0, .ref c), (1, .int (iI p)), (2, .int (iI w)), (3, .int (iI (F 5 p))), (4, .int (iI (goal f p)))]) rfl ?_
      refine z_iload hx dX1_flee_49 4 rfl ?_
      refine z_iconst hx dX1_flee_51 ?_
      refine z_icmp_ne (tgt := 56) hx dX1_flee_52 (by decide) (by omega) (by decide) (fun c_59 => ?_) (fun c_59 => ?_)
      ·
        refine z_aload_n hx dX1_flee_56 rfl 0 rfl ?_
        refine z_get hx dX1_flee_57 fl_X1_15 m0 rfl ?_
        refine z_iload hx dX1_flee_60 4 rfl ?_
        refine z_iald hx dX1_flee_62 m2 (by omega) (by decide) ?_
        have rk_60 := hR.k (goal f p) (by first | omega | decide)
        have ik_61 := hI.k (goal f p) (by first | omega | decide)
        refine z_iload_n hx dX1_flee_63 rfl 3 rfl ?_
        refine z_icmp_ne (tgt := 84) hx dX1_flee_64 (by decide) (by omega) (by omega) (fun c_62 => ?_) (fun c_62 => ?_)
        ·
          refine z_iload_n hx dX1_flee_84 rfl 2 rfl ?_
          refine z_iconst hx dX1_flee_85 ?_
          refine z_icmp_eq (tgt := 106) hx dX1_flee_86 (by decide) (by omega) (by decide) (fun c_63 => ?_) (fun c_63 => ?_)
          ·
            have eb : fle f p w = f := by unfold fle; rw [if_neg (by omega)]; unfold cho; rw [if_pos (by omega), if_neg (fun z => absurd z.2 (by omega))]
            refine z_vret hx hr dX1_flee_106 rfl (q_v ⟨F, ⟨m0, m1, m2, m3, m4, m5, m6, m7, m8, m9⟩, (by rw [eb]; exact hR), (by rw [eb]; exact hU), Fr.rf⟩)
          ·
            refine z_aload_n hx dX1_flee_89 rfl 0 rfl ?_
            refine z_get hx dX1_flee_90 fl_X1_24 m0 rfl ?_
            refine z_iload_n hx dX1_flee_93 rfl 1 rfl ?_
            refine z_iload_n hx dX1_flee_94 rfl 3 rfl ?_
            refine z_aload_n hx dX1_flee_95 rfl 0 rfl ?_
            refine z_get hx dX1_flee_96 fl_X1_15 m0 rfl ?_
            refine z_iload hx dX1_flee_99 4 rfl ?_
            refine z_iald hx dX1_flee_101 m2 (by omega) (by decide) ?_
            have rk_64 := hR.k (goal f p) (by first | omega | decide)
            have ik_65 := hI.k (goal f p) (by first | omega | decide)
            refine z_cSI (as := [.int (iI (F 5 p)), .int (iI (F 2 (goal f p)))]) (rest := [.int (iI p), .ref (c + 5)]) hx dX1_flee_102 lk_X1_118 wt_X0_step mo_X0_step (kX0_step g (a := (F 5 p)) (b := (F 2 (goal f p))) (by omega) (by omega)) (by decide) rfl rfl (Nat.le_of_ble_eq_true rfl) ?_
            have eb : fle f p w = fup f (11 + p) (stp (F 5 p) (F 2 (goal f p))) := by unfold fle; rw [if_pos (by omega)]; unfold goes; rw [if_neg (by omega), if_neg (by omega), show F 5 p = f (11 + p) by omega, show F 2 (goal f p) = f (1 + goal f p) by omega]
            refine z_iastQ hx dX1_flee_105 m5 (by omega) (by decide) (fun h_66 hs_67 hf_68 => ?_)
            have h_69 := hf_68.at (by omega) m0
            have h_70 := hf_68.at (by omega) m1
            have h_71 := hf_68.at (by omega) m2
            have h_72 := hf_68.at (by omega) m3
            have h_73 := hf_68.at (by omega) m4
            have h_74 := hf_68.at (by omega) m6
            have h_75 := hf_68.at (by omega) m7
            have h_76 := hf_68.at (by omega) m8
            have h_77 := hf_68.at (by omega) m9
            have fr_78 : Fr h h_66 c 10 := hf_68.wd (by omega) (by omega)
            refine z_vret hx hr dX1_flee_106 rfl (q_v ⟨(sst F 5 (fup (F 5) p (stp (F 5 p) (F 2 (goal f p))))), ⟨h_69, h_70, h_71, h_72, h_73, hs_67, h_74, h_75, h_76, h_77⟩, (by rw [eb]; exact RLC_ce hR hn hp), (by rw [eb]; exact RU_ce hU (by omega) (by omega)), fr_78⟩)
        ·
          refine z_aload_n hx dX1_flee_67 rfl 0 rfl ?_
          refine z_get hx dX1_flee_68 fl_X1_27 m0 rfl ?_
          refine z_iload_n hx dX1_flee_71 rfl 1 rfl ?_
          refine z_iload hx dX1_flee_72 4 rfl ?_
          refine z_iastQ hx dX1_flee_74 m6 (by omega) (by decide) (fun h_79 hs_80 hf_81 => ?_)
          have h_82 := hf_81.at (by omega) m0
          have h_83 := hf_81.at (by omega) m1
          have h_84 := hf_81.at (by omega) m2
          have h_85 := hf_81.at (by omega) m3
          have h_86 := hf_81.at (by omega) m4
          have h_87 := hf_81.at (by omega) m5
          have h_88 := hf_81.at (by omega) m7
          have h_89 := hf_81.at (by omega) m8
          have h_90 := hf_81.at (by omega) m9
          have fr_91 : Fr h h_79 c 10 := hf_81.wd (by omega) (by omega)
          refine z_aload_n hx dX1_flee_75 rfl 0 rfl ?_
          refine z_iload hx dX1_flee_76 4 rfl ?_
          refine z_cVV (as := [.int (iI (goal f p))]) (rest := []) hx dX1_flee_78 lk_X1_109 wm_X1_fill wv_X1_fill (rcv_obj hx h_82 rfl) mo_X1_fill (kX1_fill g (F := (sst F 6 (fup (F 6) p (goal f p)))) (k := (goal f p)) ⟨h_82, h_83, h_84, h_85, h_86, h_87, hs_80, h_88, h_89, h_90⟩ (show 0 ≤ (goal f p) ∧ (goal f p) < 5 by omega)) (by decide) rfl rfl (Nat.le_of_ble_eq_true rfl) (fun h_92 q_93 => ?_)
          obtain ⟨hC_94, hf_95⟩ := q_93
          obtain ⟨F_96, eF_96⟩ : ∃ G : Nat → Int → Int, G = sst (sst (sst F 6 (fup (F 6) p (goal f p))) 8 (fup ((sst F 6 (fup (F 6) p (goal f p))) 8) (goal f p) ((sst F 6 (fup (F 6) p (goal f p))) 8 (goal f p) - 1))) 9 (fup ((sst F 6 (fup (F 6) p (goal f p))) 9) (goal f p) ((sst F 6 (fup (F 6) p (goal f p))) 9 (goal f p) + 1)) := ⟨_, rfl⟩
          rw [← eF_96] at hC_94
          obtain ⟨m_97, m_98, m_99, m_100, m_101, m_102, m_103, m_104, m_105, m_106⟩ := hC_94
          have fr_107 := fr_91.tr (hf_95.wd (by omega) (by omega))
          have eb : fle f p w = fup f (17 + p) (1 + goal f p) := by unfold fle; by_cases q : w = -1; (rw [if_pos q]; unfold goes; rw [if_neg (by omega), if_pos (by omega)]); (rw [if_neg q]; unfold cho; rw [if_pos (by omega), if_pos ⟨by omega, by omega⟩])
          refine z_goto (tgt := 106) hx dX1_flee_81 (by decide) ?_
          refine z_vret hx hr dX1_flee_106 rfl (q_v ⟨F_96, ⟨m_97, m_98, m_99, m_100, m_101, m_102, m_103, m_104, m_105, m_106⟩, (by rw [eb, eF_96]; exact RLC_fill (RLC_st hR hn hp (by unfold cv; rw [if_neg (by omega)]; omega))), (by rw [eb, eF_96]; exact RU_add hU hI hp h0 (by omega)), fr_107⟩)
      ·
        have eb : fle f p w = f := by unfold fle; by_cases q : w = -1; (rw [if_pos q]; unfold goes; rw [if_pos (by omega)]); (rw [if_neg q]; unfold cho; rw [if_pos (by omega), if_neg (fun z => z.1 (by omega))])
        refine z_vret hx hr dX1_flee_55 rfl (q_v ⟨F, ⟨m0, m1, m2, m3, m4, m5, m6, m7, m8, m9⟩, (by rw [eb]; exact hR), (by rw [eb]; exact hU), Fr.rf⟩)
    ·
      refine z_iload_n hx dX1_flee_16 rfl 3 rfl ?_
      refine z_iload_n hx dX1_flee_17 rfl 2 rfl ?_
      refine z_cSI (as := [.int (iI (F 5 p)), .int (iI w)]) (rest := []) hx dX1_flee_18 lk_X1_112 wt_X0_beside mo_X0_beside (kX0_beside g (a := (F 5 p)) (b := w) (by omega) (by omega)) (by decide) rfl rfl (Nat.le_of_ble_eq_true rfl) ?_
      have hb9 : bsd (F 5 p) w ≠ -1 := by rcases hw with q | q; omega; rw [show F 5 p = f (11 + p) by omega]; exact q.2
      have hbr := bsd_rg (c := F 5 p) (w := w) (by omega) hb9
      refine z_istore hx dX1_flee_21 (by decide) [1, 2, 3, 4, 0] (lv' := [(0, .ref c), (1, .int (iI p)), (2, .int (iI w)), (3, .int (iI (F 5 p))), (4, .int (iI (bsd (F 5 p) w)))]) rfl ?_
      refine z_aload_n hx dX1_flee_23 rfl 0 rfl ?_
      refine z_get hx dX1_flee_24 fl_X1_24 m0 rfl ?_
      refine z_iload_n hx dX1_flee_27 rfl 1 rfl ?_
      refine z_iload hx dX1_flee_28 4 rfl ?_
      refine z_iconst hx dX1_flee_30 ?_
      refine z_icmp_ne (tgt := 38) hx dX1_flee_31 (by decide) (by omega) (by decide) (fun c_108 => ?_) (fun c_108 => by exfalso; omega)
      refine z_iload hx dX1_flee_38 4 rfl ?_
      refine z_iastQ hx dX1_flee_40 m5 (by omega) (by decide) (fun h_109 hs_110 hf_111 => ?_)
      have h_112 := hf_111.at (by omega) m0
      have h_113 := hf_111.at (by omega) m1
      have h_114 := hf_111.at (by omega) m2
      have h_115 := hf_111.at (by omega) m3
      have h_116 := hf_111.at (by omega) m4
      have h_117 := hf_111.at (by omega) m6
      have h_118 := hf_111.at (by omega) m7
      have h_119 := hf_111.at (by omega) m8
      have h_120 := hf_111.at (by omega) m9
      have fr_121 : Fr h h_109 c 10 := hf_111.wd (by omega) (by omega)
      have eb : fle f p w = fup f (11 + p) (bsd (F 5 p) w) := by unfold fle cho; rw [if_neg (by omega), if_neg (by omega), show F 5 p = f (11 + p) by omega]
      refine z_vret hx hr dX1_flee_41 rfl (q_v ⟨(sst F 5 (fup (F 5) p (bsd (F 5 p) w))), ⟨h_112, h_113, h_114, h_115, h_116, hs_110, h_117, h_118, h_119, h_120⟩, (by rw [eb]; exact RLC_ce hR hn hp), (by rw [eb]; exact RU_ce hU (by omega) (by omega)), fr_121⟩)

