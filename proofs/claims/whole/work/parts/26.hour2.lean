/-! the class: chase, wear, the hour -/
theorem inv_hrW {f : Int → Int} (h : inv f) {r w : Int} (hw : r = -1 ∨ ((0 ≤ r ∧ r < f 37) ∧ f (17 + r) = 0 ∧ (0 ≤ w ∧ w ≤ 4) ∧ vld f r w)) : inv (hrW f r w) ∧ cfx f (hrW f r w) := by
  rcases hw with q | ⟨q1, q2, q3, q4⟩
  · rw [hrW_go (by omega)]; exact inv_goBy h
  · have e := (inv_gob h q1 w).1
    rw [hrW_gob h.n.2.1.2 q1 q2 q4] at e
    exact e
def fhtG (f : Int → Int) (p : Int) : Int → Int → Int := fun k m => if 0 < hlf f k then mnI m (far (f (11 + p)) (f (1 + k))) else m
def fht (f : Int → Int) (p : Int) : Int := itI (f 26) (fhtG f p) 9 + 1
theorem fht_rg {f : Int → Int} (hI : inv f) {p n : Int} (hp : 0 ≤ p ∧ p < 6) (hn : 0 ≤ n ∧ n ≤ 5) : 0 ≤ itI n (fhtG f p) 9 ∧ itI n (fhtG f p) 9 ≤ 9 :=
  itI_ind (fun _ m => 0 ≤ m ∧ m ≤ 9) _ _ hn.1 (by decide) (fun k m a b e => by
    have := far_rg (hI.p p hp).1 (hI.k k (by omega)).1
    have := mn_c m (far (f (11 + p)) (f (1 + k)))
    unfold fhtG; split <;> omega)

set_option maxHeartbeats 4000000 in
set_option maxRecDepth 20000 in
theorem kX1_chase (g : Gt) {h : AH} {c : Nat} {F : Nat → Int → Int} {f : Int → Int} {s9 : Int} (hM : CM h c F) (hR : RLC F f) (hI : inv f) (hU : RU F f) (hs9 : 0 ≤ s9 ∧ s9 < f 38) : CnV g mX1_chase 4 [.ref c, .int (iI s9)] h (QU h c (hunts f s9)) := by
  refine Cn.mk (by decide +kernel) (Nat.le_of_ble_eq_true rfl) ?_
  intro x sz hx hr
  show Zj g x (sz, 0, 0) h 0 [(0, .ref c), (1, .int (iI s9))] []
  obtain ⟨m0, m1, m2, m3, m4, m5, m6, m7, m8, m9⟩ := hM
  have hn := hI.n
  have rn := hR.n
  refine z_aload_n hx dX1_chase_0 rfl 0 rfl ?_
  refine z_aload_n hx dX1_chase_1 rfl 0 rfl ?_
  refine z_get hx dX1_chase_2 fl_X1_30 m0 rfl ?_
  refine z_iload_n hx dX1_chase_5 rfl 1 rfl ?_
  refine z_iald hx dX1_chase_6 m7 (by omega) (by decide) ?_
  have rs_1 := hR.s s9 (by first | omega | decide)
  have is_2 := hI.s s9 (by first | omega | decide)
  refine z_cVI (as := [.int (iI (F 7 s9))]) (rest := []) hx dX1_chase_7 lk_X1_121 wm_X1_nearestFree wv_X1_nearestFree (rcv_obj hx m0 rfl) mo_X1_nearestFree (kX1_nearestFree g (F := F) (f := f) (s9 := s9) (ce9 := (F 7 s9)) ⟨m0, m1, m2, m3, m4, m5, m6, m7, m8, m9⟩ hR hI  (show 0 ≤ s9 ∧ s9 < f 38 by omega) (show (F 7 s9) = f (23 + s9) by omega)) (by decide) rfl rfl (Nat.le_of_ble_eq_true rfl) ?_
  have f_3 := hbe_rg (f := f) (s := s9) (n := f 37) (by have := (hI).n; omega)
  have f_4 : hbe f s9 = itI (f 37) (hbeG f s9) (-1) := rfl
  refine z_istore_n hx dX1_chase_10 rfl (by decide) [1, 2, 0] (lv' := [(0, .ref c), (1, .int (iI s9)), (2, .int (iI (hbe f s9)))]) rfl ?_
  refine z_iload_n hx dX1_chase_11 rfl 2 rfl ?_
  refine z_iconst hx dX1_chase_12 ?_
  refine z_icmp_ne (tgt := 17) hx dX1_chase_13 (by decide) (by omega) (by decide) (fun c_5 => ?_) (fun c_5 => ?_)
  ·
    refine z_aload_n hx dX1_chase_17 rfl 0 rfl ?_
    refine z_get hx dX1_chase_18 fl_X1_30 m0 rfl ?_
    refine z_iload_n hx dX1_chase_21 rfl 1 rfl ?_
    refine z_iald hx dX1_chase_22 m7 (by omega) (by decide) ?_
    have rs_6 := hR.s s9 (by first | omega | decide)
    have is_7 := hI.s s9 (by first | omega | decide)
    refine z_aload_n hx dX1_chase_23 rfl 0 rfl ?_
    refine z_get hx dX1_chase_24 fl_X1_24 m0 rfl ?_
    refine z_iload_n hx dX1_chase_27 rfl 2 rfl ?_
    refine z_iald hx dX1_chase_28 m5 (by omega) (by decide) ?_
    have rp_8 := hR.p (hbe f s9) (by first | omega | decide)
    have ip_9 := hI.p (hbe f s9) (by first | omega | decide)
    have cc_10 := cv_c (f (17 + (hbe f s9)))
    have est : stp (F 7 s9) (F 5 (hbe f s9)) = stp (f (23 + s9)) (f (11 + hbe f s9)) := by rw [show F 7 s9 = f (23 + s9) by omega, show F 5 (hbe f s9) = f (11 + hbe f s9) by omega]
    have hst := stp_rg (a := F 7 s9) (b := F 5 (hbe f s9)) (by omega) (by omega)
    refine z_cSI (as := [.int (iI (F 7 s9)), .int (iI (F 5 (hbe f s9)))]) (rest := []) hx dX1_chase_29 lk_X1_118 wt_X0_step mo_X0_step (kX0_step g (a := (F 7 s9)) (b := (F 5 (hbe f s9))) (by omega) (by omega)) (by decide) rfl rfl (Nat.le_of_ble_eq_true rfl) ?_
    refine z_istore_n hx dX1_chase_32 rfl (by decide) [1, 2, 3, 0] (lv' := [(0, .ref c), (1, .int (iI s9)), (2, .int (iI (hbe f s9))), (3, .int (iI (stp (F 7 s9) (F 5 (hbe f s9)))))]) rfl ?_
    refine z_aload_n hx dX1_chase_33 rfl 0 rfl ?_
    refine z_get hx dX1_chase_34 fl_X1_30 m0 rfl ?_
    refine z_iload_n hx dX1_chase_37 rfl 1 rfl ?_
    refine z_iload_n hx dX1_chase_38 rfl 3 rfl ?_
    refine z_iastQ hx dX1_chase_39 m7 (by omega) (by decide) (fun h_11 hs_12 hf_13 => ?_)
    have h_14 := hf_13.at (by omega) m0
    have h_15 := hf_13.at (by omega) m1
    have h_16 := hf_13.at (by omega) m2
    have h_17 := hf_13.at (by omega) m3
    have h_18 := hf_13.at (by omega) m4
    have h_19 := hf_13.at (by omega) m5
    have h_20 := hf_13.at (by omega) m6
    have h_21 := hf_13.at (by omega) m8
    have h_22 := hf_13.at (by omega) m9
    have fr_23 : Fr h h_11 c 10 := hf_13.wd (by omega) (by omega)
    obtain ⟨gh, egh⟩ : ∃ G : Int → Int, G = hun1 f s9 := ⟨_, rfl⟩
    have hrl0 : RLC (sst F 7 (fup (F 7) s9 (stp (F 7 s9) (F 5 (hbe f s9))))) gh := by rw [egh]; unfold hun1; rw [if_neg (by omega), ← est]; exact RLC_sh hR hn hs9
    have igh := inv_hun1 hI (s := s9) (by omega)
    rw [← egh] at igh
    have c23 : gh (23 + s9) = stp (F 7 s9) (F 5 (hbe f s9)) := by rw [egh]; unfold hun1; rw [if_neg (by omega), fup_s, est]
    have d37 := igh.2 37 (by decide)
    refine z_iconst hx dX1_chase_40 ?_
    refine z_istore hx dX1_chase_41 (by decide) [1, 2, 3, 4, 0] (lv' := [(0, .ref c), (1, .int (iI s9)), (2, .int (iI (hbe f s9))), (3, .int (iI (stp (F 7 s9) (F 5 (hbe f s9))))), (4, .int (iI 0))]) rfl ?_
    have hL_24 : ∀ (mm : Nat) (v4 : Int) (gF : Nat → Int → Int) (gf : Int → Int) (h_25 : AH), (0 ≤ v4 ∧ v4 ≤ f 37) → (RLC gF gf) → (gf = itI v4 (takG s9) (hun1 f s9)) → (inv gf ∧ cfx gh gf) → (gf (23 + s9) = stp (F 7 s9) (F 5 (hbe f s9))) → (gF 8 = F 8 ∧ gF 9 = F 9) → (h_25 c = some (.inr (.inr (1, [.ref (c + 1), .ref (c + 2), .ref (c + 3), .ref (c + 4), .ref (c + 5), .ref (c + 6), .ref (c + 7), .ref (c + 8), .ref (c + 9), .int (iI (gF 0 0)), .int (iI (gF 0 1)), .int (iI (gF 0 2)), .int (iI (gF 0 3))])))) → (h_25 (c + 1) = some (.inl (0, 5, gF 1))) → (h_25 (c + 2) = some (.inl (0, 5, gF 2))) → (h_25 (c + 3) = some (.inl (0, 5, gF 3))) → (h_25 (c + 4) = some (.inl (0, 5, gF 4))) → (h_25 (c + 5) = some (.inl (0, 6, gF 5))) → (h_25 (c + 6) = some (.inl (0, 6, gF 6))) → (h_25 (c + 7) = some (.inl (0, 3, gF 7))) → (h_25 (c + 8) = some (.inl (0, 5, gF 8))) → (h_25 (c + 9) = some (.inl (0, 5, gF 9))) → (Fr h h_25 c 10) → f 37 - v4 < (mm : Int) → Zj g x (sz, 0, 0) h_25 43 [(0, .ref c), (1, .int (iI s9)), (2, .int (iI (hbe f s9))), (3, .int (iI (stp (F 7 s9) (F 5 (hbe f s9))))), (4, .int (iI v4))] [] := by
      intro mm
      induction mm with
      | zero => intro v4 gF gf h_25 kv hrl eg ig e23 e8 hk_26 hk_27 hk_28 hk_29 hk_30 hk_31 hk_32 hk_33 hk_34 hk_35 fr_36 hm; exfalso; omega
      | succ mm ih =>
        intro v4 gF gf h_25 kv hrl eg ig e23 e8 hk_26 hk_27 hk_28 hk_29 hk_30 hk_31 hk_32 hk_33 hk_34 hk_35 fr_36 hm
        have ih_37 := ih; clear ih
        have c37 := ig.2 37 (by decide)
        have rn2 := hrl.n
        have is2 := ig.1.s s9 (by omega)
        refine z_iload hx dX1_chase_43 4 rfl ?_
        refine z_aload_n hx dX1_chase_45 rfl 0 rfl ?_
        refine z_get hx dX1_chase_46 fl_X1_43 hk_26 rfl ?_
        refine z_icmp_ge (tgt := 89) hx dX1_chase_49 (by decide) (by omega) (by omega) (fun c_38 => ?_) (fun c_38 => ?_)
        ·
          refine z_vret hx hr dX1_chase_89 rfl (q_v ⟨gF, ⟨hk_26, hk_27, hk_28, hk_29, hk_30, hk_31, hk_32, hk_33, hk_34, hk_35⟩, (by rw [show hunts f s9 = gf by rw [eg, show v4 = f 37 by omega]; rfl]; exact hrl), (RU_kp hU (by omega) (kp_hunts hn.2.1 (by omega)) e8.1 e8.2), fr_36⟩)
        ·
          refine z_aload_n hx dX1_chase_52 rfl 0 rfl ?_
          refine z_get hx dX1_chase_53 fl_X1_27 hk_26 rfl ?_
          refine z_iload hx dX1_chase_56 4 rfl ?_
          refine z_iald hx dX1_chase_58 hk_32 (by omega) (by decide) ?_
          have rp_39 := hrl.p v4 (by first | omega | decide)
          have ip_40 := ig.1.p v4 (by first | omega | decide)
          have cc_41 := cv_c (gf (17 + v4))
          refine z_iconst hx dX1_chase_59 ?_
          refine z_icmp_ne (tgt := 83) hx dX1_chase_60 (by decide) (by omega) (by decide) (fun c_42 => ?_) (fun c_42 => ?_)
          ·
            refine z_iinc hx dX1_chase_83 (by decide) 4 rfl [1, 2, 3, 4, 0] (lv' := [(0, .ref c), (1, .int (iI s9)), (2, .int (iI (hbe f s9))), (3, .int (iI (stp (F 7 s9) (F 5 (hbe f s9))))), (4, .int (iI (v4 + 1)))]) rfl ?_
            refine z_goto (tgt := 43) hx dX1_chase_86 (by decide) ?_
            have ec : takG s9 v4 gf = gf := tak_n (by omega)
            exact ih_37 _ gF gf _ (by omega) (by exact hrl) (by rw [itI_s _ _ (by omega), ← eg, ec]) (by have it := inv_tak ig.1 (p := v4) (s := s9) (by omega); rw [ec] at it; exact ⟨it.1, ig.2.tr it.2⟩) (by first | exact e23 | (rw [fup_n (by omega)]; exact e23)) (by exact e8) hk_26 hk_27 hk_28 hk_29 hk_30 hk_31 hk_32 hk_33 hk_34 hk_35 fr_36 (by omega)
          ·
            refine z_aload_n hx dX1_chase_63 rfl 0 rfl ?_
            refine z_get hx dX1_chase_64 fl_X1_24 hk_26 rfl ?_
            refine z_iload hx dX1_chase_67 4 rfl ?_
            refine z_iald hx dX1_chase_69 hk_31 (by omega) (by decide) ?_
            have rp_43 := hrl.p v4 (by first | omega | decide)
            have ip_44 := ig.1.p v4 (by first | omega | decide)
            have cc_45 := cv_c (gf (17 + v4))
            refine z_iload_n hx dX1_chase_70 rfl 3 rfl ?_
            refine z_icmp_ne (tgt := 83) hx dX1_chase_71 (by decide) (by omega) (by omega) (fun c_46 => ?_) (fun c_46 => ?_)
            ·
              refine z_iinc hx dX1_chase_83 (by decide) 4 rfl [1, 2, 3, 4, 0] (lv' := [(0, .ref c), (1, .int (iI s9)), (2, .int (iI (hbe f s9))), (3, .int (iI (stp (F 7 s9) (F 5 (hbe f s9))))), (4, .int (iI (v4 + 1)))]) rfl ?_
              refine z_goto (tgt := 43) hx dX1_chase_86 (by decide) ?_
              have ec : takG s9 v4 gf = gf := tak_n (by omega)
              exact ih_37 _ gF gf _ (by omega) (by exact hrl) (by rw [itI_s _ _ (by omega), ← eg, ec]) (by have it := inv_tak ig.1 (p := v4) (s := s9) (by omega); rw [ec] at it; exact ⟨it.1, ig.2.tr it.2⟩) (by first | exact e23 | (rw [fup_n (by omega)]; exact e23)) (by exact e8) hk_26 hk_27 hk_28 hk_29 hk_30 hk_31 hk_32 hk_33 hk_34 hk_35 fr_36 (by omega)
            ·
              refine z_aload_n hx dX1_chase_74 rfl 0 rfl ?_
              refine z_get hx dX1_chase_75 fl_X1_27 hk_26 rfl ?_
              refine z_iload hx dX1_chase_78 4 rfl ?_
              refine z_bipush hx dX1_chase_80 (by decide) ?_
              refine z_iastQ hx dX1_chase_82 hk_32 (by omega) (by decide) (fun h_47 hs_48 hf_49 => ?_)
              have h_50 := hf_49.at (by omega) hk_26
              have h_51 := hf_49.at (by omega) hk_27
              have h_52 := hf_49.at (by omega) hk_28
              have h_53 := hf_49.at (by omega) hk_29
              have h_54 := hf_49.at (by omega) hk_30
              have h_55 := hf_49.at (by omega) hk_31
              have h_56 := hf_49.at (by omega) hk_33
              have h_57 := hf_49.at (by omega) hk_34
              have h_58 := hf_49.at (by omega) hk_35
              have fr_59 := fr_36.tr (hf_49.wd (by omega) (by omega))
              refine z_iinc hx dX1_chase_83 (by decide) 4 rfl [1, 2, 3, 4, 0] (lv' := [(0, .ref c), (1, .int (iI s9)), (2, .int (iI (hbe f s9))), (3, .int (iI (stp (F 7 s9) (F 5 (hbe f s9))))), (4, .int (iI (v4 + 1)))]) rfl ?_
              refine z_goto (tgt := 43) hx dX1_chase_86 (by decide) ?_
              have ec : takG s9 v4 gf = fup gf (17 + v4) 6 := tak_y (by omega) (by omega)
              have hrT : RLC (sst gF 6 (fup (gF 6) v4 (-2))) (fup gf (17 + v4) 6) := RLC_st hrl ig.1.n (by omega) (by decide)
              exact ih_37 _ (sst gF 6 (fup (gF 6) v4 (-2))) (fup gf (17 + v4) 6) _ (by omega) (by exact hrT) (by rw [itI_s _ _ (by omega), ← eg, ec]) (by have it := inv_tak ig.1 (p := v4) (s := s9) (by omega); rw [ec] at it; exact ⟨it.1, ig.2.tr it.2⟩) (by first | exact e23 | (rw [fup_n (by omega)]; exact e23)) (by exact e8) h_50 h_51 h_52 h_53 h_54 h_55 hs_48 h_56 h_57 h_58 fr_59 (by omega)
    exact hL_24 ((f 37 - 0) + 1 : Int).toNat _ (sst F 7 (fup (F 7) s9 (stp (F 7 s9) (F 5 (hbe f s9))))) gh _ (by omega) (by exact hrl0) (by rw [itI_0 _ _ rfl]; exact egh) (by exact ⟨igh.1, cfx.rf⟩) (by exact c23) (by exact ⟨rfl, rfl⟩) h_14 h_15 h_16 h_17 h_18 h_19 h_20 hs_12 h_21 h_22 fr_23 (by omega)
  ·
    refine z_vret hx hr dX1_chase_16 rfl (q_v ⟨F, ⟨m0, m1, m2, m3, m4, m5, m6, m7, m8, m9⟩, (by rw [hunts_none hn.2.1.1 (by omega)]; exact hR), (by rw [hunts_none hn.2.1.1 (by omega)]; exact hU), Fr.rf⟩)

set_option maxHeartbeats 4000000 in
set_option maxRecDepth 20000 in
theorem kX1_wearOut (g : Gt) {h : AH} {c : Nat} {F : Nat → Int → Int} {f : Int → Int} {k : Int} (hM : CM h c F) (hR : RLC F f) (hI : inv f) (hU : RV F f k) (hk : 0 ≤ k ∧ k < f 26) : CnV g mX1_wearOut 4 [.ref c, .int (iI k)] h (QV h c (wears f k) (k + 1)) := by
  refine Cn.mk (by decide +kernel) (Nat.le_of_ble_eq_true rfl) ?_
  intro x sz hx hr
  show Zj g x (sz, 0, 0) h 0 [(0, .ref c), (1, .int (iI k))] []
  obtain ⟨m0, m1, m2, m3, m4, m5, m6, m7, m8, m9⟩ := hM
  have hn := hI.n
  have rn := hR.n
  have hpc := pcu_rg hI k
  have hw9 := wby_rg (k := f (27 + k)) hpc
  refine z_aload_n hx dX1_wearOut_0 rfl 0 rfl ?_
  refine z_get hx dX1_wearOut_1 fl_X1_36 m0 rfl ?_
  refine z_iload_n hx dX1_wearOut_4 rfl 1 rfl ?_
  refine z_iald hx dX1_wearOut_5 m9 (by omega) (by decide) ?_
  have ru_1 := hU k (by first | omega | decide)
  refine z_istore_n hx dX1_wearOut_6 rfl (by decide) [1, 2, 0] (lv' := [(0, .ref c), (1, .int (iI k)), (2, .int (iI (F 9 k)))]) rfl ?_
  refine z_aload_n hx dX1_wearOut_7 rfl 0 rfl ?_
  refine z_get hx dX1_wearOut_8 fl_X1_21 m0 rfl ?_
  refine z_iload_n hx dX1_wearOut_11 rfl 1 rfl ?_
  refine z_bipush hx dX1_wearOut_12 (by decide) ?_
  refine z_aload_n hx dX1_wearOut_14 rfl 0 rfl ?_
  refine z_get hx dX1_wearOut_15 fl_X1_21 m0 rfl ?_
  refine z_iload_n hx dX1_wearOut_18 rfl 1 rfl ?_
  refine z_iald hx dX1_wearOut_19 m4 (by omega) (by decide) ?_
  have rk_2 := hR.k k (by first | omega | decide)
  have ik_3 := hI.k k (by first | omega | decide)
  refine z_aload_n hx dX1_wearOut_20 rfl 0 rfl ?_
  refine z_get hx dX1_wearOut_21 fl_X1_9 m0 rfl ?_
  refine z_iload_n hx dX1_wearOut_24 rfl 1 rfl ?_
  refine z_iald hx dX1_wearOut_25 m1 (by omega) (by decide) ?_
  have rk_4 := hR.k k (by first | omega | decide)
  have ik_5 := hI.k k (by first | omega | decide)
  refine z_iload_n hx dX1_wearOut_26 rfl 2 rfl ?_
  refine z_cSI (as := [.int (iI (F 1 k)), .int (iI (F 9 k))]) (rest := [.int (iI (F 4 k)), .int (iI 40), .int (iI k), .ref (c + 4)]) hx dX1_wearOut_27 lk_X1_124 wt_X4_wearsInAnHour mo_X4_wearsInAnHour (kX4_wearsInAnHour g (k := (F 1 k)) (n := (F 9 k)) (by omega) (by omega)) (by decide) rfl rfl (Nat.le_of_ble_eq_true rfl) ?_
  have ewb : wby (F 1 k) (F 9 k) = wby (f (27 + k)) (popc (und f k)) := by rw [show F 1 k = f (27 + k) by omega, show F 9 k = popc (und f k) by omega]
  refine z_iadd hx dX1_wearOut_30 ?_
  refine z_mmin hx dX1_wearOut_31 wk_X1_127 (by decide) (by omega) (by decide) (Nat.le_of_ble_eq_true rfl) ?_
  have f_6 := mn_c 40 ((F 4 k) + (wby (F 1 k) (F 9 k)))
  refine z_iastQ hx dX1_wearOut_34 m4 (by omega) (by decide) (fun h_7 hs_8 hf_9 => ?_)
  have h_10 := hf_9.at (by omega) m0
  have h_11 := hf_9.at (by omega) m1
  have h_12 := hf_9.at (by omega) m2
  have h_13 := hf_9.at (by omega) m3
  have h_14 := hf_9.at (by omega) m5
  have h_15 := hf_9.at (by omega) m6
  have h_16 := hf_9.at (by omega) m7
  have h_17 := hf_9.at (by omega) m8
  have h_18 := hf_9.at (by omega) m9
  have fr_19 : Fr h h_7 c 10 := hf_9.wd (by omega) (by omega)
  have ev : wer1 f k = fup f (6 + k) (mnI 40 (F 4 k + wby (F 1 k) (F 9 k))) := by unfold wer1 mnI; rw [ewb, show F 4 k = f (6 + k) by omega]; congr 1; (repeat' split) <;> omega
  obtain ⟨gw, egw⟩ : ∃ G : Int → Int, G = wer1 f k := ⟨_, rfl⟩
  have hrw : RLC (sst F 4 (fup (F 4) k (mnI 40 ((F 4 k) + (wby (F 1 k) (F 9 k)))))) gw := by rw [egw, ev]; exact RLC_we hR hn hk
  have hvw : RV (sst F 4 (fup (F 4) k (mnI 40 ((F 4 k) + (wby (F 1 k) (F 9 k)))))) gw k := by rw [egw, ev]; exact RV_wer1 hU hk (by omega)
  have igw := inv_wer1 hI hk
  rw [← egw] at igw
  have euw : und gw k = und f k := by rw [egw]; unfold wer1; exact und_ext (fup_n (by omega)) (fun q _ _ => by rw [fup_n (by omega)])
  have w26 := igw.2 26 (by decide)
  have w37 := igw.2 37 (by decide)
  refine z_aload_n hx dX1_wearOut_35 rfl 0 rfl ?_
  refine z_iload_n hx dX1_wearOut_36 rfl 1 rfl ?_
  refine z_cVI (as := [.int (iI k)]) (rest := []) hx dX1_wearOut_37 lk_X1_107 wm_X1_holds wv_X1_holds (rcv_obj hx h_10 rfl) mo_X1_holds (kX1_holds g (F := (sst F 4 (fup (F 4) k (mnI 40 ((F 4 k) + (wby (F 1 k) (F 9 k))))))) (f := gw) (k := k) ⟨h_10, h_11, h_12, h_13, hs_8, h_14, h_15, h_16, h_17, h_18⟩ hrw igw.1 (show 0 ≤ k ∧ k < gw 26 by omega)) (by decide) rfl rfl (Nat.le_of_ble_eq_true rfl) ?_
  have f_20 := hlf_rg igw.1 (k := k) (by omega)
  refine z_istore_n hx dX1_wearOut_40 rfl (by decide) [1, 2, 3, 0] (lv' := [(0, .ref c), (1, .int (iI k)), (2, .int (iI (F 9 k))), (3, .int (iI (hlf gw k)))]) rfl ?_
  refine z_aload_n hx dX1_wearOut_41 rfl 0 rfl ?_
  refine z_get hx dX1_wearOut_42 fl_X1_43 h_10 rfl ?_
  refine z_iconst hx dX1_wearOut_45 ?_
  refine z_isub hx dX1_wearOut_46 ?_
  refine z_istore hx dX1_wearOut_47 (by decide) [1, 2, 3, 4, 0] (lv' := [(0, .ref c), (1, .int (iI k)), (2, .int (iI (F 9 k))), (3, .int (iI (hlf gw k))), (4, .int (iI ((F 0 1) - 1)))]) rfl ?_
  have hL_21 : ∀ (mm : Nat) (v2 : Int) (v4 : Int) (gF : Nat → Int → Int) (gf : Int → Int) (h_22 : AH), (-1 ≤ v4 ∧ v4 < f 37) → (RLC gF gf) → (RV gF gf (k + 1)) → (v2 = popc (und gf k)) → (hlf gf k = hlf gw k) → (dnI (v4 + 1) (werG k) gf = wears f k) → (inv gf ∧ cfx gw gf) → (h_22 c = some (.inr (.inr (1, [.ref (c + 1), .ref (c + 2), .ref (c + 3), .ref (c + 4), .ref (c + 5), .ref (c + 6), .ref (c + 7), .ref (c + 8), .ref (c + 9), .int (iI (gF 0 0)), .int (iI (gF 0 1)), .int (iI (gF 0 2)), .int (iI (gF 0 3))])))) → (h_22 (c + 1) = some (.inl (0, 5, gF 1))) → (h_22 (c + 2) = some (.inl (0, 5, gF 2))) → (h_22 (c + 3) = some (.inl (0, 5, gF 3))) → (h_22 (c + 4) = some (.inl (0, 5, gF 4))) → (h_22 (c + 5) = some (.inl (0, 6, gF 5))) → (h_22 (c + 6) = some (.inl (0, 6, gF 6))) → (h_22 (c + 7) = some (.inl (0, 3, gF 7))) → (h_22 (c + 8) = some (.inl (0, 5, gF 8))) → (h_22 (c + 9) = some (.inl (0, 5, gF 9))) → (Fr h h_22 c 10) → v4 + 1 < (mm : Int) → Zj g x (sz, 0, 0) h_22 49 [(0, .ref c), (1, .int (iI k)), (2, .int (iI v2)), (3, .int (iI (hlf gw k))), (4, .int (iI v4))] [] := by
    intro mm
    induction mm with
    | zero => intro v2 v4 gF gf h_22 kv hrl hvl eu eh eg ig hk_23 hk_24 hk_25 hk_26 hk_27 hk_28 hk_29 hk_30 hk_31 hk_32 fr_33 hm; exfalso; omega
    | succ mm ih =>
      intro v2 v4 gF gf h_22 kv hrl hvl eu eh eg ig hk_23 hk_24 hk_25 hk_26 hk_27 hk_28 hk_29 hk_30 hk_31 hk_32 fr_33 hm
      have ih_34 := ih; clear ih
      have c26 := ig.2 26 (by decide)
      have c37 := ig.2 37 (by decide)
      have hlr := hlf_rg igw.1 (k := k) (by omega)
      have hpr := pcu_rg ig.1 k
      have rn2 := hrl.n
      have rk2 := hrl.k k (by omega)
      have ik2 := ig.1.k k (by omega)
      refine z_iload hx dX1_wearOut_49 4 rfl ?_
      refine z_if_lt (tgt := 91) hx dX1_wearOut_51 (by decide) (by omega) (fun c_35 => ?_) (fun c_35 => ?_)
      ·
        have eW : wears f k = gf := by rw [← eg]; first | exact dnI_0 _ _ (by omega) | exact wer_stop (by omega) _
        refine z_vret hx hr dX1_wearOut_91 rfl (q_v ⟨gF, ⟨hk_23, hk_24, hk_25, hk_26, hk_27, hk_28, hk_29, hk_30, hk_31, hk_32⟩, (by rw [eW]; exact hrl), (by rw [eW]; exact hvl), fr_33⟩)
      ·
        refine z_iload_n hx dX1_wearOut_54 rfl 2 rfl ?_
        refine z_iload_n hx dX1_wearOut_55 rfl 3 rfl ?_
        refine z_icmp_le (tgt := 91) hx dX1_wearOut_56 (by decide) (by omega) (by omega) (fun c_36 => ?_) (fun c_36 => ?_)
        ·
          have eW : wears f k = gf := by rw [← eg]; first | exact dnI_0 _ _ (by omega) | exact wer_stop (by omega) _
          refine z_vret hx hr dX1_wearOut_91 rfl (q_v ⟨gF, ⟨hk_23, hk_24, hk_25, hk_26, hk_27, hk_28, hk_29, hk_30, hk_31, hk_32⟩, (by rw [eW]; exact hrl), (by rw [eW]; exact hvl), fr_33⟩)
        ·
          refine z_aload_n hx dX1_wearOut_59 rfl 0 rfl ?_
          refine z_get hx dX1_wearOut_60 fl_X1_27 hk_23 rfl ?_
          refine z_iload hx dX1_wearOut_63 4 rfl ?_
          refine z_iald hx dX1_wearOut_65 hk_29 (by omega) (by decide) ?_
          have rp_37 := hrl.p v4 (by first | omega | decide)
          have ip_38 := ig.1.p v4 (by first | omega | decide)
          have cc_39 := cv_c (gf (17 + v4))
          refine z_iload_n hx dX1_wearOut_66 rfl 1 rfl ?_
          refine z_icmp_ne (tgt := 85) hx dX1_wearOut_67 (by decide) (by omega) (by omega) (fun c_40 => ?_) (fun c_40 => ?_)
          ·
            refine z_iinc hx dX1_wearOut_85 (by decide) 4 rfl [1, 2, 3, 4, 0] (lv' := [(0, .ref c), (1, .int (iI k)), (2, .int (iI v2)), (3, .int (iI (hlf gw k))), (4, .int (iI (v4 + (-1))))]) rfl ?_
            refine z_goto (tgt := 49) hx dX1_wearOut_88 (by decide) ?_
            have ec : werG k v4 gf = gf := werG_n (by omega)
            exact ih_34 _ _ gF gf _ (by omega) (by exact hrl) (by exact hvl) (by first | exact eu | (rw [euT]; omega)) (by first | exact eh | (rw [hlf_ext (f := gf) (fup_n (by omega)) (fup_n (by omega)) (fup_n (by omega))]; exact eh)) (by rw [show v4 + (-1) + 1 = v4 by omega, ← ec, ← dnI_s _ _ (by omega)]; exact eg) (by have it := inv_werG ig.1 (p := v4) (k := k) (by omega); rw [ec] at it; exact ⟨it.1, ig.2.tr it.2⟩) hk_23 hk_24 hk_25 hk_26 hk_27 hk_28 hk_29 hk_30 hk_31 hk_32 fr_33 (by omega)
          ·
            refine z_aload_n hx dX1_wearOut_70 rfl 0 rfl ?_
            refine z_iload hx dX1_wearOut_71 4 rfl ?_
            refine z_aload_n hx dX1_wearOut_73 rfl 0 rfl ?_
            refine z_get hx dX1_wearOut_74 fl_X1_15 hk_23 rfl ?_
            refine z_iload_n hx dX1_wearOut_77 rfl 1 rfl ?_
            refine z_iald hx dX1_wearOut_78 hk_25 (by omega) (by decide) ?_
            have rk_41 := hrl.k k (by first | omega | decide)
            have ik_42 := ig.1.k k (by first | omega | decide)
            refine z_cVV (as := [.int (iI v4), .int (iI (gF 2 k))]) (rest := []) hx dX1_wearOut_79 lk_X1_58 wm_X1_setFree wv_X1_setFree (rcv_obj hx hk_23 rfl) mo_X1_setFree (kX1_setFree g (F := gF) (p := v4) (cell := (gF 2 k)) ⟨hk_23, hk_24, hk_25, hk_26, hk_27, hk_28, hk_29, hk_30, hk_31, hk_32⟩ (show 0 ≤ v4 ∧ v4 < 6 by omega) (show rgI (gF 2 k) by omega)) (by decide) rfl rfl (Nat.le_of_ble_eq_true rfl) (fun h_43 q_44 => ?_)
            obtain ⟨hC_45, hf_46⟩ := q_44
            obtain ⟨F_47, eF_47⟩ : ∃ G : Nat → Int → Int, G = sst (sst gF 5 (fup (gF 5) v4 (gF 2 k))) 6 (fup (gF 6) v4 (-1)) := ⟨_, rfl⟩
            rw [← eF_47] at hC_45
            obtain ⟨m_48, m_49, m_50, m_51, m_52, m_53, m_54, m_55, m_56, m_57⟩ := hC_45
            have fr_58 := fr_33.tr (hf_46.wd (by omega) (by omega))
            have hcc : gf (11 + v4) = gf (1 + k) := by have q := (ig.1.p v4 (by omega)).2.2.2 (by omega) (by omega); rw [q.2]; congr 1; omega
            have hrT : RLC F_47 (fup gf (17 + v4) 0) := by rw [eF_47]; exact RLC_free hrl ig.1.n (by omega) (by omega)
            have hvT : RV F_47 (fup gf (17 + v4) 0) (k + 1) := by rw [eF_47]; exact RV_free hvl (by omega) (by omega) (by omega) (by omega)
            have euT : popc (und (fup gf (17 + v4) 0) k) = v2 - 1 := by rw [pcu_sub ig.1.n.2.1 (by omega) (by omega) (by omega)]; omega
            have ec : werG k v4 gf = fup gf (17 + v4) 0 := werG_y (by omega) (by omega)
            refine z_iinc hx dX1_wearOut_82 (by decide) 2 rfl [1, 2, 0, 3, 4] (lv' := [(0, .ref c), (1, .int (iI k)), (2, .int (iI (v2 + (-1)))), (3, .int (iI (hlf gw k))), (4, .int (iI v4))]) rfl ?_
            refine z_iinc hx dX1_wearOut_85 (by decide) 4 rfl [1, 2, 3, 4, 0] (lv' := [(0, .ref c), (1, .int (iI k)), (2, .int (iI (v2 + (-1)))), (3, .int (iI (hlf gw k))), (4, .int (iI (v4 + (-1))))]) rfl ?_
            refine z_goto (tgt := 49) hx dX1_wearOut_88 (by decide) ?_
            exact ih_34 _ _ F_47 (fup gf (17 + v4) 0) _ (by omega) (by exact hrT) (by exact hvT) (by first | exact eu | (rw [euT]; omega)) (by first | exact eh | (rw [hlf_ext (f := gf) (fup_n (by omega)) (fup_n (by omega)) (fup_n (by omega))]; exact eh)) (by rw [show v4 + (-1) + 1 = v4 by omega, ← ec, ← dnI_s _ _ (by omega)]; exact eg) (by have it := inv_werG ig.1 (p := v4) (k := k) (by omega); rw [ec] at it; exact ⟨it.1, ig.2.tr it.2⟩) m_48 m_49 m_50 m_51 m_52 m_53 m_54 m_55 m_56 m_57 fr_58 (by omega)
  exact hL_21 ((((F 0 1) - 1) + 1) + 1 : Int).toNat _ _ (sst F 4 (fup (F 4) k (mnI 40 ((F 4 k) + (wby (F 1 k) (F 9 k)))))) gw _ (by omega) (by exact hrw) (by exact hvw.lt (by omega)) (by rw [euw]; omega) (by rfl) (by rw [show F 0 1 - 1 + 1 = f 37 by omega, egw]; rfl) (by exact ⟨igw.1, cfx.rf⟩) h_10 h_11 h_12 h_13 hs_8 h_14 h_15 h_16 h_17 h_18 fr_19 (by omega)

set_option maxHeartbeats 4000000 in
set_option maxRecDepth 20000 in
theorem kX1_passHourWith (g : Gt) {h : AH} {c : Nat} {F : Nat → Int → Int} {f : Int → Int} {r : Int} {w : Int} (hM : CM h c F) (hR : RLC F f) (hI : inv f) (hrw : r = -1 ∨ ((0 ≤ r ∧ r < f 37) ∧ f (17 + r) = 0 ∧ (0 ≤ w ∧ w ≤ 4) ∧ vld f r w)) (gr9 : rgI r) : CnV g mX1_passHourWith 6 [.ref c, .int (iI r), .int (iI w)] h (QR h c (hrW f r w)) := by
  refine Cn.mk (by decide +kernel) (Nat.le_of_ble_eq_true rfl) ?_
  intro x sz hx hr
  show Zj g x (sz, 0, 0) h 0 [(0, .ref c), (1, .int (iI r)), (2, .int (iI w))] []
  obtain ⟨m0, m1, m2, m3, m4, m5, m6, m7, m8, m9⟩ := hM
  have hn := hI.n
  have rn := hR.n
  have hw4 : r = -1 ∨ 0 ≤ w := by rcases hrw with q | q; exact Or.inl q; exact Or.inr q.2.2.1.1
  refine z_aload_n hx dX1_passHourWith_0 rfl 0 rfl ?_
  refine z_cVV (as := []) (rest := []) hx dX1_passHourWith_1 lk_X1_94 wm_X1_countRooms wv_X1_countRooms (rcv_obj hx m0 rfl) mo_X1_countRooms (kX1_countRooms g (F := F) (f := f)  ⟨m0, m1, m2, m3, m4, m5, m6, m7, m8, m9⟩ hR hI  ) (by decide) rfl rfl (Nat.le_of_ble_eq_true rfl) (fun h_1 q_2 => ?_)
  obtain ⟨F_5, hC_3, hR_6, hU_7, hf_4⟩ := q_2
  obtain ⟨m_8, m_9, m_10, m_11, m_12, m_13, m_14, m_15, m_16, m_17⟩ := hC_3
  have fr_18 : Fr h h_1 c 10 := hf_4.wd (by omega) (by omega)
  refine z_iconst hx dX1_passHourWith_4 ?_
  refine z_istore_n hx dX1_passHourWith_5 rfl (by decide) [1, 2, 3, 0] (lv' := [(0, .ref c), (1, .int (iI r)), (2, .int (iI w)), (3, .int (iI 0))]) rfl ?_
  have hL_19 : ∀ (mm : Nat) (v3 : Int) (gF : Nat → Int → Int) (gf : Int → Int) (h_20 : AH), (0 ≤ v3 ∧ v3 ≤ f 37) → (RLC gF gf) → (RU gF gf) → (gf = itI v3 (fleG r w) f) → (inv gf ∧ cfx f gf) → (v3 ≤ r → gf (17 + r) = f (17 + r) ∧ gf (11 + r) = f (11 + r)) → (h_20 c = some (.inr (.inr (1, [.ref (c + 1), .ref (c + 2), .ref (c + 3), .ref (c + 4), .ref (c + 5), .ref (c + 6), .ref (c + 7), .ref (c + 8), .ref (c + 9), .int (iI (gF 0 0)), .int (iI (gF 0 1)), .int (iI (gF 0 2)), .int (iI (gF 0 3))])))) → (h_20 (c + 1) = some (.inl (0, 5, gF 1))) → (h_20 (c + 2) = some (.inl (0, 5, gF 2))) → (h_20 (c + 3) = some (.inl (0, 5, gF 3))) → (h_20 (c + 4) = some (.inl (0, 5, gF 4))) → (h_20 (c + 5) = some (.inl (0, 6, gF 5))) → (h_20 (c + 6) = some (.inl (0, 6, gF 6))) → (h_20 (c + 7) = some (.inl (0, 3, gF 7))) → (h_20 (c + 8) = some (.inl (0, 5, gF 8))) → (h_20 (c + 9) = some (.inl (0, 5, gF 9))) → (Fr h h_20 c 10) → f 37 - v3 < (mm : Int) → Zj g x (sz, 0, 0) h_20 6 [(0, .ref c), (1, .int (iI r)), (2, .int (iI w)), (3, .int (iI v3))] [] := by
    intro mm
    induction mm with
    | zero => intro v3 gF gf h_20 kv hrl hul eg ig ev hk_21 hk_22 hk_23 hk_24 hk_25 hk_26 hk_27 hk_28 hk_29 hk_30 fr_31 hm; exfalso; omega
    | succ mm ih =>
      intro v3 gF gf h_20 kv hrl hul eg ig ev hk_21 hk_22 hk_23 hk_24 hk_25 hk_26 hk_27 hk_28 hk_29 hk_30 fr_31 hm
      have ih_32 := ih; clear ih
      have c37 := ig.2 37 (by decide)
      have rn2 := hrl.n
      refine z_iload_n hx dX1_passHourWith_6 rfl 3 rfl ?_
      refine z_aload_n hx dX1_passHourWith_7 rfl 0 rfl ?_
      refine z_get hx dX1_passHourWith_8 fl_X1_43 hk_21 rfl ?_
      refine z_icmp_ge (tgt := 45) hx dX1_passHourWith_11 (by decide) (by omega) (by omega) (fun c_33 => ?_) (fun c_33 => ?_)
      ·
        have eg0 : gf = itI (f 37) (fleG r w) f := by rw [eg, show v3 = f 37 by omega]
        have d26 := ig.2 26 (by decide)
        have e38 := ig.2 38 (by decide)
        refine z_iconst hx dX1_passHourWith_45 ?_
        refine z_istore_n hx dX1_passHourWith_46 rfl (by decide) [1, 2, 3, 0] (lv' := [(0, .ref c), (1, .int (iI r)), (2, .int (iI w)), (3, .int (iI 0))]) rfl ?_
        have hL_34 : ∀ (mm : Nat) (w3 : Int) (gF2 : Nat → Int → Int) (gf2 : Int → Int) (h_35 : AH), (0 ≤ w3 ∧ w3 ≤ f 38) → (RLC gF2 gf2) → (RU gF2 gf2) → (gf2 = itI w3 huG gf) → (inv gf2 ∧ cfx gf gf2) → (h_35 c = some (.inr (.inr (1, [.ref (c + 1), .ref (c + 2), .ref (c + 3), .ref (c + 4), .ref (c + 5), .ref (c + 6), .ref (c + 7), .ref (c + 8), .ref (c + 9), .int (iI (gF2 0 0)), .int (iI (gF2 0 1)), .int (iI (gF2 0 2)), .int (iI (gF2 0 3))])))) → (h_35 (c + 1) = some (.inl (0, 5, gF2 1))) → (h_35 (c + 2) = some (.inl (0, 5, gF2 2))) → (h_35 (c + 3) = some (.inl (0, 5, gF2 3))) → (h_35 (c + 4) = some (.inl (0, 5, gF2 4))) → (h_35 (c + 5) = some (.inl (0, 6, gF2 5))) → (h_35 (c + 6) = some (.inl (0, 6, gF2 6))) → (h_35 (c + 7) = some (.inl (0, 3, gF2 7))) → (h_35 (c + 8) = some (.inl (0, 5, gF2 8))) → (h_35 (c + 9) = some (.inl (0, 5, gF2 9))) → (Fr h h_35 c 10) → f 38 - w3 < (mm : Int) → Zj g x (sz, 0, 0) h_35 47 [(0, .ref c), (1, .int (iI r)), (2, .int (iI w)), (3, .int (iI w3))] [] := by
          intro mm
          induction mm with
          | zero => intro w3 gF2 gf2 h_35 kw hrl2 hul2 eg2 ig2 hk_36 hk_37 hk_38 hk_39 hk_40 hk_41 hk_42 hk_43 hk_44 hk_45 fr_46 hm; exfalso; omega
          | succ mm ih =>
            intro w3 gF2 gf2 h_35 kw hrl2 hul2 eg2 ig2 hk_36 hk_37 hk_38 hk_39 hk_40 hk_41 hk_42 hk_43 hk_44 hk_45 fr_46 hm
            have ih_47 := ih; clear ih
            have d38 := ig2.2 38 (by decide)
            have rn3 := hrl2.n
            refine z_iload_n hx dX1_passHourWith_47 rfl 3 rfl ?_
            refine z_aload_n hx dX1_passHourWith_48 rfl 0 rfl ?_
            refine z_get hx dX1_passHourWith_49 fl_X1_46 hk_36 rfl ?_
            refine z_icmp_ge (tgt := 66) hx dX1_passHourWith_52 (by decide) (by omega) (by omega) (fun c_48 => ?_) (fun c_48 => ?_)
            ·
              have f26 := ig2.2 26 (by decide)
              refine z_iconst hx dX1_passHourWith_66 ?_
              refine z_istore_n hx dX1_passHourWith_67 rfl (by decide) [1, 2, 3, 0] (lv' := [(0, .ref c), (1, .int (iI r)), (2, .int (iI w)), (3, .int (iI 0))]) rfl ?_
              have hL_49 : ∀ (mm : Nat) (x3 : Int) (gF3 : Nat → Int → Int) (gf3 : Int → Int) (h_50 : AH), (0 ≤ x3 ∧ x3 ≤ f 26) → (RLC gF3 gf3) → (RV gF3 gf3 x3) → (gf3 = itI x3 weG gf2) → (inv gf3 ∧ cfx gf2 gf3) → (h_50 c = some (.inr (.inr (1, [.ref (c + 1), .ref (c + 2), .ref (c + 3), .ref (c + 4), .ref (c + 5), .ref (c + 6), .ref (c + 7), .ref (c + 8), .ref (c + 9), .int (iI (gF3 0 0)), .int (iI (gF3 0 1)), .int (iI (gF3 0 2)), .int (iI (gF3 0 3))])))) → (h_50 (c + 1) = some (.inl (0, 5, gF3 1))) → (h_50 (c + 2) = some (.inl (0, 5, gF3 2))) → (h_50 (c + 3) = some (.inl (0, 5, gF3 3))) → (h_50 (c + 4) = some (.inl (0, 5, gF3 4))) → (h_50 (c + 5) = some (.inl (0, 6, gF3 5))) → (h_50 (c + 6) = some (.inl (0, 6, gF3 6))) → (h_50 (c + 7) = some (.inl (0, 3, gF3 7))) → (h_50 (c + 8) = some (.inl (0, 5, gF3 8))) → (h_50 (c + 9) = some (.inl (0, 5, gF3 9))) → (Fr h h_50 c 10) → f 26 - x3 < (mm : Int) → Zj g x (sz, 0, 0) h_50 68 [(0, .ref c), (1, .int (iI r)), (2, .int (iI w)), (3, .int (iI x3))] [] := by
                intro mm
                induction mm with
                | zero => intro x3 gF3 gf3 h_50 kx hrl3 hvl3 eg3 ig3 hk_51 hk_52 hk_53 hk_54 hk_55 hk_56 hk_57 hk_58 hk_59 hk_60 fr_61 hm; exfalso; omega
                | succ mm ih =>
                  intro x3 gF3 gf3 h_50 kx hrl3 hvl3 eg3 ig3 hk_51 hk_52 hk_53 hk_54 hk_55 hk_56 hk_57 hk_58 hk_59 hk_60 fr_61 hm
                  have ih_62 := ih; clear ih
                  have e26 := ig3.2 26 (by decide)
                  have rn4 := hrl3.n
                  refine z_iload_n hx dX1_passHourWith_68 rfl 3 rfl ?_
                  refine z_aload_n hx dX1_passHourWith_69 rfl 0 rfl ?_
                  refine z_get hx dX1_passHourWith_70 fl_X1_39 hk_51 rfl ?_
                  refine z_icmp_ge (tgt := 87) hx dX1_passHourWith_73 (by decide) (by omega) (by omega) (fun c_63 => ?_) (fun c_63 => ?_)
                  ·
                    refine z_aload_n hx dX1_passHourWith_87 rfl 0 rfl ?_
                    refine z_dup hx dX1_passHourWith_88 rfl ?_
                    refine z_get hx dX1_passHourWith_89 fl_X1_49 hk_51 rfl ?_
                    refine z_iconst hx dX1_passHourWith_92 ?_
                    refine z_iadd hx dX1_passHourWith_93 ?_
                    refine z_putQ hx dX1_passHourWith_94 fl_X1_49 hk_51 ⟨rfl, rfl⟩ (Nat.le_of_ble_eq_true rfl) (fun h_64 hs_65 hf_66 => ?_)
                    have h_67 := hf_66.at (by omega) hk_52
                    have h_68 := hf_66.at (by omega) hk_53
                    have h_69 := hf_66.at (by omega) hk_54
                    have h_70 := hf_66.at (by omega) hk_55
                    have h_71 := hf_66.at (by omega) hk_56
                    have h_72 := hf_66.at (by omega) hk_57
                    have h_73 := hf_66.at (by omega) hk_58
                    have h_74 := hf_66.at (by omega) hk_59
                    have h_75 := hf_66.at (by omega) hk_60
                    have fr_76 := fr_61.tr (hf_66.wd (by omega) (by omega))
                    have eW : hrW f r w = fup gf3 0 (gF3 0 3 + 1) := by unfold hrW endH sheL weaL; rw [← eg0, ← show w3 = gf 38 by omega, ← eg2, ← show x3 = gf2 26 by omega, ← eg3, show gF3 0 3 = gf3 0 by omega]
                    refine z_vret hx hr dX1_passHourWith_97 rfl (q_v ⟨(sst gF3 0 (fup (gF3 0) 3 ((gF3 0 3) + 1))), ⟨hs_65, h_67, h_68, h_69, h_70, h_71, h_72, h_73, h_74, h_75⟩, (by rw [eW]; exact RLC_ho hrl3 ig3.1.n), fr_76⟩)
                  ·
                    refine z_aload_n hx dX1_passHourWith_76 rfl 0 rfl ?_
                    refine z_iload_n hx dX1_passHourWith_77 rfl 3 rfl ?_
                    refine z_cVV (as := [.int (iI x3)]) (rest := []) hx dX1_passHourWith_78 lk_X1_104 wm_X1_wearOut wv_X1_wearOut (rcv_obj hx hk_51 rfl) mo_X1_wearOut (kX1_wearOut g (F := gF3) (f := gf3) (k := x3) ⟨hk_51, hk_52, hk_53, hk_54, hk_55, hk_56, hk_57, hk_58, hk_59, hk_60⟩ hrl3 ig3.1 hvl3 (show 0 ≤ x3 ∧ x3 < gf3 26 by omega)) (by decide) rfl rfl (Nat.le_of_ble_eq_true rfl) (fun h_77 q_78 => ?_)
                    obtain ⟨F_81, hC_79, hR_82, hU_83, hf_80⟩ := q_78
                    obtain ⟨f_84, ef_84⟩ : ∃ G : Int → Int, G = wears gf3 x3 := ⟨_, rfl⟩
                    rw [← ef_84] at hR_82
                    rw [← ef_84] at hU_83
                    have iv_85 := inv_wears ig3.1 (k := x3) (by omega)
                    rw [← ef_84] at iv_85
                    obtain ⟨m_86, m_87, m_88, m_89, m_90, m_91, m_92, m_93, m_94, m_95⟩ := hC_79
                    have fr_96 := fr_61.tr (hf_80.wd (by omega) (by omega))
                    refine z_iinc hx dX1_passHourWith_81 (by decide) 3 rfl [1, 2, 3, 0] (lv' := [(0, .ref c), (1, .int (iI r)), (2, .int (iI w)), (3, .int (iI (x3 + 1)))]) rfl ?_
                    refine z_goto (tgt := 68) hx dX1_passHourWith_84 (by decide) ?_
                    have ec : weG x3 gf3 = f_84 := ef_84.symm
                    have igT : inv f_84 ∧ cfx gf2 f_84 := ⟨iv_85.1, ig3.2.tr iv_85.2⟩
                    exact ih_62 _ F_81 f_84 _ (by omega) (by exact hR_82) (by exact hU_83) (by rw [itI_s _ _ (by omega), ← eg3, ec]) (by exact igT) m_86 m_87 m_88 m_89 m_90 m_91 m_92 m_93 m_94 m_95 fr_96 (by omega)
              exact hL_49 ((f 26 - 0) + 1 : Int).toNat _ gF2 gf2 _ (by omega) (by exact hrl2) (by exact hul2.v) (by rfl) (by exact ⟨ig2.1, cfx.rf⟩) hk_36 hk_37 hk_38 hk_39 hk_40 hk_41 hk_42 hk_43 hk_44 hk_45 fr_46 (by omega)
            ·
              refine z_aload_n hx dX1_passHourWith_55 rfl 0 rfl ?_
              refine z_iload_n hx dX1_passHourWith_56 rfl 3 rfl ?_
              refine z_cVV (as := [.int (iI w3)]) (rest := []) hx dX1_passHourWith_57 lk_X1_100 wm_X1_chase wv_X1_chase (rcv_obj hx hk_36 rfl) mo_X1_chase (kX1_chase g (F := gF2) (f := gf2) (s9 := w3) ⟨hk_36, hk_37, hk_38, hk_39, hk_40, hk_41, hk_42, hk_43, hk_44, hk_45⟩ hrl2 ig2.1 hul2 (show 0 ≤ w3 ∧ w3 < gf2 38 by omega)) (by decide) rfl rfl (Nat.le_of_ble_eq_true rfl) (fun h_97 q_98 => ?_)
              obtain ⟨F_101, hC_99, hR_102, hU_103, hf_100⟩ := q_98
              obtain ⟨f_104, ef_104⟩ : ∃ G : Int → Int, G = hunts gf2 w3 := ⟨_, rfl⟩
              rw [← ef_104] at hR_102
              rw [← ef_104] at hU_103
              have iv_105 := inv_hunts ig2.1 (s := w3) (by omega)
              rw [← ef_104] at iv_105
              obtain ⟨m_106, m_107, m_108, m_109, m_110, m_111, m_112, m_113, m_114, m_115⟩ := hC_99
              have fr_116 := fr_46.tr (hf_100.wd (by omega) (by omega))
              refine z_iinc hx dX1_passHourWith_60 (by decide) 3 rfl [1, 2, 3, 0] (lv' := [(0, .ref c), (1, .int (iI r)), (2, .int (iI w)), (3, .int (iI (w3 + 1)))]) rfl ?_
              refine z_goto (tgt := 47) hx dX1_passHourWith_63 (by decide) ?_
              have ec : huG w3 gf2 = f_104 := ef_104.symm
              have igT : inv f_104 ∧ cfx gf f_104 := ⟨iv_105.1, ig2.2.tr iv_105.2⟩
              exact ih_47 _ F_101 f_104 _ (by omega) (by exact hR_102) (by exact hU_103) (by rw [itI_s _ _ (by omega), ← eg2, ec]) (by exact igT) m_106 m_107 m_108 m_109 m_110 m_111 m_112 m_113 m_114 m_115 fr_116 (by omega)
        exact hL_34 ((f 38 - 0) + 1 : Int).toNat _ gF gf _ (by omega) (by exact hrl) (by exact hul) (by rfl) (by exact ⟨ig.1, cfx.rf⟩) hk_21 hk_22 hk_23 hk_24 hk_25 hk_26 hk_27 hk_28 hk_29 hk_30 fr_31 (by omega)
      ·
        refine z_aload_n hx dX1_passHourWith_14 rfl 0 rfl ?_
        refine z_get hx dX1_passHourWith_15 fl_X1_27 hk_21 rfl ?_
        refine z_iload_n hx dX1_passHourWith_18 rfl 3 rfl ?_
        refine z_iald hx dX1_passHourWith_19 hk_27 (by omega) (by decide) ?_
        have rp_117 := hrl.p v3 (by first | omega | decide)
        have ip_118 := ig.1.p v3 (by first | omega | decide)
        have cc_119 := cv_c (gf (17 + v3))
        refine z_iconst hx dX1_passHourWith_20 ?_
        refine z_icmp_ne (tgt := 39) hx dX1_passHourWith_21 (by decide) (by omega) (by decide) (fun c_120 => ?_) (fun c_120 => ?_)
        ·
          refine z_iinc hx dX1_passHourWith_39 (by decide) 3 rfl [1, 2, 3, 0] (lv' := [(0, .ref c), (1, .int (iI r)), (2, .int (iI w)), (3, .int (iI (v3 + 1)))]) rfl ?_
          refine z_goto (tgt := 6) hx dX1_passHourWith_42 (by decide) ?_
          have ec : fleG r w v3 gf = gf := by unfold fleG; rw [if_neg (by omega)]
          have igT := ig
          exact ih_32 _ gF gf _ (by omega) (by exact hrl) (by exact hul) (by rw [itI_s _ _ (by omega), ← eg, ec]) (by exact igT) (by intro hh; rw [← ec, fleG_oth (by omega) (by omega), fleG_oth (by omega) (by omega)]; exact ev (by omega)) hk_21 hk_22 hk_23 hk_24 hk_25 hk_26 hk_27 hk_28 hk_29 hk_30 fr_31 (by omega)
        ·
          refine z_aload_n hx dX1_passHourWith_24 rfl 0 rfl ?_
          refine z_iload_n hx dX1_passHourWith_25 rfl 3 rfl ?_
          refine z_iload_n hx dX1_passHourWith_26 rfl 3 rfl ?_
          refine z_iload_n hx dX1_passHourWith_27 rfl 1 rfl ?_
          refine z_icmp_ne (tgt := 35) hx dX1_passHourWith_28 (by decide) (by omega) (by omega) (fun c_121 => ?_) (fun c_121 => ?_)
          ·
            refine z_iconst hx dX1_passHourWith_35 ?_
            have hwfl : (-1 : Int) = -1 ∨ ((0 ≤ (-1 : Int) ∧ (-1 : Int) ≤ 4) ∧ vld gf v3 (-1)) := Or.inl rfl
            refine z_cVV (as := [.int (iI v3), .int (iI (-1))]) (rest := []) hx dX1_passHourWith_36 lk_X1_97 wm_X1_flee wv_X1_flee (rcv_obj hx hk_21 rfl) mo_X1_flee (kX1_flee g (F := gF) (f := gf) (p := v3) (w := (-1)) ⟨hk_21, hk_22, hk_23, hk_24, hk_25, hk_26, hk_27, hk_28, hk_29, hk_30⟩ hrl ig.1 hul (show 0 ≤ v3 ∧ v3 < gf 37 by omega) (show gf (17 + v3) = 0 by omega) (show (-1) = -1 ∨ ((0 ≤ (-1) ∧ (-1) ≤ 4) ∧ vld gf v3 (-1)) by exact hwfl)) (by decide) rfl rfl (Nat.le_of_ble_eq_true rfl) (fun h_122 q_123 => ?_)
            obtain ⟨F_126, hC_124, hR_127, hU_128, hf_125⟩ := q_123
            obtain ⟨f_129, ef_129⟩ : ∃ G : Int → Int, G = fle gf v3 (-1) := ⟨_, rfl⟩
            rw [← ef_129] at hR_127
            rw [← ef_129] at hU_128
            have iv_130 := inv_fle ig.1 (p := v3) (w := (-1)) (by omega) (by omega) hwfl
            rw [← ef_129] at iv_130
            obtain ⟨m_131, m_132, m_133, m_134, m_135, m_136, m_137, m_138, m_139, m_140⟩ := hC_124
            have fr_141 := fr_31.tr (hf_125.wd (by omega) (by omega))
            refine z_iinc hx dX1_passHourWith_39 (by decide) 3 rfl [1, 2, 3, 0] (lv' := [(0, .ref c), (1, .int (iI r)), (2, .int (iI w)), (3, .int (iI (v3 + 1)))]) rfl ?_
            refine z_goto (tgt := 6) hx dX1_passHourWith_42 (by decide) ?_
            have ec : fleG r w v3 gf = f_129 := by unfold fleG; rw [if_pos (by omega), if_neg (by omega), ef_129]; exact (if_pos rfl).symm
            have igT : inv f_129 ∧ cfx f f_129 := ⟨iv_130.1, ig.2.tr iv_130.2⟩
            exact ih_32 _ F_126 f_129 _ (by omega) (by exact hR_127) (by exact hU_128) (by rw [itI_s _ _ (by omega), ← eg, ec]) (by exact igT) (by intro hh; rw [← ec, fleG_oth (by omega) (by omega), fleG_oth (by omega) (by omega)]; exact ev (by omega)) m_131 m_132 m_133 m_134 m_135 m_136 m_137 m_138 m_139 m_140 fr_141 (by omega)
          ·
            refine z_iload_n hx dX1_passHourWith_31 rfl 2 rfl ?_
            refine z_goto (tgt := 36) hx dX1_passHourWith_32 (by decide) ?_
            have hwfl : w = -1 ∨ ((0 ≤ w ∧ w ≤ 4) ∧ vld gf v3 w) := by rcases hrw with q | q; omega; obtain ⟨q1, q2, q3, q4⟩ := q; have e11 := (ev (by omega)).2; refine Or.inr ⟨q3, ?_⟩; unfold vld at q4 ⊢; rw [show 11 + v3 = 11 + r by omega, e11]; exact q4
            refine z_cVV (as := [.int (iI v3), .int (iI w)]) (rest := []) hx dX1_passHourWith_36 lk_X1_97 wm_X1_flee wv_X1_flee (rcv_obj hx hk_21 rfl) mo_X1_flee (kX1_flee g (F := gF) (f := gf) (p := v3) (w := w) ⟨hk_21, hk_22, hk_23, hk_24, hk_25, hk_26, hk_27, hk_28, hk_29, hk_30⟩ hrl ig.1 hul (show 0 ≤ v3 ∧ v3 < gf 37 by omega) (show gf (17 + v3) = 0 by omega) (show w = -1 ∨ ((0 ≤ w ∧ w ≤ 4) ∧ vld gf v3 w) by exact hwfl)) (by decide) rfl rfl (Nat.le_of_ble_eq_true rfl) (fun h_142 q_143 => ?_)
            obtain ⟨F_146, hC_144, hR_147, hU_148, hf_145⟩ := q_143
            obtain ⟨f_149, ef_149⟩ : ∃ G : Int → Int, G = fle gf v3 w := ⟨_, rfl⟩
            rw [← ef_149] at hR_147
            rw [← ef_149] at hU_148
            have iv_150 := inv_fle ig.1 (p := v3) (w := w) (by omega) (by omega) hwfl
            rw [← ef_149] at iv_150
            obtain ⟨m_151, m_152, m_153, m_154, m_155, m_156, m_157, m_158, m_159, m_160⟩ := hC_144
            have fr_161 := fr_31.tr (hf_145.wd (by omega) (by omega))
            refine z_iinc hx dX1_passHourWith_39 (by decide) 3 rfl [1, 2, 3, 0] (lv' := [(0, .ref c), (1, .int (iI r)), (2, .int (iI w)), (3, .int (iI (v3 + 1)))]) rfl ?_
            refine z_goto (tgt := 6) hx dX1_passHourWith_42 (by decide) ?_
            have ec : fleG r w v3 gf = f_149 := by unfold fleG; rw [if_pos (by omega), if_pos (by omega), ef_149]; exact (if_neg (by omega)).symm
            have igT : inv f_149 ∧ cfx f f_149 := ⟨iv_150.1, ig.2.tr iv_150.2⟩
            exact ih_32 _ F_146 f_149 _ (by omega) (by exact hR_147) (by exact hU_148) (by rw [itI_s _ _ (by omega), ← eg, ec]) (by exact igT) (by intro hh; rw [← ec, fleG_oth (by omega) (by omega), fleG_oth (by omega) (by omega)]; exact ev (by omega)) m_151 m_152 m_153 m_154 m_155 m_156 m_157 m_158 m_159 m_160 fr_161 (by omega)
  exact hL_19 ((f 37 - 0) + 1 : Int).toNat _ F_5 f _ (by omega) (by exact hR_6) (by exact hU_7) (by rfl) (by exact ⟨hI, cfx.rf⟩) (by intro _; exact ⟨rfl, rfl⟩) m_8 m_9 m_10 m_11 m_12 m_13 m_14 m_15 m_16 m_17 fr_18 (by omega)

