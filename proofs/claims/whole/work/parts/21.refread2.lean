/-! the reference's reader: its items, the whole text -/
def itP (Z0 : Int → Int) (X : Int × (Int → Int) × (Int → Int)) : Prop := (∀ j, j < 10 ∨ 14 < j → X.2.1 j = Z0 j) ∧ (Z0 10 ≤ X.2.1 10 ∧ X.2.1 10 ≤ Z0 8) ∧ (X.1 = 0 ∨ X.1 = 1) ∧ inv X.2.2 ∧ (0 ≤ X.2.1 11 ∧ X.2.1 11 ≤ 150)
theorem nxZ_it {Z0 Z t : Int → Int} (hL : 0 ≤ Z0 8 ∧ Z0 8 ≤ 150) (h0 : 0 ≤ Z0 10) (e : ∀ j, j < 10 ∨ 14 < j → Z j = Z0 j) (hp : Z0 10 ≤ Z 10 ∧ Z 10 ≤ Z0 8) : (∀ j, j < 10 ∨ 14 < j → nxZ Z t j = Z0 j) ∧ (Z0 10 ≤ nxZ Z t 10 ∧ nxZ Z t 10 ≤ Z0 8) ∧ (0 ≤ nxZ Z t 11 ∧ nxZ Z t 11 ≤ 150) := by
  have e8 := e 8 (by decide)
  have r := nxZ_rg (Z := Z) (t := t) (by omega)
  exact ⟨fun j hj => (nxZ_n hj).trans (e j hj), by omega, by omega⟩
theorem itH_P {t Z r : Int → Int} (hL : 0 ≤ Z 8 ∧ Z 8 ≤ 150) (hP : 0 ≤ Z 10 ∧ Z 10 ≤ Z 8) (h1 : 0 ≤ Z 11 ∧ Z 11 ≤ 150) (hR : inv r) : itP Z (itH t Z r) := by
  have a := nxZ_it (t := t) hL hP.1 (Z := Z) (fun _ _ => rfl) ⟨Int.le_refl _, hP.2⟩
  have hn := hR.n
  unfold itH
  split
  · exact ⟨fun _ _ => rfl, ⟨Int.le_refl _, hP.2⟩, Or.inl rfl, hR, h1⟩
  · split
    · next c1 c2 => exact ⟨a.1, a.2.1, Or.inr rfl, inv_ahu hR (by omega) (by have := c2.2; omega), a.2.2⟩
    · exact ⟨a.1, a.2.1, Or.inl rfl, hR, a.2.2⟩
theorem itS_P {t Z r : Int → Int} (hL : 0 ≤ Z 8 ∧ Z 8 ≤ 150) (hP : 0 ≤ Z 10 ∧ Z 10 ≤ Z 8) (h1 : 0 ≤ Z 11 ∧ Z 11 ≤ 150) (hR : inv r) : itP Z (itS t Z r) := by
  have a := nxZ_it (t := t) hL hP.1 (Z := Z) (fun _ _ => rfl) ⟨Int.le_refl _, hP.2⟩
  have hn := hR.n
  unfold itS
  split
  · exact ⟨fun _ _ => rfl, ⟨Int.le_refl _, hP.2⟩, Or.inl rfl, hR, h1⟩
  · split
    · next c1 c2 => exact ⟨a.1, a.2.1, Or.inr rfl, inv_ash hR (by omega) (by have := c2.2; omega), a.2.2⟩
    · exact ⟨a.1, a.2.1, Or.inl rfl, hR, a.2.2⟩
theorem itW_P {t Z r : Int → Int} (hL : 0 ≤ Z 8 ∧ Z 8 ≤ 150) (hP : 0 ≤ Z 10 ∧ Z 10 ≤ Z 8) (hR : inv r) : itP Z (itW t Z r) := by
  have a := nxZ_it (t := t) hL hP.1 (Z := Z) (fun _ _ => rfl) ⟨Int.le_refl _, hP.2⟩
  have b := nxZ_it (t := t) hL hP.1 (Z := nxZ Z t) a.1 a.2.1
  have hn := hR.n
  unfold itW
  split
  · next c1 =>
    split
    · next c2 => exact ⟨b.1, b.2.1, Or.inr rfl, inv_we hR (by have := c1.2; omega) (by have := c2.2; omega), b.2.2⟩
    · exact ⟨b.1, b.2.1, Or.inl rfl, hR, b.2.2⟩
  · exact ⟨a.1, a.2.1, Or.inl rfl, hR, a.2.2⟩
theorem itC_P {t Z r : Int → Int} (hL : 0 ≤ Z 8 ∧ Z 8 ≤ 150) (hP : 0 ≤ Z 10 ∧ Z 10 ≤ Z 8) (h1 : 0 ≤ Z 11 ∧ Z 11 ≤ 150) (hR : inv r) : itP Z (itC t Z r) := by
  have a := nxZ_it (t := t) hL hP.1 (Z := Z) (fun _ _ => rfl) ⟨Int.le_refl _, hP.2⟩
  have b := nxZ_it (t := t) hL hP.1 (Z := nxZ Z t) a.1 a.2.1
  have d := nxZ_it (t := t) hL hP.1 (Z := nxZ (nxZ Z t) t) b.1 b.2.1
  have hn := hR.n
  unfold itC
  split
  · exact ⟨fun _ _ => rfl, ⟨Int.le_refl _, hP.2⟩, Or.inl rfl, hR, h1⟩
  · split
    · next c0 c1 =>
      split
      · next c2 =>
        split
        · next c3 => exact ⟨d.1, d.2.1, Or.inr rfl, inv_acs hR (by omega) (by have := c1.2; omega) (by have := c2.2; omega) (by have := c3.2; omega), d.2.2⟩
        · exact ⟨d.1, d.2.1, Or.inl rfl, hR, d.2.2⟩
      · exact ⟨b.1, b.2.1, Or.inl rfl, hR, b.2.2⟩
    · exact ⟨a.1, a.2.1, Or.inl rfl, hR, a.2.2⟩

def itm (t Z r : Int → Int) : Int × (Int → Int) × (Int → Int) := if Z 12 = 1 then (if Z 15 = 0 then (if Z 14 = 109330228408174 then (1, Z, r) else (0, Z, r)) else if Z 14 = 109330228408174 then (0, Z, r) else if Z 14 = 1668248441 then itC t Z r else if Z 14 = 114853573584228 then itH t Z r else if Z 14 = 32484407242221158 then itS t Z r else if Z 14 = 2003132786 then itW t Z r else (0, Z, r)) else (0, Z, r)
theorem itm_P {t Z r : Int → Int} (hL : 0 ≤ Z 8 ∧ Z 8 ≤ 150) (hP : 0 ≤ Z 10 ∧ Z 10 ≤ Z 8) (h1 : 0 ≤ Z 11 ∧ Z 11 ≤ 150) (hR : inv r) : itP Z (itm t Z r) := by
  have h0 : ∀ k : Int, k = 0 ∨ k = 1 → itP Z (k, Z, r) := fun k hk => ⟨fun _ _ => rfl, ⟨Int.le_refl _, hP.2⟩, hk, hR, h1⟩
  unfold itm
  (repeat' split) <;> first | exact h0 _ (Or.inl rfl) | exact h0 _ (Or.inr rfl) | exact itC_P hL hP h1 hR | exact itH_P hL hP h1 hR | exact itS_P hL hP h1 hR | exact itW_P hL hP hR
def rdN (t : Int → Int) : Nat → (Int → Int) → (Int → Int) → Int × (Int → Int) × (Int → Int)
  | 0, Z, r => (1, Z, r)
  | m + 1, Z, r => if Z 12 = 0 ∧ Z 15 ≠ 0 then (1, Z, r) else if (itm t Z r).1 = 0 then (0, (itm t Z r).2.1, (itm t Z r).2.2) else if nxZ (itm t Z r).2.1 t 12 = 3 then rdN t m (nxZ (fup (nxZ (itm t Z r).2.1 t) 15 (nxZ (itm t Z r).2.1 t 15 + 1)) t) (itm t Z r).2.2 else (0, nxZ (itm t Z r).2.1 t, (itm t Z r).2.2)
theorem rdN_e {t Z r : Int → Int} (m : Nat) (h : Z 12 = 0 ∧ Z 15 ≠ 0) : rdN t (m + 1) Z r = (1, Z, r) := if_pos h
theorem rdN_0 {t Z r Z' r' : Int → Int} (m : Nat) (h : ¬ (Z 12 = 0 ∧ Z 15 ≠ 0)) (e : (0, Z', r') = itm t Z r) : rdN t (m + 1) Z r = (0, Z', r') := by
  show (if Z 12 = 0 ∧ Z 15 ≠ 0 then _ else if (itm t Z r).1 = 0 then (0, (itm t Z r).2.1, (itm t Z r).2.2) else _) = _
  rw [if_neg h, ← e, if_pos rfl]
theorem rdN_1 {t Z r Z' r' : Int → Int} {k : Int} (m : Nat) (h : ¬ (Z 12 = 0 ∧ Z 15 ≠ 0)) (e : (k, Z', r') = itm t Z r) (hk : k ≠ 0) : rdN t (m + 1) Z r = if nxZ Z' t 12 = 3 then rdN t m (nxZ (fup (nxZ Z' t) 15 (nxZ Z' t 15 + 1)) t) r' else (0, nxZ Z' t, r') := by
  show (if Z 12 = 0 ∧ Z 15 ≠ 0 then _ else if (itm t Z r).1 = 0 then _ else if nxZ (itm t Z r).2.1 t 12 = 3 then rdN t m (nxZ (fup (nxZ (itm t Z r).2.1 t) 15 (nxZ (itm t Z r).2.1 t 15 + 1)) t) (itm t Z r).2.2 else (0, nxZ (itm t Z r).2.1 t, (itm t Z r).2.2)) = _
  rw [if_neg h, ← e, if_neg hk]
theorem inv_begR {f : Int → Int} (h : ∀ j, ¬ (0 ≤ j ∧ j < 267) → 0 ≤ f j ∧ f j ≤ 2000) : inv (beg f) := by
  have e : beg f = beg (fun j => if 0 ≤ j ∧ j < 267 then 0 else f j) := by
    funext j
    unfold beg
    by_cases c : 0 ≤ j ∧ j < 267
    · rw [if_pos c, if_pos c]
    · rw [if_neg c, if_neg c]
      show f j = if 0 ≤ j ∧ j < 267 then 0 else f j
      rw [if_neg c]
  rw [e]
  refine inv_beg (fun j hj => ?_)
  by_cases c : 0 ≤ j ∧ j < 267
  · rw [if_pos c]; decide
  · rw [if_neg c]; exact h j c
def rdA (S : Nat → Int → Int) : Int × (Int → Int) × (Int → Int) := rdN (S 7) 152 (nxZ (fup (fup (S 0) 10 0) 15 0) (S 7)) (beg (S 3))
def readA (S : Nat → Int → Int) : Int × (Nat → Int → Int) := if (rdA S).1 = 0 then (-10 - (rdA S).2.1 11, sst (sst S 3 (rdA S).2.2) 0 (rdA S).2.1) else ((rdA S).2.1 15, sst (sst (sst S 3 (rdA S).2.2) 0 (rdA S).2.1) 1 (fcp (rdA S).2.2 (S 1) 0 0 267))

set_option maxHeartbeats 4000000 in
set_option maxRecDepth 20000 in
theorem kX9_isItem (g : Gt) {h : AH} {b : Nat} {S : Nat → Int → Int} (hM : RM h b S) (hL : 0 ≤ S 0 8 ∧ S 0 8 ≤ 150) (hT : ∀ j, 0 ≤ j → j < S 0 8 → 0 ≤ S 7 j ∧ S 7 j ≤ 127) (hP : 0 ≤ S 0 10 ∧ S 0 10 ≤ S 0 8) (hR : inv (S 3)) (h1 : 0 ≤ S 0 11 ∧ S 0 11 ≤ 150) (hw : -1 ≤ S 0 14 ∧ S 0 14 < 72057594037927936) (h12 : 0 ≤ S 0 12 ∧ S 0 12 ≤ 4) (h15 : 0 ≤ S 0 15 ∧ S 0 15 ≤ 1000) : CnJ g mX9_isItem 6 [.ref b] h (itm (S 7) (S 0) (S 3)).1 (QM h b (sst (sst S 3 (itm (S 7) (S 0) (S 3)).2.2) 0 (itm (S 7) (S 0) (S 3)).2.1)) := by
  refine Cn.mk (by decide +kernel) (Nat.le_of_ble_eq_true rfl) ?_
  intro x sz hx hr
  show Zj g x (sz, 0, 0) h 0 [(0, .ref b)] []
  obtain ⟨m0, m1, m2, m3, m4, m5, m6, m7, m8⟩ := hM
  refine z_aload_n hx dX9_isItem_0 rfl 0 rfl ?_
  refine z_get hx dX9_isItem_1 fl_X9_106 m0 rfl ?_
  refine z_if_ne (tgt := 11) hx dX9_isItem_4 (by decide) (by omega) (fun c_1 => ?_) (fun c_1 => ?_)
  ·
    refine z_iconst hx dX9_isItem_11 ?_
    refine z_istore_n hx dX9_isItem_12 rfl (by decide) [1, 0] (lv' := [(0, .ref b), (1, .int (iI 0))]) rfl ?_
    refine z_aload_n hx dX9_isItem_13 rfl 0 rfl ?_
    refine z_get hx dX9_isItem_14 fl_X9_89 m0 rfl ?_
    refine z_iconst hx dX9_isItem_17 ?_
    refine z_icmp_ne (tgt := 41) hx dX9_isItem_18 (by decide) (by omega) (by decide) (fun c_2 => ?_) (fun c_2 => ?_)
    ·
      refine z_iconst hx dX9_isItem_41 ?_
      refine z_iret hx hr dX9_isItem_42 rfl rfl (q_j (by unfold itm; (repeat (first | rw [if_pos (by omega)] | rw [if_neg (by omega)])); first | done | rfl | (dsimp only; omega) | (exfalso; omega)) (by unfold itm; (repeat (first | rw [if_pos (by omega)] | rw [if_neg (by omega)])); exact ⟨⟨m0, m1, m2, m3, m4, m5, m6, m7, m8⟩, Fr.rf⟩))
    ·
      refine z_iload_n hx dX9_isItem_21 rfl 1 rfl ?_
      refine z_aload_n hx dX9_isItem_22 rfl 0 rfl ?_
      refine z_get hx dX9_isItem_23 fl_X9_83 m0 rfl ?_
      refine z_ldc2 (a := 109330228408174) hx dX9_isItem_26 wq_X9_109 (by decide) ?_
      have hc29 := cmp_c (S 0 14) 109330228408174
      refine z_lcmp hx dX9_isItem_29 (by omega) (by decide) ?_
      refine z_if_ne (tgt := 37) hx dX9_isItem_30 (by decide) (by omega) (fun c_3 => ?_) (fun c_3 => ?_)
      ·
        refine z_iconst hx dX9_isItem_37 ?_
        refine z_icmp_eq (tgt := 43) hx dX9_isItem_38 (by decide) (by decide) (by decide) (fun _ => ?_) (fun q => absurd q (by decide))
        refine z_iload_n hx dX9_isItem_43 rfl 1 rfl ?_
        refine z_if_eq (tgt := 49) hx dX9_isItem_44 (by decide) (by decide) (fun _ => ?_) (fun q => absurd q (by decide))
        refine z_aload_n hx dX9_isItem_49 rfl 0 rfl ?_
        refine z_get hx dX9_isItem_50 fl_X9_83 m0 rfl ?_
        refine z_ldc2 (a := 1668248441) hx dX9_isItem_53 wq_X9_111 (by decide) ?_
        have hc56 := cmp_c (S 0 14) 1668248441
        refine z_lcmp hx dX9_isItem_56 (by omega) (by decide) ?_
        refine z_if_ne (tgt := 65) hx dX9_isItem_57 (by decide) (by omega) (fun c_6 => ?_) (fun c_6 => ?_)
        ·
          refine z_aload_n hx dX9_isItem_65 rfl 0 rfl ?_
          refine z_get hx dX9_isItem_66 fl_X9_83 m0 rfl ?_
          refine z_ldc2 (a := 114853573584228) hx dX9_isItem_69 wq_X9_117 (by decide) ?_
          have hc72 := cmp_c (S 0 14) 114853573584228
          refine z_lcmp hx dX9_isItem_72 (by omega) (by decide) ?_
          refine z_if_ne (tgt := 81) hx dX9_isItem_73 (by decide) (by omega) (fun c_7 => ?_) (fun c_7 => ?_)
          ·
            refine z_aload_n hx dX9_isItem_81 rfl 0 rfl ?_
            refine z_get hx dX9_isItem_82 fl_X9_83 m0 rfl ?_
            refine z_ldc2 (a := 32484407242221158) hx dX9_isItem_85 wq_X9_122 (by decide) ?_
            have hc88 := cmp_c (S 0 14) 32484407242221158
            refine z_lcmp hx dX9_isItem_88 (by omega) (by decide) ?_
            refine z_if_ne (tgt := 99) hx dX9_isItem_89 (by decide) (by omega) (fun c_8 => ?_) (fun c_8 => ?_)
            ·
              refine z_aload_n hx dX9_isItem_99 rfl 0 rfl ?_
              refine z_get hx dX9_isItem_100 fl_X9_83 m0 rfl ?_
              refine z_ldc2 (a := 2003132786) hx dX9_isItem_103 wq_X9_127 (by decide) ?_
              have hc106 := cmp_c (S 0 14) 2003132786
              refine z_lcmp hx dX9_isItem_106 (by omega) (by decide) ?_
              refine z_if_ne (tgt := 121) hx dX9_isItem_107 (by decide) (by omega) (fun c_9 => ?_) (fun c_9 => ?_)
              ·
                refine z_iconst hx dX9_isItem_121 ?_
                refine z_iret hx hr dX9_isItem_122 rfl rfl (q_j (by unfold itm; (repeat (first | rw [if_pos (by omega)] | rw [if_neg (by omega)])); first | done | rfl | (dsimp only; omega) | (exfalso; omega)) (by unfold itm; (repeat (first | rw [if_pos (by omega)] | rw [if_neg (by omega)])); exact ⟨⟨m0, m1, m2, m3, m4, m5, m6, m7, m8⟩, Fr.rf⟩))
              ·
                refine z_aload_n hx dX9_isItem_110 rfl 0 rfl ?_
                refine z_cVJ (as := []) (rest := []) hx dX9_isItem_111 lk_X9_129 wm_X9_isWearItem wv_X9_isWearItem (rcv_obj hx m0 rfl) mo_X9_isWearItem (kX9_isWearItem g (S := S) ⟨m0, m1, m2, m3, m4, m5, m6, m7, m8⟩ (show _ by exact hL) (show _ by exact hT) (show 0 ≤ (S 0 10) ∧ (S 0 10) ≤ (S 0 8) by omega) (show _ by exact hR)) (by decide) rfl rfl (Nat.le_of_ble_eq_true rfl) (fun h_10 q_11 => ?_)
                show Zj g x (sz, 0, 0) h_10 114 [(0, .ref b), (1, .int (iI 0))] [.int (iI ((itW (S 7) (S 0) (S 3)).1))]
                obtain ⟨⟨p_12, p_13, p_14, p_15, p_16, p_17, p_18, p_19, p_20⟩, hf_21⟩ := q_11
                have hIZ_22 : itP (S 0) (itW (S 7) (S 0) (S 3)) := itW_P (show _ by exact hL) (show 0 ≤ (S 0 10) ∧ (S 0 10) ≤ (S 0 8) by omega) hR
                obtain ⟨k_24, Z_22, r_23, eZ_22⟩ : ∃ (k : Int) (Z r : Int → Int), (k, Z, r) = itW (S 7) (S 0) (S 3) := ⟨_, _, _, rfl⟩
                rw [← eZ_22] at hIZ_22
                have m_25 : h_10 b = some (.inr (.inr (7, [.ref (b + 1), .ref (b + 2), .ref (b + 3), .ref (b + 4), .ref (b + 5), .ref (b + 6), .long (lI (Z_22 6)), .long (lI (Z_22 7)), .int (iI (Z_22 8)), .ref (b + 7), .int (iI (Z_22 10)), .int (iI (Z_22 11)), .int (iI (Z_22 12)), .int (iI (Z_22 13)), .long (lI (Z_22 14)), .int (iI (Z_22 15)), .ref (b + 8)]))) := by rw [show Z_22 = (itW (S 7) (S 0) (S 3)).2.1 from congrArg (·.2.1) eZ_22]; exact p_12
                have m_26 : h_10 (b + 1) = some (.inl (0, 267, S 1)) := p_13
                have m_27 : h_10 (b + 2) = some (.inl (0, 267, S 2)) := p_14
                have m_28 : h_10 (b + 3) = some (.inl (0, 267, r_23)) := by rw [show r_23 = (itW (S 7) (S 0) (S 3)).2.2 from congrArg (·.2.2) eZ_22]; exact p_15
                have m_29 : h_10 (b + 4) = some (.inl (0, 534, S 4)) := p_16
                have m_30 : h_10 (b + 5) = some (.inl (2, 2, S 5)) := p_17
                have m_31 : h_10 (b + 6) = some (.inl (0, 3, S 6)) := p_18
                have m_32 : h_10 (b + 7) = some (.inl (0, 150, S 7)) := p_19
                have m_33 : h_10 (b + 8) = some (.inl (0, 4, S 8)) := p_20
                rw [show (itW (S 7) (S 0) (S 3)).1 = k_24 from (congrArg (·.1) eZ_22).symm]
                have z6Z_22 : Z_22 6 = (S 0 6) := hIZ_22.1 6 (by decide)
                have z7Z_22 : Z_22 7 = (S 0 7) := hIZ_22.1 7 (by decide)
                have z8Z_22 : Z_22 8 = (S 0 8) := hIZ_22.1 8 (by decide)
                have z15Z_22 : Z_22 15 = (S 0 15) := hIZ_22.1 15 (by decide)
                have hzZ_22 : ((S 0 10) ≤ Z_22 10 ∧ Z_22 10 ≤ (S 0 8)) ∧ (k_24 = 0 ∨ k_24 = 1) ∧ (0 ≤ Z_22 11 ∧ Z_22 11 ≤ 150) := ⟨hIZ_22.2.1, hIZ_22.2.2.1, hIZ_22.2.2.2.2⟩
                have hRZ_22 : inv r_23 := hIZ_22.2.2.2.1
                have hLZ_22 : 0 ≤ Z_22 8 ∧ Z_22 8 ≤ 150 := by rw [z8Z_22]; exact hL
                have hTZ_22 : ∀ j, 0 ≤ j → j < Z_22 8 → 0 ≤ S 7 j ∧ S 7 j ≤ 127 := by rw [z8Z_22]; exact hT
                have fr_34 : Fr h h_10 b 9 := hf_21.wd (by omega) (by omega)
                refine z_if_eq (tgt := 121) hx dX9_isItem_114 (by decide) (by omega) (fun c_35 => ?_) (fun c_35 => ?_)
                ·
                  refine z_iconst hx dX9_isItem_121 ?_
                  refine z_iret hx hr dX9_isItem_122 rfl rfl (q_j (by unfold itm; (repeat (first | rw [if_pos (by omega)] | rw [if_neg (by omega)])); (try rw [← eZ_22]); first | done | rfl | (dsimp only; omega) | (exfalso; omega)) (by unfold itm; (repeat (first | rw [if_pos (by omega)] | rw [if_neg (by omega)])); (try rw [← eZ_22]); exact ⟨⟨m_25, m_26, m_27, m_28, m_29, m_30, m_31, m_32, m_33⟩, fr_34⟩))
                ·
                  refine z_iconst hx dX9_isItem_117 ?_
                  refine z_goto (tgt := 122) hx dX9_isItem_118 (by decide) ?_
                  refine z_iret hx hr dX9_isItem_122 rfl rfl (q_j (by unfold itm; (repeat (first | rw [if_pos (by omega)] | rw [if_neg (by omega)])); (try rw [← eZ_22]); first | done | rfl | (dsimp only; omega) | (exfalso; omega)) (by unfold itm; (repeat (first | rw [if_pos (by omega)] | rw [if_neg (by omega)])); (try rw [← eZ_22]); exact ⟨⟨m_25, m_26, m_27, m_28, m_29, m_30, m_31, m_32, m_33⟩, fr_34⟩))
            ·
              refine z_aload_n hx dX9_isItem_92 rfl 0 rfl ?_
              refine z_cVJ (as := []) (rest := []) hx dX9_isItem_93 lk_X9_124 wm_X9_isSheriffItem wv_X9_isSheriffItem (rcv_obj hx m0 rfl) mo_X9_isSheriffItem (kX9_isSheriffItem g (S := S) ⟨m0, m1, m2, m3, m4, m5, m6, m7, m8⟩ (show _ by exact hL) (show _ by exact hT) (show 0 ≤ (S 0 10) ∧ (S 0 10) ≤ (S 0 8) by omega) (show _ by exact hR)) (by decide) rfl rfl (Nat.le_of_ble_eq_true rfl) (fun h_36 q_37 => ?_)
              show Zj g x (sz, 0, 0) h_36 96 [(0, .ref b), (1, .int (iI 0))] [.int (iI ((itS (S 7) (S 0) (S 3)).1))]
              obtain ⟨⟨p_38, p_39, p_40, p_41, p_42, p_43, p_44, p_45, p_46⟩, hf_47⟩ := q_37
              have hIZ_48 : itP (S 0) (itS (S 7) (S 0) (S 3)) := itS_P (show _ by exact hL) (show 0 ≤ (S 0 10) ∧ (S 0 10) ≤ (S 0 8) by omega) (show 0 ≤ (S 0 11) ∧ (S 0 11) ≤ 150 by omega) hR
              obtain ⟨k_50, Z_48, r_49, eZ_48⟩ : ∃ (k : Int) (Z r : Int → Int), (k, Z, r) = itS (S 7) (S 0) (S 3) := ⟨_, _, _, rfl⟩
              rw [← eZ_48] at hIZ_48
              have m_51 : h_36 b = some (.inr (.inr (7, [.ref (b + 1), .ref (b + 2), .ref (b + 3), .ref (b + 4), .ref (b + 5), .ref (b + 6), .long (lI (Z_48 6)), .long (lI (Z_48 7)), .int (iI (Z_48 8)), .ref (b + 7), .int (iI (Z_48 10)), .int (iI (Z_48 11)), .int (iI (Z_48 12)), .int (iI (Z_48 13)), .long (lI (Z_48 14)), .int (iI (Z_48 15)), .ref (b + 8)]))) := by rw [show Z_48 = (itS (S 7) (S 0) (S 3)).2.1 from congrArg (·.2.1) eZ_48]; exact p_38
              have m_52 : h_36 (b + 1) = some (.inl (0, 267, S 1)) := p_39
              have m_53 : h_36 (b + 2) = some (.inl (0, 267, S 2)) := p_40
              have m_54 : h_36 (b + 3) = some (.inl (0, 267, r_49)) := by rw [show r_49 = (itS (S 7) (S 0) (S 3)).2.2 from congrArg (·.2.2) eZ_48]; exact p_41
              have m_55 : h_36 (b + 4) = some (.inl (0, 534, S 4)) := p_42
              have m_56 : h_36 (b + 5) = some (.inl (2, 2, S 5)) := p_43
              have m_57 : h_36 (b + 6) = some (.inl (0, 3, S 6)) := p_44
              have m_58 : h_36 (b + 7) = some (.inl (0, 150, S 7)) := p_45
              have m_59 : h_36 (b + 8) = some (.inl (0, 4, S 8)) := p_46
              rw [show (itS (S 7) (S 0) (S 3)).1 = k_50 from (congrArg (·.1) eZ_48).symm]
              have z6Z_48 : Z_48 6 = (S 0 6) := hIZ_48.1 6 (by decide)
              have z7Z_48 : Z_48 7 = (S 0 7) := hIZ_48.1 7 (by decide)
              have z8Z_48 : Z_48 8 = (S 0 8) := hIZ_48.1 8 (by decide)
              have z15Z_48 : Z_48 15 = (S 0 15) := hIZ_48.1 15 (by decide)
              have hzZ_48 : ((S 0 10) ≤ Z_48 10 ∧ Z_48 10 ≤ (S 0 8)) ∧ (k_50 = 0 ∨ k_50 = 1) ∧ (0 ≤ Z_48 11 ∧ Z_48 11 ≤ 150) := ⟨hIZ_48.2.1, hIZ_48.2.2.1, hIZ_48.2.2.2.2⟩
              have hRZ_48 : inv r_49 := hIZ_48.2.2.2.1
              have hLZ_48 : 0 ≤ Z_48 8 ∧ Z_48 8 ≤ 150 := by rw [z8Z_48]; exact hL
              have hTZ_48 : ∀ j, 0 ≤ j → j < Z_48 8 → 0 ≤ S 7 j ∧ S 7 j ≤ 127 := by rw [z8Z_48]; exact hT
              have fr_60 : Fr h h_36 b 9 := hf_47.wd (by omega) (by omega)
              refine z_goto (tgt := 122) hx dX9_isItem_96 (by decide) ?_
              refine z_iret hx hr dX9_isItem_122 rfl (nar_b (by omega)) (q_j (by unfold itm; (repeat (first | rw [if_pos (by omega)] | rw [if_neg (by omega)])); (try rw [← eZ_48]); first | done | rfl | (dsimp only; omega) | (exfalso; omega)) (by unfold itm; (repeat (first | rw [if_pos (by omega)] | rw [if_neg (by omega)])); (try rw [← eZ_48]); exact ⟨⟨m_51, m_52, m_53, m_54, m_55, m_56, m_57, m_58, m_59⟩, fr_60⟩))
          ·
            refine z_aload_n hx dX9_isItem_76 rfl 0 rfl ?_
            refine z_cVJ (as := []) (rest := []) hx dX9_isItem_77 lk_X9_119 wm_X9_isHuntedItem wv_X9_isHuntedItem (rcv_obj hx m0 rfl) mo_X9_isHuntedItem (kX9_isHuntedItem g (S := S) ⟨m0, m1, m2, m3, m4, m5, m6, m7, m8⟩ (show _ by exact hL) (show _ by exact hT) (show 0 ≤ (S 0 10) ∧ (S 0 10) ≤ (S 0 8) by omega) (show _ by exact hR)) (by decide) rfl rfl (Nat.le_of_ble_eq_true rfl) (fun h_61 q_62 => ?_)
            show Zj g x (sz, 0, 0) h_61 80 [(0, .ref b), (1, .int (iI 0))] [.int (iI ((itH (S 7) (S 0) (S 3)).1))]
            obtain ⟨⟨p_63, p_64, p_65, p_66, p_67, p_68, p_69, p_70, p_71⟩, hf_72⟩ := q_62
            have hIZ_73 : itP (S 0) (itH (S 7) (S 0) (S 3)) := itH_P (show _ by exact hL) (show 0 ≤ (S 0 10) ∧ (S 0 10) ≤ (S 0 8) by omega) (show 0 ≤ (S 0 11) ∧ (S 0 11) ≤ 150 by omega) hR
            obtain ⟨k_75, Z_73, r_74, eZ_73⟩ : ∃ (k : Int) (Z r : Int → Int), (k, Z, r) = itH (S 7) (S 0) (S 3) := ⟨_, _, _, rfl⟩
            rw [← eZ_73] at hIZ_73
            have m_76 : h_61 b = some (.inr (.inr (7, [.ref (b + 1), .ref (b + 2), .ref (b + 3), .ref (b + 4), .ref (b + 5), .ref (b + 6), .long (lI (Z_73 6)), .long (lI (Z_73 7)), .int (iI (Z_73 8)), .ref (b + 7), .int (iI (Z_73 10)), .int (iI (Z_73 11)), .int (iI (Z_73 12)), .int (iI (Z_73 13)), .long (lI (Z_73 14)), .int (iI (Z_73 15)), .ref (b + 8)]))) := by rw [show Z_73 = (itH (S 7) (S 0) (S 3)).2.1 from congrArg (·.2.1) eZ_73]; exact p_63
            have m_77 : h_61 (b + 1) = some (.inl (0, 267, S 1)) := p_64
            have m_78 : h_61 (b + 2) = some (.inl (0, 267, S 2)) := p_65
            have m_79 : h_61 (b + 3) = some (.inl (0, 267, r_74)) := by rw [show r_74 = (itH (S 7) (S 0) (S 3)).2.2 from congrArg (·.2.2) eZ_73]; exact p_66
            have m_80 : h_61 (b + 4) = some (.inl (0, 534, S 4)) := p_67
            have m_81 : h_61 (b + 5) = some (.inl (2, 2, S 5)) := p_68
            have m_82 : h_61 (b + 6) = some (.inl (0, 3, S 6)) := p_69
            have m_83 : h_61 (b + 7) = some (.inl (0, 150, S 7)) := p_70
            have m_84 : h_61 (b + 8) = some (.inl (0, 4, S 8)) := p_71
            rw [show (itH (S 7) (S 0) (S 3)).1 = k_75 from (congrArg (·.1) eZ_73).symm]
            have z6Z_73 : Z_73 6 = (S 0 6) := hIZ_73.1 6 (by decide)
            have z7Z_73 : Z_73 7 = (S 0 7) := hIZ_73.1 7 (by decide)
            have z8Z_73 : Z_73 8 = (S 0 8) := hIZ_73.1 8 (by decide)
            have z15Z_73 : Z_73 15 = (S 0 15) := hIZ_73.1 15 (by decide)
            have hzZ_73 : ((S 0 10) ≤ Z_73 10 ∧ Z_73 10 ≤ (S 0 8)) ∧ (k_75 = 0 ∨ k_75 = 1) ∧ (0 ≤ Z_73 11 ∧ Z_73 11 ≤ 150) := ⟨hIZ_73.2.1, hIZ_73.2.2.1, hIZ_73.2.2.2.2⟩
            have hRZ_73 : inv r_74 := hIZ_73.2.2.2.1
            have hLZ_73 : 0 ≤ Z_73 8 ∧ Z_73 8 ≤ 150 := by rw [z8Z_73]; exact hL
            have hTZ_73 : ∀ j, 0 ≤ j → j < Z_73 8 → 0 ≤ S 7 j ∧ S 7 j ≤ 127 := by rw [z8Z_73]; exact hT
            have fr_85 : Fr h h_61 b 9 := hf_72.wd (by omega) (by omega)
            refine z_iret hx hr dX9_isItem_80 rfl (nar_b (by omega)) (q_j (by unfold itm; (repeat (first | rw [if_pos (by omega)] | rw [if_neg (by omega)])); (try rw [← eZ_73]); first | done | rfl | (dsimp only; omega) | (exfalso; omega)) (by unfold itm; (repeat (first | rw [if_pos (by omega)] | rw [if_neg (by omega)])); (try rw [← eZ_73]); exact ⟨⟨m_76, m_77, m_78, m_79, m_80, m_81, m_82, m_83, m_84⟩, fr_85⟩))
        ·
          refine z_aload_n hx dX9_isItem_60 rfl 0 rfl ?_
          refine z_cVJ (as := []) (rest := []) hx dX9_isItem_61 lk_X9_113 wm_X9_isCosyItem wv_X9_isCosyItem (rcv_obj hx m0 rfl) mo_X9_isCosyItem (kX9_isCosyItem g (S := S) ⟨m0, m1, m2, m3, m4, m5, m6, m7, m8⟩ (show _ by exact hL) (show _ by exact hT) (show 0 ≤ (S 0 10) ∧ (S 0 10) ≤ (S 0 8) by omega) (show _ by exact hR)) (by decide) rfl rfl (Nat.le_of_ble_eq_true rfl) (fun h_86 q_87 => ?_)
          show Zj g x (sz, 0, 0) h_86 64 [(0, .ref b), (1, .int (iI 0))] [.int (iI ((itC (S 7) (S 0) (S 3)).1))]
          obtain ⟨⟨p_88, p_89, p_90, p_91, p_92, p_93, p_94, p_95, p_96⟩, hf_97⟩ := q_87
          have hIZ_98 : itP (S 0) (itC (S 7) (S 0) (S 3)) := itC_P (show _ by exact hL) (show 0 ≤ (S 0 10) ∧ (S 0 10) ≤ (S 0 8) by omega) (show 0 ≤ (S 0 11) ∧ (S 0 11) ≤ 150 by omega) hR
          obtain ⟨k_100, Z_98, r_99, eZ_98⟩ : ∃ (k : Int) (Z r : Int → Int), (k, Z, r) = itC (S 7) (S 0) (S 3) := ⟨_, _, _, rfl⟩
          rw [← eZ_98] at hIZ_98
          have m_101 : h_86 b = some (.inr (.inr (7, [.ref (b + 1), .ref (b + 2), .ref (b + 3), .ref (b + 4), .ref (b + 5), .ref (b + 6), .long (lI (Z_98 6)), .long (lI (Z_98 7)), .int (iI (Z_98 8)), .ref (b + 7), .int (iI (Z_98 10)), .int (iI (Z_98 11)), .int (iI (Z_98 12)), .int (iI (Z_98 13)), .long (lI (Z_98 14)), .int (iI (Z_98 15)), .ref (b + 8)]))) := by rw [show Z_98 = (itC (S 7) (S 0) (S 3)).2.1 from congrArg (·.2.1) eZ_98]; exact p_88
          have m_102 : h_86 (b + 1) = some (.inl (0, 267, S 1)) := p_89
          have m_103 : h_86 (b + 2) = some (.inl (0, 267, S 2)) := p_90
          have m_104 : h_86 (b + 3) = some (.inl (0, 267, r_99)) := by rw [show r_99 = (itC (S 7) (S 0) (S 3)).2.2 from congrArg (·.2.2) eZ_98]; exact p_91
          have m_105 : h_86 (b + 4) = some (.inl (0, 534, S 4)) := p_92
          have m_106 : h_86 (b + 5) = some (.inl (2, 2, S 5)) := p_93
          have m_107 : h_86 (b + 6) = some (.inl (0, 3, S 6)) := p_94
          have m_108 : h_86 (b + 7) = some (.inl (0, 150, S 7)) := p_95
          have m_109 : h_86 (b + 8) = some (.inl (0, 4, S 8)) := p_96
          rw [show (itC (S 7) (S 0) (S 3)).1 = k_100 from (congrArg (·.1) eZ_98).symm]
          have z6Z_98 : Z_98 6 = (S 0 6) := hIZ_98.1 6 (by decide)
          have z7Z_98 : Z_98 7 = (S 0 7) := hIZ_98.1 7 (by decide)
          have z8Z_98 : Z_98 8 = (S 0 8) := hIZ_98.1 8 (by decide)
          have z15Z_98 : Z_98 15 = (S 0 15) := hIZ_98.1 15 (by decide)
          have hzZ_98 : ((S 0 10) ≤ Z_98 10 ∧ Z_98 10 ≤ (S 0 8)) ∧ (k_100 = 0 ∨ k_100 = 1) ∧ (0 ≤ Z_98 11 ∧ Z_98 11 ≤ 150) := ⟨hIZ_98.2.1, hIZ_98.2.2.1, hIZ_98.2.2.2.2⟩
          have hRZ_98 : inv r_99 := hIZ_98.2.2.2.1
          have hLZ_98 : 0 ≤ Z_98 8 ∧ Z_98 8 ≤ 150 := by rw [z8Z_98]; exact hL
          have hTZ_98 : ∀ j, 0 ≤ j → j < Z_98 8 → 0 ≤ S 7 j ∧ S 7 j ≤ 127 := by rw [z8Z_98]; exact hT
          have fr_110 : Fr h h_86 b 9 := hf_97.wd (by omega) (by omega)
          refine z_iret hx hr dX9_isItem_64 rfl (nar_b (by omega)) (q_j (by unfold itm; (repeat (first | rw [if_pos (by omega)] | rw [if_neg (by omega)])); (try rw [← eZ_98]); first | done | rfl | (dsimp only; omega) | (exfalso; omega)) (by unfold itm; (repeat (first | rw [if_pos (by omega)] | rw [if_neg (by omega)])); (try rw [← eZ_98]); exact ⟨⟨m_101, m_102, m_103, m_104, m_105, m_106, m_107, m_108, m_109⟩, fr_110⟩))
      ·
        refine z_iconst hx dX9_isItem_33 ?_
        refine z_goto (tgt := 38) hx dX9_isItem_34 (by decide) ?_
        refine z_icmp_eq (tgt := 43) hx dX9_isItem_38 (by decide) (by decide) (by decide) (fun q => absurd q (by decide)) (fun _ => ?_)
        refine z_iconst hx dX9_isItem_41 ?_
        refine z_iret hx hr dX9_isItem_42 rfl rfl (q_j (by unfold itm; (repeat (first | rw [if_pos (by omega)] | rw [if_neg (by omega)])); first | done | rfl | (dsimp only; omega) | (exfalso; omega)) (by unfold itm; (repeat (first | rw [if_pos (by omega)] | rw [if_neg (by omega)])); exact ⟨⟨m0, m1, m2, m3, m4, m5, m6, m7, m8⟩, Fr.rf⟩))
  ·
    refine z_iconst hx dX9_isItem_7 ?_
    refine z_goto (tgt := 12) hx dX9_isItem_8 (by decide) ?_
    refine z_istore_n hx dX9_isItem_12 rfl (by decide) [1, 0] (lv' := [(0, .ref b), (1, .int (iI 1))]) rfl ?_
    refine z_aload_n hx dX9_isItem_13 rfl 0 rfl ?_
    refine z_get hx dX9_isItem_14 fl_X9_89 m0 rfl ?_
    refine z_iconst hx dX9_isItem_17 ?_
    refine z_icmp_ne (tgt := 41) hx dX9_isItem_18 (by decide) (by omega) (by decide) (fun c_112 => ?_) (fun c_112 => ?_)
    ·
      refine z_iconst hx dX9_isItem_41 ?_
      refine z_iret hx hr dX9_isItem_42 rfl rfl (q_j (by unfold itm; (repeat (first | rw [if_pos (by omega)] | rw [if_neg (by omega)])); first | done | rfl | (dsimp only; omega) | (exfalso; omega)) (by unfold itm; (repeat (first | rw [if_pos (by omega)] | rw [if_neg (by omega)])); exact ⟨⟨m0, m1, m2, m3, m4, m5, m6, m7, m8⟩, Fr.rf⟩))
    ·
      refine z_iload_n hx dX9_isItem_21 rfl 1 rfl ?_
      refine z_aload_n hx dX9_isItem_22 rfl 0 rfl ?_
      refine z_get hx dX9_isItem_23 fl_X9_83 m0 rfl ?_
      refine z_ldc2 (a := 109330228408174) hx dX9_isItem_26 wq_X9_109 (by decide) ?_
      have hc29 := cmp_c (S 0 14) 109330228408174
      refine z_lcmp hx dX9_isItem_29 (by omega) (by decide) ?_
      refine z_if_ne (tgt := 37) hx dX9_isItem_30 (by decide) (by omega) (fun c_113 => ?_) (fun c_113 => ?_)
      ·
        refine z_iconst hx dX9_isItem_37 ?_
        refine z_icmp_eq (tgt := 43) hx dX9_isItem_38 (by decide) (by decide) (by decide) (fun q => absurd q (by decide)) (fun _ => ?_)
        refine z_iconst hx dX9_isItem_41 ?_
        refine z_iret hx hr dX9_isItem_42 rfl rfl (q_j (by unfold itm; (repeat (first | rw [if_pos (by omega)] | rw [if_neg (by omega)])); first | done | rfl | (dsimp only; omega) | (exfalso; omega)) (by unfold itm; (repeat (first | rw [if_pos (by omega)] | rw [if_neg (by omega)])); exact ⟨⟨m0, m1, m2, m3, m4, m5, m6, m7, m8⟩, Fr.rf⟩))
      ·
        refine z_iconst hx dX9_isItem_33 ?_
        refine z_goto (tgt := 38) hx dX9_isItem_34 (by decide) ?_
        refine z_icmp_eq (tgt := 43) hx dX9_isItem_38 (by decide) (by decide) (by decide) (fun _ => ?_) (fun q => absurd q (by decide))
        refine z_iload_n hx dX9_isItem_43 rfl 1 rfl ?_
        refine z_if_eq (tgt := 49) hx dX9_isItem_44 (by decide) (by decide) (fun q => absurd q (by decide)) (fun _ => ?_)
        refine z_iconst hx dX9_isItem_47 ?_
        refine z_iret hx hr dX9_isItem_48 rfl rfl (q_j (by unfold itm; (repeat (first | rw [if_pos (by omega)] | rw [if_neg (by omega)])); first | done | rfl | (dsimp only; omega) | (exfalso; omega)) (by unfold itm; (repeat (first | rw [if_pos (by omega)] | rw [if_neg (by omega)])); exact ⟨⟨m0, m1, m2, m3, m4, m5, m6, m7, m8⟩, Fr.rf⟩))

set_option maxHeartbeats 4000000 in
set_option maxRecDepth 20000 in
theorem kX9_isRead (g : Gt) {h : AH} {b : Nat} {S : Nat → Int → Int} (hM : RM h b S) (hL : 0 ≤ S 0 8 ∧ S 0 8 ≤ 150) (hT : ∀ j, 0 ≤ j → j < S 0 8 → 0 ≤ S 7 j ∧ S 7 j ≤ 127) (h3o : ∀ j, ¬ (0 ≤ j ∧ j < 267) → 0 ≤ S 3 j ∧ S 3 j ≤ 2000) : CnJ g mX9_isRead 7 [.ref b] h (rdA S).1 (QM h b (sst (sst S 3 (rdA S).2.2) 0 (rdA S).2.1)) := by
  refine Cn.mk (by decide +kernel) (Nat.le_of_ble_eq_true rfl) ?_
  intro x sz hx hr
  show Zj g x (sz, 0, 0) h 0 [(0, .ref b)] []
  obtain ⟨m0, m1, m2, m3, m4, m5, m6, m7, m8⟩ := hM
  refine z_aload_n hx dX9_isRead_0 rfl 0 rfl ?_
  refine z_get hx dX9_isRead_1 fl_X9_16 m0 rfl ?_
  refine z_cSV (as := [.ref (b + 3)]) (rest := []) hx dX9_isRead_4 lk_X9_47 wt_X9_begin mo_X9_begin (kX9_begin g  m3  ) (by decide) rfl rfl (Nat.le_of_ble_eq_true rfl) (fun h_1 q_2 => ?_)
  obtain ⟨hs_3, hf_4⟩ := q_2
  obtain ⟨f_5, ef_5⟩ : ∃ F : Int → Int, F = beg (S 3) := ⟨_, rfl⟩
  rw [← ef_5] at hs_3
  have h_6 := hf_4.at (by omega) m0
  have h_7 := hf_4.at (by omega) m1
  have h_8 := hf_4.at (by omega) m2
  have h_9 := hf_4.at (by omega) m4
  have h_10 := hf_4.at (by omega) m5
  have h_11 := hf_4.at (by omega) m6
  have h_12 := hf_4.at (by omega) m7
  have h_13 := hf_4.at (by omega) m8
  have fr_14 : Fr h h_1 b 9 := hf_4.wd (by omega) (by omega)
  have hrb : inv f_5 := by rw [ef_5]; exact inv_begR h3o
  refine z_aload_n hx dX9_isRead_7 rfl 0 rfl ?_
  refine z_iconst hx dX9_isRead_8 ?_
  refine z_putQ hx dX9_isRead_9 fl_X9_77 h_6 ⟨rfl, rfl⟩ (Nat.le_of_ble_eq_true rfl) (fun h_15 hs_16 hf_17 => ?_)
  have h_18 := hf_17.at (by omega) h_7
  have h_19 := hf_17.at (by omega) h_8
  have h_20 := hf_17.at (by omega) hs_3
  have h_21 := hf_17.at (by omega) h_9
  have h_22 := hf_17.at (by omega) h_10
  have h_23 := hf_17.at (by omega) h_11
  have h_24 := hf_17.at (by omega) h_12
  have h_25 := hf_17.at (by omega) h_13
  have fr_26 := fr_14.tr (hf_17.wd (by omega) (by omega))
  refine z_aload_n hx dX9_isRead_12 rfl 0 rfl ?_
  refine z_iconst hx dX9_isRead_13 ?_
  refine z_putQ hx dX9_isRead_14 fl_X9_106 hs_16 ⟨rfl, rfl⟩ (Nat.le_of_ble_eq_true rfl) (fun h_27 hs_28 hf_29 => ?_)
  have h_30 := hf_29.at (by omega) h_18
  have h_31 := hf_29.at (by omega) h_19
  have h_32 := hf_29.at (by omega) h_20
  have h_33 := hf_29.at (by omega) h_21
  have h_34 := hf_29.at (by omega) h_22
  have h_35 := hf_29.at (by omega) h_23
  have h_36 := hf_29.at (by omega) h_24
  have h_37 := hf_29.at (by omega) h_25
  have fr_38 := fr_26.tr (hf_29.wd (by omega) (by omega))
  refine z_aload_n hx dX9_isRead_17 rfl 0 rfl ?_
  refine z_cVV (as := []) (rest := []) hx dX9_isRead_18 lk_X9_99 wm_X9_nextToken wv_X9_nextToken (rcv_obj hx hs_28 rfl) mo_X9_nextToken (kX9_nextToken g (S := (sst (sst S 3 f_5) 0 (fup (fup (S 0) 10 0) 15 0))) ⟨hs_28, h_30, h_31, h_32, h_33, h_34, h_35, h_36, h_37⟩ (show _ by exact hL) (show _ by exact hT) (show 0 ≤ 0 ∧ 0 ≤ (S 0 8) by omega)) (by decide) rfl rfl (Nat.le_of_ble_eq_true rfl) (fun h_39 q_40 => ?_)
  obtain ⟨⟨p_41, p_42, p_43, p_44, p_45, p_46, p_47, p_48, p_49⟩, hf_50⟩ := q_40
  obtain ⟨Z_51, eZ_51⟩ : ∃ F : Int → Int, F = nxZ (fup (fup (S 0) 10 0) 15 0) (S 7) := ⟨_, rfl⟩
  have m_52 : h_39 b = some (.inr (.inr (7, [.ref (b + 1), .ref (b + 2), .ref (b + 3), .ref (b + 4), .ref (b + 5), .ref (b + 6), .long (lI (Z_51 6)), .long (lI (Z_51 7)), .int (iI (Z_51 8)), .ref (b + 7), .int (iI (Z_51 10)), .int (iI (Z_51 11)), .int (iI (Z_51 12)), .int (iI (Z_51 13)), .long (lI (Z_51 14)), .int (iI (Z_51 15)), .ref (b + 8)]))) := by rw [eZ_51]; exact p_41
  have m_53 : h_39 (b + 1) = some (.inl (0, 267, S 1)) := p_42
  have m_54 : h_39 (b + 2) = some (.inl (0, 267, S 2)) := p_43
  have m_55 : h_39 (b + 3) = some (.inl (0, 267, f_5)) := p_44
  have m_56 : h_39 (b + 4) = some (.inl (0, 534, S 4)) := p_45
  have m_57 : h_39 (b + 5) = some (.inl (2, 2, S 5)) := p_46
  have m_58 : h_39 (b + 6) = some (.inl (0, 3, S 6)) := p_47
  have m_59 : h_39 (b + 7) = some (.inl (0, 150, S 7)) := p_48
  have m_60 : h_39 (b + 8) = some (.inl (0, 4, S 8)) := p_49
  have z6Z_51 : Z_51 6 = (S 0 6) := by rw [eZ_51]; exact nxZ_n (by decide)
  have z7Z_51 : Z_51 7 = (S 0 7) := by rw [eZ_51]; exact nxZ_n (by decide)
  have z8Z_51 : Z_51 8 = (S 0 8) := by rw [eZ_51]; exact nxZ_n (by decide)
  have z15Z_51 : Z_51 15 = 0 := by rw [eZ_51]; exact nxZ_n (by decide)
  have hzZ_51 : (0 ≤ Z_51 10 ∧ Z_51 10 ≤ (S 0 8)) ∧ (Z_51 12 ≠ 0 → 0 < Z_51 10) ∧ (0 ≤ Z_51 12 ∧ Z_51 12 ≤ 4) ∧ (0 ≤ Z_51 13 ∧ Z_51 13 ≤ 900) ∧ (-1 ≤ Z_51 14 ∧ Z_51 14 < 72057594037927936) ∧ (0 ≤ Z_51 11 ∧ Z_51 11 ≤ (S 0 8)) := by rw [eZ_51]; exact nxZ_rg (Z := (fup (fup (S 0) 10 0) 15 0)) (t := S 7) (show 0 ≤ 0 ∧ 0 ≤ (S 0 8) by omega)
  have hLZ_51 : 0 ≤ Z_51 8 ∧ Z_51 8 ≤ 150 := by rw [z8Z_51]; exact hL
  have hTZ_51 : ∀ j, 0 ≤ j → j < Z_51 8 → 0 ≤ S 7 j ∧ S 7 j ≤ 127 := by rw [z8Z_51]; exact hT
  have fr_61 := fr_38.tr (hf_50.wd (by omega) (by omega))
  have hL_62 : ∀ (mm : Nat) (gZ : Int → Int) (gr : Int → Int) (fu : Nat) (h_63 : AH), (gZ 8 = S 0 8) → (0 ≤ gZ 10 ∧ gZ 10 ≤ gZ 8) → (0 ≤ gZ 12 ∧ gZ 12 ≤ 4) → (-1 ≤ gZ 14 ∧ gZ 14 < 72057594037927936) → (0 ≤ gZ 11 ∧ gZ 11 ≤ 150) → (0 ≤ gZ 15 ∧ gZ 15 ≤ gZ 10) → (inv gr) → (gZ 8 - gZ 10 < fu) → (rdN (S 7) fu gZ gr = rdA S) → (h_63 b = some (.inr (.inr (7, [.ref (b + 1), .ref (b + 2), .ref (b + 3), .ref (b + 4), .ref (b + 5), .ref (b + 6), .long (lI (gZ 6)), .long (lI (gZ 7)), .int (iI (gZ 8)), .ref (b + 7), .int (iI (gZ 10)), .int (iI (gZ 11)), .int (iI (gZ 12)), .int (iI (gZ 13)), .long (lI (gZ 14)), .int (iI (gZ 15)), .ref (b + 8)])))) → (h_63 (b + 1) = some (.inl (0, 267, S 1))) → (h_63 (b + 2) = some (.inl (0, 267, S 2))) → (h_63 (b + 3) = some (.inl (0, 267, gr))) → (h_63 (b + 4) = some (.inl (0, 534, S 4))) → (h_63 (b + 5) = some (.inl (2, 2, S 5))) → (h_63 (b + 6) = some (.inl (0, 3, S 6))) → (h_63 (b + 7) = some (.inl (0, 150, S 7))) → (h_63 (b + 8) = some (.inl (0, 4, S 8))) → (Fr h h_63 b 9) → (fu : Int) < (mm : Int) → Zj g x (sz, 0, 0) h_63 21 [(0, .ref b)] [] := by
    intro mm
    induction mm with
    | zero => intro gZ gr fu h_63 k8 kp kt kw k11 ki hrg kf eg hk_64 hk_65 hk_66 hk_67 hk_68 hk_69 hk_70 hk_71 hk_72 fr_73 hm; exfalso; omega
    | succ mm ih =>
      intro gZ gr fu h_63 k8 kp kt kw k11 ki hrg kf eg hk_64 hk_65 hk_66 hk_67 hk_68 hk_69 hk_70 hk_71 hk_72 fr_73 hm
      have ih_74 := ih; clear ih
      have hLg : 0 ≤ gZ 8 ∧ gZ 8 ≤ 150 := by rw [k8]; exact hL
      have hTg : ∀ j, 0 ≤ j → j < gZ 8 → 0 ≤ S 7 j ∧ S 7 j ≤ 127 := by rw [k8]; exact hT
      obtain ⟨fv, rfl⟩ : ∃ q : Nat, fu = q + 1 := ⟨fu - 1, by omega⟩
      refine z_aload_n hx dX9_isRead_21 rfl 0 rfl ?_
      refine z_get hx dX9_isRead_22 fl_X9_89 hk_64 rfl ?_
      refine z_if_ne (tgt := 35) hx dX9_isRead_25 (by decide) (by omega) (fun c_75 => ?_) (fun c_75 => ?_)
      ·
        refine z_aload_n hx dX9_isRead_35 rfl 0 rfl ?_
        refine z_cVJ (as := []) (rest := []) hx dX9_isRead_36 lk_X9_132 wm_X9_isItem wv_X9_isItem (rcv_obj hx hk_64 rfl) mo_X9_isItem (kX9_isItem g (S := (sst (sst S 3 gr) 0 gZ)) ⟨hk_64, hk_65, hk_66, hk_67, hk_68, hk_69, hk_70, hk_71, hk_72⟩ (show _ by exact hLg) (show _ by exact hTg) (show 0 ≤ (gZ 10) ∧ (gZ 10) ≤ (gZ 8) by omega) (show _ by exact hrg) (show 0 ≤ (gZ 11) ∧ (gZ 11) ≤ 150 by omega) (show -1 ≤ (gZ 14) ∧ (gZ 14) < 72057594037927936 by omega) (show 0 ≤ (gZ 12) ∧ (gZ 12) ≤ 4 by omega) (show 0 ≤ (gZ 15) ∧ (gZ 15) ≤ 1000 by omega)) (by decide) rfl rfl (Nat.le_of_ble_eq_true rfl) (fun h_76 q_77 => ?_)
        show Zj g x (sz, 0, 0) h_76 39 [(0, .ref b)] [.int (iI ((itm (S 7) gZ gr).1))]
        obtain ⟨⟨p_78, p_79, p_80, p_81, p_82, p_83, p_84, p_85, p_86⟩, hf_87⟩ := q_77
        have hIZ_88 : itP gZ (itm (S 7) gZ gr) := itm_P (show _ by exact hLg) (show 0 ≤ (gZ 10) ∧ (gZ 10) ≤ (gZ 8) by omega) (show 0 ≤ (gZ 11) ∧ (gZ 11) ≤ 150 by omega) hrg
        obtain ⟨k_90, Z_88, r_89, eZ_88⟩ : ∃ (k : Int) (Z r : Int → Int), (k, Z, r) = itm (S 7) gZ gr := ⟨_, _, _, rfl⟩
        rw [← eZ_88] at hIZ_88
        have m_91 : h_76 b = some (.inr (.inr (7, [.ref (b + 1), .ref (b + 2), .ref (b + 3), .ref (b + 4), .ref (b + 5), .ref (b + 6), .long (lI (Z_88 6)), .long (lI (Z_88 7)), .int (iI (Z_88 8)), .ref (b + 7), .int (iI (Z_88 10)), .int (iI (Z_88 11)), .int (iI (Z_88 12)), .int (iI (Z_88 13)), .long (lI (Z_88 14)), .int (iI (Z_88 15)), .ref (b + 8)]))) := by rw [show Z_88 = (itm (S 7) gZ gr).2.1 from congrArg (·.2.1) eZ_88]; exact p_78
        have m_92 : h_76 (b + 1) = some (.inl (0, 267, S 1)) := p_79
        have m_93 : h_76 (b + 2) = some (.inl (0, 267, S 2)) := p_80
        have m_94 : h_76 (b + 3) = some (.inl (0, 267, r_89)) := by rw [show r_89 = (itm (S 7) gZ gr).2.2 from congrArg (·.2.2) eZ_88]; exact p_81
        have m_95 : h_76 (b + 4) = some (.inl (0, 534, S 4)) := p_82
        have m_96 : h_76 (b + 5) = some (.inl (2, 2, S 5)) := p_83
        have m_97 : h_76 (b + 6) = some (.inl (0, 3, S 6)) := p_84
        have m_98 : h_76 (b + 7) = some (.inl (0, 150, S 7)) := p_85
        have m_99 : h_76 (b + 8) = some (.inl (0, 4, S 8)) := p_86
        rw [show (itm (S 7) gZ gr).1 = k_90 from (congrArg (·.1) eZ_88).symm]
        have z6Z_88 : Z_88 6 = (gZ 6) := hIZ_88.1 6 (by decide)
        have z7Z_88 : Z_88 7 = (gZ 7) := hIZ_88.1 7 (by decide)
        have z8Z_88 : Z_88 8 = (gZ 8) := hIZ_88.1 8 (by decide)
        have z15Z_88 : Z_88 15 = (gZ 15) := hIZ_88.1 15 (by decide)
        have hzZ_88 : ((gZ 10) ≤ Z_88 10 ∧ Z_88 10 ≤ (gZ 8)) ∧ (k_90 = 0 ∨ k_90 = 1) ∧ (0 ≤ Z_88 11 ∧ Z_88 11 ≤ 150) := ⟨hIZ_88.2.1, hIZ_88.2.2.1, hIZ_88.2.2.2.2⟩
        have hRZ_88 : inv r_89 := hIZ_88.2.2.2.1
        have hLZ_88 : 0 ≤ Z_88 8 ∧ Z_88 8 ≤ 150 := by rw [z8Z_88]; exact hLg
        have hTZ_88 : ∀ j, 0 ≤ j → j < Z_88 8 → 0 ≤ S 7 j ∧ S 7 j ≤ 127 := by rw [z8Z_88]; exact hTg
        have fr_100 := fr_73.tr (hf_87.wd (by omega) (by omega))
        refine z_if_ne (tgt := 44) hx dX9_isRead_39 (by decide) (by omega) (fun c_101 => ?_) (fun c_101 => ?_)
        ·
          refine z_aload_n hx dX9_isRead_44 rfl 0 rfl ?_
          refine z_cVV (as := []) (rest := []) hx dX9_isRead_45 lk_X9_99 wm_X9_nextToken wv_X9_nextToken (rcv_obj hx m_91 rfl) mo_X9_nextToken (kX9_nextToken g (S := (sst (sst S 3 r_89) 0 Z_88)) ⟨m_91, m_92, m_93, m_94, m_95, m_96, m_97, m_98, m_99⟩ (show _ by exact hLZ_88) (show _ by exact hTZ_88) (show 0 ≤ (Z_88 10) ∧ (Z_88 10) ≤ (Z_88 8) by omega)) (by decide) rfl rfl (Nat.le_of_ble_eq_true rfl) (fun h_102 q_103 => ?_)
          obtain ⟨⟨p_104, p_105, p_106, p_107, p_108, p_109, p_110, p_111, p_112⟩, hf_113⟩ := q_103
          obtain ⟨Z_114, eZ_114⟩ : ∃ F : Int → Int, F = nxZ Z_88 (S 7) := ⟨_, rfl⟩
          have m_115 : h_102 b = some (.inr (.inr (7, [.ref (b + 1), .ref (b + 2), .ref (b + 3), .ref (b + 4), .ref (b + 5), .ref (b + 6), .long (lI (Z_114 6)), .long (lI (Z_114 7)), .int (iI (Z_114 8)), .ref (b + 7), .int (iI (Z_114 10)), .int (iI (Z_114 11)), .int (iI (Z_114 12)), .int (iI (Z_114 13)), .long (lI (Z_114 14)), .int (iI (Z_114 15)), .ref (b + 8)]))) := by rw [eZ_114]; exact p_104
          have m_116 : h_102 (b + 1) = some (.inl (0, 267, S 1)) := p_105
          have m_117 : h_102 (b + 2) = some (.inl (0, 267, S 2)) := p_106
          have m_118 : h_102 (b + 3) = some (.inl (0, 267, r_89)) := p_107
          have m_119 : h_102 (b + 4) = some (.inl (0, 534, S 4)) := p_108
          have m_120 : h_102 (b + 5) = some (.inl (2, 2, S 5)) := p_109
          have m_121 : h_102 (b + 6) = some (.inl (0, 3, S 6)) := p_110
          have m_122 : h_102 (b + 7) = some (.inl (0, 150, S 7)) := p_111
          have m_123 : h_102 (b + 8) = some (.inl (0, 4, S 8)) := p_112
          have z6Z_114 : Z_114 6 = (Z_88 6) := by rw [eZ_114]; exact nxZ_n (by decide)
          have z7Z_114 : Z_114 7 = (Z_88 7) := by rw [eZ_114]; exact nxZ_n (by decide)
          have z8Z_114 : Z_114 8 = (Z_88 8) := by rw [eZ_114]; exact nxZ_n (by decide)
          have z15Z_114 : Z_114 15 = (Z_88 15) := by rw [eZ_114]; exact nxZ_n (by decide)
          have hzZ_114 : ((Z_88 10) ≤ Z_114 10 ∧ Z_114 10 ≤ (Z_88 8)) ∧ (Z_114 12 ≠ 0 → (Z_88 10) < Z_114 10) ∧ (0 ≤ Z_114 12 ∧ Z_114 12 ≤ 4) ∧ (0 ≤ Z_114 13 ∧ Z_114 13 ≤ 900) ∧ (-1 ≤ Z_114 14 ∧ Z_114 14 < 72057594037927936) ∧ ((Z_88 10) ≤ Z_114 11 ∧ Z_114 11 ≤ (Z_88 8)) := by rw [eZ_114]; exact nxZ_rg (Z := Z_88) (t := S 7) (show 0 ≤ (Z_88 10) ∧ (Z_88 10) ≤ (Z_88 8) by omega)
          have hLZ_114 : 0 ≤ Z_114 8 ∧ Z_114 8 ≤ 150 := by rw [z8Z_114]; exact hLZ_88
          have hTZ_114 : ∀ j, 0 ≤ j → j < Z_114 8 → 0 ≤ S 7 j ∧ S 7 j ≤ 127 := by rw [z8Z_114]; exact hTZ_88
          have fr_124 := fr_100.tr (hf_113.wd (by omega) (by omega))
          refine z_aload_n hx dX9_isRead_48 rfl 0 rfl ?_
          refine z_get hx dX9_isRead_49 fl_X9_89 m_115 rfl ?_
          refine z_iconst hx dX9_isRead_52 ?_
          refine z_icmp_eq (tgt := 58) hx dX9_isRead_53 (by decide) (by omega) (by decide) (fun c_125 => ?_) (fun c_125 => ?_)
          ·
            refine z_aload_n hx dX9_isRead_58 rfl 0 rfl ?_
            refine z_dup hx dX9_isRead_59 rfl ?_
            refine z_get hx dX9_isRead_60 fl_X9_106 m_115 rfl ?_
            refine z_iconst hx dX9_isRead_63 ?_
            refine z_iadd hx dX9_isRead_64 ?_
            refine z_putQ hx dX9_isRead_65 fl_X9_106 m_115 ⟨rfl, rfl⟩ (Nat.le_of_ble_eq_true rfl) (fun h_126 hs_127 hf_128 => ?_)
            have h_129 := hf_128.at (by omega) m_116
            have h_130 := hf_128.at (by omega) m_117
            have h_131 := hf_128.at (by omega) m_118
            have h_132 := hf_128.at (by omega) m_119
            have h_133 := hf_128.at (by omega) m_120
            have h_134 := hf_128.at (by omega) m_121
            have h_135 := hf_128.at (by omega) m_122
            have h_136 := hf_128.at (by omega) m_123
            have fr_137 := fr_124.tr (hf_128.wd (by omega) (by omega))
            refine z_aload_n hx dX9_isRead_68 rfl 0 rfl ?_
            refine z_cVV (as := []) (rest := []) hx dX9_isRead_69 lk_X9_99 wm_X9_nextToken wv_X9_nextToken (rcv_obj hx hs_127 rfl) mo_X9_nextToken (kX9_nextToken g (S := (sst (sst S 3 r_89) 0 (fup Z_114 15 ((Z_114 15) + 1)))) ⟨hs_127, h_129, h_130, h_131, h_132, h_133, h_134, h_135, h_136⟩ (show _ by exact hLZ_114) (show _ by exact hTZ_114) (show 0 ≤ (Z_114 10) ∧ (Z_114 10) ≤ (Z_114 8) by omega)) (by decide) rfl rfl (Nat.le_of_ble_eq_true rfl) (fun h_138 q_139 => ?_)
            obtain ⟨⟨p_140, p_141, p_142, p_143, p_144, p_145, p_146, p_147, p_148⟩, hf_149⟩ := q_139
            obtain ⟨Z_150, eZ_150⟩ : ∃ F : Int → Int, F = nxZ (fup Z_114 15 ((Z_114 15) + 1)) (S 7) := ⟨_, rfl⟩
            have m_151 : h_138 b = some (.inr (.inr (7, [.ref (b + 1), .ref (b + 2), .ref (b + 3), .ref (b + 4), .ref (b + 5), .ref (b + 6), .long (lI (Z_150 6)), .long (lI (Z_150 7)), .int (iI (Z_150 8)), .ref (b + 7), .int (iI (Z_150 10)), .int (iI (Z_150 11)), .int (iI (Z_150 12)), .int (iI (Z_150 13)), .long (lI (Z_150 14)), .int (iI (Z_150 15)), .ref (b + 8)]))) := by rw [eZ_150]; exact p_140
            have m_152 : h_138 (b + 1) = some (.inl (0, 267, S 1)) := p_141
            have m_153 : h_138 (b + 2) = some (.inl (0, 267, S 2)) := p_142
            have m_154 : h_138 (b + 3) = some (.inl (0, 267, r_89)) := p_143
            have m_155 : h_138 (b + 4) = some (.inl (0, 534, S 4)) := p_144
            have m_156 : h_138 (b + 5) = some (.inl (2, 2, S 5)) := p_145
            have m_157 : h_138 (b + 6) = some (.inl (0, 3, S 6)) := p_146
            have m_158 : h_138 (b + 7) = some (.inl (0, 150, S 7)) := p_147
            have m_159 : h_138 (b + 8) = some (.inl (0, 4, S 8)) := p_148
            have z6Z_150 : Z_150 6 = (Z_114 6) := by rw [eZ_150]; exact nxZ_n (by decide)
            have z7Z_150 : Z_150 7 = (Z_114 7) := by rw [eZ_150]; exact nxZ_n (by decide)
            have z8Z_150 : Z_150 8 = (Z_114 8) := by rw [eZ_150]; exact nxZ_n (by decide)
            have z15Z_150 : Z_150 15 = ((Z_114 15) + 1) := by rw [eZ_150]; exact nxZ_n (by decide)
            have hzZ_150 : ((Z_114 10) ≤ Z_150 10 ∧ Z_150 10 ≤ (Z_114 8)) ∧ (Z_150 12 ≠ 0 → (Z_114 10) < Z_150 10) ∧ (0 ≤ Z_150 12 ∧ Z_150 12 ≤ 4) ∧ (0 ≤ Z_150 13 ∧ Z_150 13 ≤ 900) ∧ (-1 ≤ Z_150 14 ∧ Z_150 14 < 72057594037927936) ∧ ((Z_114 10) ≤ Z_150 11 ∧ Z_150 11 ≤ (Z_114 8)) := by rw [eZ_150]; exact nxZ_rg (Z := (fup Z_114 15 ((Z_114 15) + 1))) (t := S 7) (show 0 ≤ (Z_114 10) ∧ (Z_114 10) ≤ (Z_114 8) by omega)
            have hLZ_150 : 0 ≤ Z_150 8 ∧ Z_150 8 ≤ 150 := by rw [z8Z_150]; exact hLZ_114
            have hTZ_150 : ∀ j, 0 ≤ j → j < Z_150 8 → 0 ≤ S 7 j ∧ S 7 j ≤ 127 := by rw [z8Z_150]; exact hTZ_114
            have fr_160 := fr_137.tr (hf_149.wd (by omega) (by omega))
            refine z_goto (tgt := 21) hx dX9_isRead_72 (by decide) ?_
            have eB : rdN (S 7) (fv + 1) gZ gr = rdN (S 7) fv Z_150 r_89 := by rw [rdN_1 fv (by omega) eZ_88 (by omega), ← eZ_114, if_pos (by omega), ← eZ_150]
            have hrB : inv r_89 := hRZ_88
            have hf15 : (fup Z_114 15 (Z_114 15 + 1)) 15 = Z_114 15 + 1 := fup_s _ _ _
            exact ih_74 Z_150 r_89 fv _ (by omega) (by omega) (by omega) (by omega) (by omega) (by omega) (by exact hrB) (by omega) (by rw [← eB]; exact eg) m_151 m_152 m_153 m_154 m_155 m_156 m_157 m_158 m_159 fr_160 (by omega)
          ·
            refine z_iconst hx dX9_isRead_56 ?_
            refine z_iret hx hr dX9_isRead_57 rfl rfl (by rw [rdN_1 fv (by omega) eZ_88 (by omega), ← eZ_114, if_neg (by omega)] at eg; rw [← eg]; exact q_j rfl ⟨⟨m_115, m_116, m_117, m_118, m_119, m_120, m_121, m_122, m_123⟩, fr_124⟩)
        ·
          refine z_iconst hx dX9_isRead_42 ?_
          refine z_iret hx hr dX9_isRead_43 rfl rfl (by rw [rdN_0 (Z' := Z_88) (r' := r_89) fv (by omega) (by rw [← eZ_88]; congr 1; omega)] at eg; rw [← eg]; exact q_j rfl ⟨⟨m_91, m_92, m_93, m_94, m_95, m_96, m_97, m_98, m_99⟩, fr_100⟩)
      ·
        refine z_aload_n hx dX9_isRead_28 rfl 0 rfl ?_
        refine z_get hx dX9_isRead_29 fl_X9_106 hk_64 rfl ?_
        refine z_if_ne (tgt := 75) hx dX9_isRead_32 (by decide) (by omega) (fun c_161 => ?_) (fun c_161 => ?_)
        ·
          refine z_iconst hx dX9_isRead_75 ?_
          refine z_iret hx hr dX9_isRead_76 rfl rfl (by rw [rdN_e fv (by omega)] at eg; rw [← eg]; exact q_j rfl ⟨⟨hk_64, hk_65, hk_66, hk_67, hk_68, hk_69, hk_70, hk_71, hk_72⟩, fr_73⟩)
        ·
          refine z_aload_n hx dX9_isRead_35 rfl 0 rfl ?_
          refine z_cVJ (as := []) (rest := []) hx dX9_isRead_36 lk_X9_132 wm_X9_isItem wv_X9_isItem (rcv_obj hx hk_64 rfl) mo_X9_isItem (kX9_isItem g (S := (sst (sst S 3 gr) 0 gZ)) ⟨hk_64, hk_65, hk_66, hk_67, hk_68, hk_69, hk_70, hk_71, hk_72⟩ (show _ by exact hLg) (show _ by exact hTg) (show 0 ≤ (gZ 10) ∧ (gZ 10) ≤ (gZ 8) by omega) (show _ by exact hrg) (show 0 ≤ (gZ 11) ∧ (gZ 11) ≤ 150 by omega) (show -1 ≤ (gZ 14) ∧ (gZ 14) < 72057594037927936 by omega) (show 0 ≤ (gZ 12) ∧ (gZ 12) ≤ 4 by omega) (show 0 ≤ (gZ 15) ∧ (gZ 15) ≤ 1000 by omega)) (by decide) rfl rfl (Nat.le_of_ble_eq_true rfl) (fun h_162 q_163 => ?_)
          show Zj g x (sz, 0, 0) h_162 39 [(0, .ref b)] [.int (iI ((itm (S 7) gZ gr).1))]
          obtain ⟨⟨p_164, p_165, p_166, p_167, p_168, p_169, p_170, p_171, p_172⟩, hf_173⟩ := q_163
          have hIZ_174 : itP gZ (itm (S 7) gZ gr) := itm_P (show _ by exact hLg) (show 0 ≤ (gZ 10) ∧ (gZ 10) ≤ (gZ 8) by omega) (show 0 ≤ (gZ 11) ∧ (gZ 11) ≤ 150 by omega) hrg
          obtain ⟨k_176, Z_174, r_175, eZ_174⟩ : ∃ (k : Int) (Z r : Int → Int), (k, Z, r) = itm (S 7) gZ gr := ⟨_, _, _, rfl⟩
          rw [← eZ_174] at hIZ_174
          have m_177 : h_162 b = some (.inr (.inr (7, [.ref (b + 1), .ref (b + 2), .ref (b + 3), .ref (b + 4), .ref (b + 5), .ref (b + 6), .long (lI (Z_174 6)), .long (lI (Z_174 7)), .int (iI (Z_174 8)), .ref (b + 7), .int (iI (Z_174 10)), .int (iI (Z_174 11)), .int (iI (Z_174 12)), .int (iI (Z_174 13)), .long (lI (Z_174 14)), .int (iI (Z_174 15)), .ref (b + 8)]))) := by rw [show Z_174 = (itm (S 7) gZ gr).2.1 from congrArg (·.2.1) eZ_174]; exact p_164
          have m_178 : h_162 (b + 1) = some (.inl (0, 267, S 1)) := p_165
          have m_179 : h_162 (b + 2) = some (.inl (0, 267, S 2)) := p_166
          have m_180 : h_162 (b + 3) = some (.inl (0, 267, r_175)) := by rw [show r_175 = (itm (S 7) gZ gr).2.2 from congrArg (·.2.2) eZ_174]; exact p_167
          have m_181 : h_162 (b + 4) = some (.inl (0, 534, S 4)) := p_168
          have m_182 : h_162 (b + 5) = some (.inl (2, 2, S 5)) := p_169
          have m_183 : h_162 (b + 6) = some (.inl (0, 3, S 6)) := p_170
          have m_184 : h_162 (b + 7) = some (.inl (0, 150, S 7)) := p_171
          have m_185 : h_162 (b + 8) = some (.inl (0, 4, S 8)) := p_172
          rw [show (itm (S 7) gZ gr).1 = k_176 from (congrArg (·.1) eZ_174).symm]
          have z6Z_174 : Z_174 6 = (gZ 6) := hIZ_174.1 6 (by decide)
          have z7Z_174 : Z_174 7 = (gZ 7) := hIZ_174.1 7 (by decide)
          have z8Z_174 : Z_174 8 = (gZ 8) := hIZ_174.1 8 (by decide)
          have z15Z_174 : Z_174 15 = (gZ 15) := hIZ_174.1 15 (by decide)
          have hzZ_174 : ((gZ 10) ≤ Z_174 10 ∧ Z_174 10 ≤ (gZ 8)) ∧ (k_176 = 0 ∨ k_176 = 1) ∧ (0 ≤ Z_174 11 ∧ Z_174 11 ≤ 150) := ⟨hIZ_174.2.1, hIZ_174.2.2.1, hIZ_174.2.2.2.2⟩
          have hRZ_174 : inv r_175 := hIZ_174.2.2.2.1
          have hLZ_174 : 0 ≤ Z_174 8 ∧ Z_174 8 ≤ 150 := by rw [z8Z_174]; exact hLg
          have hTZ_174 : ∀ j, 0 ≤ j → j < Z_174 8 → 0 ≤ S 7 j ∧ S 7 j ≤ 127 := by rw [z8Z_174]; exact hTg
          have fr_186 := fr_73.tr (hf_173.wd (by omega) (by omega))
          refine z_if_ne (tgt := 44) hx dX9_isRead_39 (by decide) (by omega) (fun c_187 => ?_) (fun c_187 => ?_)
          ·
            refine z_aload_n hx dX9_isRead_44 rfl 0 rfl ?_
            refine z_cVV (as := []) (rest := []) hx dX9_isRead_45 lk_X9_99 wm_X9_nextToken wv_X9_nextToken (rcv_obj hx m_177 rfl) mo_X9_nextToken (kX9_nextToken g (S := (sst (sst S 3 r_175) 0 Z_174)) ⟨m_177, m_178, m_179, m_180, m_181, m_182, m_183, m_184, m_185⟩ (show _ by exact hLZ_174) (show _ by exact hTZ_174) (show 0 ≤ (Z_174 10) ∧ (Z_174 10) ≤ (Z_174 8) by omega)) (by decide) rfl rfl (Nat.le_of_ble_eq_true rfl) (fun h_188 q_189 => ?_)
            obtain ⟨⟨p_190, p_191, p_192, p_193, p_194, p_195, p_196, p_197, p_198⟩, hf_199⟩ := q_189
            obtain ⟨Z_200, eZ_200⟩ : ∃ F : Int → Int, F = nxZ Z_174 (S 7) := ⟨_, rfl⟩
            have m_201 : h_188 b = some (.inr (.inr (7, [.ref (b + 1), .ref (b + 2), .ref (b + 3), .ref (b + 4), .ref (b + 5), .ref (b + 6), .long (lI (Z_200 6)), .long (lI (Z_200 7)), .int (iI (Z_200 8)), .ref (b + 7), .int (iI (Z_200 10)), .int (iI (Z_200 11)), .int (iI (Z_200 12)), .int (iI (Z_200 13)), .long (lI (Z_200 14)), .int (iI (Z_200 15)), .ref (b + 8)]))) := by rw [eZ_200]; exact p_190
            have m_202 : h_188 (b + 1) = some (.inl (0, 267, S 1)) := p_191
            have m_203 : h_188 (b + 2) = some (.inl (0, 267, S 2)) := p_192
            have m_204 : h_188 (b + 3) = some (.inl (0, 267, r_175)) := p_193
            have m_205 : h_188 (b + 4) = some (.inl (0, 534, S 4)) := p_194
            have m_206 : h_188 (b + 5) = some (.inl (2, 2, S 5)) := p_195
            have m_207 : h_188 (b + 6) = some (.inl (0, 3, S 6)) := p_196
            have m_208 : h_188 (b + 7) = some (.inl (0, 150, S 7)) := p_197
            have m_209 : h_188 (b + 8) = some (.inl (0, 4, S 8)) := p_198
            have z6Z_200 : Z_200 6 = (Z_174 6) := by rw [eZ_200]; exact nxZ_n (by decide)
            have z7Z_200 : Z_200 7 = (Z_174 7) := by rw [eZ_200]; exact nxZ_n (by decide)
            have z8Z_200 : Z_200 8 = (Z_174 8) := by rw [eZ_200]; exact nxZ_n (by decide)
            have z15Z_200 : Z_200 15 = (Z_174 15) := by rw [eZ_200]; exact nxZ_n (by decide)
            have hzZ_200 : ((Z_174 10) ≤ Z_200 10 ∧ Z_200 10 ≤ (Z_174 8)) ∧ (Z_200 12 ≠ 0 → (Z_174 10) < Z_200 10) ∧ (0 ≤ Z_200 12 ∧ Z_200 12 ≤ 4) ∧ (0 ≤ Z_200 13 ∧ Z_200 13 ≤ 900) ∧ (-1 ≤ Z_200 14 ∧ Z_200 14 < 72057594037927936) ∧ ((Z_174 10) ≤ Z_200 11 ∧ Z_200 11 ≤ (Z_174 8)) := by rw [eZ_200]; exact nxZ_rg (Z := Z_174) (t := S 7) (show 0 ≤ (Z_174 10) ∧ (Z_174 10) ≤ (Z_174 8) by omega)
            have hLZ_200 : 0 ≤ Z_200 8 ∧ Z_200 8 ≤ 150 := by rw [z8Z_200]; exact hLZ_174
            have hTZ_200 : ∀ j, 0 ≤ j → j < Z_200 8 → 0 ≤ S 7 j ∧ S 7 j ≤ 127 := by rw [z8Z_200]; exact hTZ_174
            have fr_210 := fr_186.tr (hf_199.wd (by omega) (by omega))
            refine z_aload_n hx dX9_isRead_48 rfl 0 rfl ?_
            refine z_get hx dX9_isRead_49 fl_X9_89 m_201 rfl ?_
            refine z_iconst hx dX9_isRead_52 ?_
            refine z_icmp_eq (tgt := 58) hx dX9_isRead_53 (by decide) (by omega) (by decide) (fun c_211 => ?_) (fun c_211 => ?_)
            ·
              refine z_aload_n hx dX9_isRead_58 rfl 0 rfl ?_
              refine z_dup hx dX9_isRead_59 rfl ?_
              refine z_get hx dX9_isRead_60 fl_X9_106 m_201 rfl ?_
              refine z_iconst hx dX9_isRead_63 ?_
              refine z_iadd hx dX9_isRead_64 ?_
              refine z_putQ hx dX9_isRead_65 fl_X9_106 m_201 ⟨rfl, rfl⟩ (Nat.le_of_ble_eq_true rfl) (fun h_212 hs_213 hf_214 => ?_)
              have h_215 := hf_214.at (by omega) m_202
              have h_216 := hf_214.at (by omega) m_203
              have h_217 := hf_214.at (by omega) m_204
              have h_218 := hf_214.at (by omega) m_205
              have h_219 := hf_214.at (by omega) m_206
              have h_220 := hf_214.at (by omega) m_207
              have h_221 := hf_214.at (by omega) m_208
              have h_222 := hf_214.at (by omega) m_209
              have fr_223 := fr_210.tr (hf_214.wd (by omega) (by omega))
              refine z_aload_n hx dX9_isRead_68 rfl 0 rfl ?_
              refine z_cVV (as := []) (rest := []) hx dX9_isRead_69 lk_X9_99 wm_X9_nextToken wv_X9_nextToken (rcv_obj hx hs_213 rfl) mo_X9_nextToken (kX9_nextToken g (S := (sst (sst S 3 r_175) 0 (fup Z_200 15 ((Z_200 15) + 1)))) ⟨hs_213, h_215, h_216, h_217, h_218, h_219, h_220, h_221, h_222⟩ (show _ by exact hLZ_200) (show _ by exact hTZ_200) (show 0 ≤ (Z_200 10) ∧ (Z_200 10) ≤ (Z_200 8) by omega)) (by decide) rfl rfl (Nat.le_of_ble_eq_true rfl) (fun h_224 q_225 => ?_)
              obtain ⟨⟨p_226, p_227, p_228, p_229, p_230, p_231, p_232, p_233, p_234⟩, hf_235⟩ := q_225
              obtain ⟨Z_236, eZ_236⟩ : ∃ F : Int → Int, F = nxZ (fup Z_200 15 ((Z_200 15) + 1)) (S 7) := ⟨_, rfl⟩
              have m_237 : h_224 b = some (.inr (.inr (7, [.ref (b + 1), .ref (b + 2), .ref (b + 3), .ref (b + 4), .ref (b + 5), .ref (b + 6), .long (lI (Z_236 6)), .long (lI (Z_236 7)), .int (iI (Z_236 8)), .ref (b + 7), .int (iI (Z_236 10)), .int (iI (Z_236 11)), .int (iI (Z_236 12)), .int (iI (Z_236 13)), .long (lI (Z_236 14)), .int (iI (Z_236 15)), .ref (b + 8)]))) := by rw [eZ_236]; exact p_226
              have m_238 : h_224 (b + 1) = some (.inl (0, 267, S 1)) := p_227
              have m_239 : h_224 (b + 2) = some (.inl (0, 267, S 2)) := p_228
              have m_240 : h_224 (b + 3) = some (.inl (0, 267, r_175)) := p_229
              have m_241 : h_224 (b + 4) = some (.inl (0, 534, S 4)) := p_230
              have m_242 : h_224 (b + 5) = some (.inl (2, 2, S 5)) := p_231
              have m_243 : h_224 (b + 6) = some (.inl (0, 3, S 6)) := p_232
              have m_244 : h_224 (b + 7) = some (.inl (0, 150, S 7)) := p_233
              have m_245 : h_224 (b + 8) = some (.inl (0, 4, S 8)) := p_234
              have z6Z_236 : Z_236 6 = (Z_200 6) := by rw [eZ_236]; exact nxZ_n (by decide)
              have z7Z_236 : Z_236 7 = (Z_200 7) := by rw [eZ_236]; exact nxZ_n (by decide)
              have z8Z_236 : Z_236 8 = (Z_200 8) := by rw [eZ_236]; exact nxZ_n (by decide)
              have z15Z_236 : Z_236 15 = ((Z_200 15) + 1) := by rw [eZ_236]; exact nxZ_n (by decide)
              have hzZ_236 : ((Z_200 10) ≤ Z_236 10 ∧ Z_236 10 ≤ (Z_200 8)) ∧ (Z_236 12 ≠ 0 → (Z_200 10) < Z_236 10) ∧ (0 ≤ Z_236 12 ∧ Z_236 12 ≤ 4) ∧ (0 ≤ Z_236 13 ∧ Z_236 13 ≤ 900) ∧ (-1 ≤ Z_236 14 ∧ Z_236 14 < 72057594037927936) ∧ ((Z_200 10) ≤ Z_236 11 ∧ Z_236 11 ≤ (Z_200 8)) := by rw [eZ_236]; exact nxZ_rg (Z := (fup Z_200 15 ((Z_200 15) + 1))) (t := S 7) (show 0 ≤ (Z_200 10) ∧ (Z_200 10) ≤ (Z_200 8) by omega)
              have hLZ_236 : 0 ≤ Z_236 8 ∧ Z_236 8 ≤ 150 := by rw [z8Z_236]; exact hLZ_200
              have hTZ_236 : ∀ j, 0 ≤ j → j < Z_236 8 → 0 ≤ S 7 j ∧ S 7 j ≤ 127 := by rw [z8Z_236]; exact hTZ_200
              have fr_246 := fr_223.tr (hf_235.wd (by omega) (by omega))
              refine z_goto (tgt := 21) hx dX9_isRead_72 (by decide) ?_
              have eB : rdN (S 7) (fv + 1) gZ gr = rdN (S 7) fv Z_236 r_175 := by rw [rdN_1 fv (by omega) eZ_174 (by omega), ← eZ_200, if_pos (by omega), ← eZ_236]
              have hrB : inv r_175 := hRZ_174
              have hf15 : (fup Z_200 15 (Z_200 15 + 1)) 15 = Z_200 15 + 1 := fup_s _ _ _
              exact ih_74 Z_236 r_175 fv _ (by omega) (by omega) (by omega) (by omega) (by omega) (by omega) (by exact hrB) (by omega) (by rw [← eB]; exact eg) m_237 m_238 m_239 m_240 m_241 m_242 m_243 m_244 m_245 fr_246 (by omega)
            ·
              refine z_iconst hx dX9_isRead_56 ?_
              refine z_iret hx hr dX9_isRead_57 rfl rfl (by rw [rdN_1 fv (by omega) eZ_174 (by omega), ← eZ_200, if_neg (by omega)] at eg; rw [← eg]; exact q_j rfl ⟨⟨m_201, m_202, m_203, m_204, m_205, m_206, m_207, m_208, m_209⟩, fr_210⟩)
          ·
            refine z_iconst hx dX9_isRead_42 ?_
            refine z_iret hx hr dX9_isRead_43 rfl rfl (by rw [rdN_0 (Z' := Z_174) (r' := r_175) fv (by omega) (by rw [← eZ_174]; congr 1; omega)] at eg; rw [← eg]; exact q_j rfl ⟨⟨m_177, m_178, m_179, m_180, m_181, m_182, m_183, m_184, m_185⟩, fr_186⟩)
  exact hL_62 ((152 : Int) + 1 : Int).toNat Z_51 f_5 152 _ (by omega) (by omega) (by omega) (by omega) (by omega) (by omega) (by exact hrb) (by omega) (by rw [eZ_51, ef_5]; rfl) m_52 m_53 m_54 m_55 m_56 m_57 m_58 m_59 m_60 fr_61 (by omega)

def rdP (Z0 : Int → Int) (X : Int × (Int → Int) × (Int → Int)) : Prop := (∀ j, j < 10 ∨ 15 < j → X.2.1 j = Z0 j) ∧ (X.1 = 0 ∨ X.1 = 1) ∧ inv X.2.2 ∧ (0 ≤ X.2.1 11 ∧ X.2.1 11 ≤ 150) ∧ (0 ≤ X.2.1 15 ∧ X.2.1 15 ≤ 150)
theorem rdN_P {t : Int → Int} : ∀ (m : Nat) {Z r : Int → Int}, 0 ≤ Z 8 ∧ Z 8 ≤ 150 → 0 ≤ Z 10 ∧ Z 10 ≤ Z 8 → 0 ≤ Z 11 ∧ Z 11 ≤ 150 → 0 ≤ Z 15 ∧ Z 15 ≤ Z 10 → inv r → rdP Z (rdN t m Z r) := by
  intro m
  induction m with
  | zero => intro Z r h8 h10 h11 h15 hr; exact ⟨fun _ _ => rfl, Or.inr rfl, hr, h11, h15.1, show Z 15 ≤ 150 by omega⟩
  | succ m ih =>
    intro Z r h8 h10 h11 h15 hr
    by_cases c : Z 12 = 0 ∧ Z 15 ≠ 0
    · rw [rdN_e m c]; exact ⟨fun _ _ => rfl, Or.inr rfl, hr, h11, h15.1, show Z 15 ≤ 150 by omega⟩
    · have hI := itm_P (t := t) h8 h10 h11 hr
      obtain ⟨k, Z', r', e⟩ : ∃ (k : Int) (Z' r' : Int → Int), (k, Z', r') = itm t Z r := ⟨_, _, _, rfl⟩
      rw [← e] at hI
      obtain ⟨i1, i2, i3, i4, i5⟩ := hI
      dsimp only at i1 i2 i3 i4 i5
      have z8 := i1 8 (by decide)
      have z15 := i1 15 (by decide)
      by_cases ck : k = 0
      · subst ck
        rw [rdN_0 m c e]
        exact ⟨fun j hj => i1 j (by omega), Or.inl rfl, i4, i5, show 0 ≤ Z' 15 by omega, show Z' 15 ≤ 150 by omega⟩
      · rw [rdN_1 m c e ck]
        have n1 := nxZ_rg (Z := Z') (t := t) (by omega)
        have n8 := nxZ_n (Z := Z') (t := t) (j := 8) (by decide)
        have n15 := nxZ_n (Z := Z') (t := t) (j := 15) (by decide)
        have nn := fun (j : Int) (hj : j < 10 ∨ 14 < j) => nxZ_n (Z := Z') (t := t) hj
        obtain ⟨Z1, e1⟩ : ∃ F : Int → Int, F = nxZ Z' t := ⟨_, rfl⟩
        rw [← e1] at n1 n8 n15 nn ⊢
        split
        · next c3 =>
          have f15 : (fup Z1 15 (Z1 15 + 1)) 15 = Z1 15 + 1 := fup_s _ _ _
          have fo : ∀ j, j ≠ 15 → (fup Z1 15 (Z1 15 + 1)) j = Z1 j := fun j hj => fup_n hj
          have f8 := fo 8 (by decide)
          have f10 := fo 10 (by decide)
          obtain ⟨Z2, e2⟩ : ∃ F : Int → Int, F = fup Z1 15 (Z1 15 + 1) := ⟨_, rfl⟩
          rw [← e2] at f15 fo f8 f10 ⊢
          have m1 := nxZ_rg (Z := Z2) (t := t) (by omega)
          have m8 := nxZ_n (Z := Z2) (t := t) (j := 8) (by decide)
          have m15 := nxZ_n (Z := Z2) (t := t) (j := 15) (by decide)
          have R := ih (Z := nxZ Z2 t) (r := r') (by omega) (by omega) (by omega) (by omega) i4
          refine ⟨fun j hj => ?_, R.2⟩
          rw [R.1 j hj, nxZ_n (by omega), fo j (by omega), nn j (by omega), i1 j (by omega)]
        · exact ⟨fun j hj => (nn j (by omega)).trans (i1 j (by omega)), Or.inl rfl, i4, ⟨show 0 ≤ Z1 11 by omega, show Z1 11 ≤ 150 by omega⟩, show 0 ≤ Z1 15 by omega, show Z1 15 ≤ 150 by omega⟩
theorem rdA_P {S : Nat → Int → Int} (hL : 0 ≤ S 0 8 ∧ S 0 8 ≤ 150) (h3o : ∀ j, ¬ (0 ≤ j ∧ j < 267) → 0 ≤ S 3 j ∧ S 3 j ≤ 2000) : rdP (S 0) (rdA S) := by
  obtain ⟨Z0, e0⟩ : ∃ F : Int → Int, F = fup (fup (S 0) 10 0) 15 0 := ⟨_, rfl⟩
  have f15 : Z0 15 = 0 := by rw [e0]; exact fup_s _ _ _
  have f10 : Z0 10 = 0 := by rw [e0, fup_n (by decide)]; exact fup_s _ _ _
  have fo : ∀ j, j < 10 ∨ 15 < j → Z0 j = S 0 j := fun j hj => by rw [e0, fup_n (by omega), fup_n (by omega)]
  have f8 := fo 8 (by decide)
  have m1 := nxZ_rg (Z := Z0) (t := S 7) (by omega)
  have m8 := nxZ_n (Z := Z0) (t := S 7) (j := 8) (by decide)
  have m15 := nxZ_n (Z := Z0) (t := S 7) (j := 15) (by decide)
  have R := rdN_P (t := S 7) 152 (Z := nxZ Z0 (S 7)) (r := beg (S 3)) (by omega) (by omega) (by omega) (by omega) (inv_begR h3o)
  unfold rdA
  rw [← e0]
  exact ⟨fun j hj => by rw [R.1 j hj, nxZ_n (by omega), fo j hj], R.2⟩

set_option maxHeartbeats 4000000 in
set_option maxRecDepth 20000 in
theorem kX9_read (g : Gt) {h : AH} {b : Nat} {S : Nat → Int → Int} (hM : RM h b S) (hV : invM S) : CnJ g mX9_read 8 [.ref b] h (readA S).1 (QM h b (readA S).2) := by
  refine Cn.mk (by decide +kernel) (Nat.le_of_ble_eq_true rfl) ?_
  intro x sz hx hr
  show Zj g x (sz, 0, 0) h 0 [(0, .ref b)] []
  obtain ⟨m0, m1, m2, m3, m4, m5, m6, m7, m8⟩ := hM
  have hL := hV.2.2.2.1
  have hT := hV.2.2.2.2.1
  have h3o := hV.2.2.1
  refine z_aload_n hx dX9_read_0 rfl 0 rfl ?_
  refine z_cVJ (as := []) (rest := []) hx dX9_read_1 lk_X9_135 wm_X9_isRead wv_X9_isRead (rcv_obj hx m0 rfl) mo_X9_isRead (kX9_isRead g (S := S) ⟨m0, m1, m2, m3, m4, m5, m6, m7, m8⟩ hL hT h3o) (by decide) rfl rfl (Nat.le_of_ble_eq_true rfl) (fun h_1 q_2 => ?_)
  show Zj g x (sz, 0, 0) h_1 4 [(0, .ref b)] [.int (iI ((rdA S).1))]
  obtain ⟨⟨p_3, p_4, p_5, p_6, p_7, p_8, p_9, p_10, p_11⟩, hf_12⟩ := q_2
  have hIZ_13 : rdP (S 0) (rdA S) := rdA_P hL h3o
  obtain ⟨k_15, Z_13, r_14, eZ_13⟩ : ∃ (k : Int) (Z r : Int → Int), (k, Z, r) = rdA S := ⟨_, _, _, rfl⟩
  rw [← eZ_13] at hIZ_13
  have m_16 : h_1 b = some (.inr (.inr (7, [.ref (b + 1), .ref (b + 2), .ref (b + 3), .ref (b + 4), .ref (b + 5), .ref (b + 6), .long (lI (Z_13 6)), .long (lI (Z_13 7)), .int (iI (Z_13 8)), .ref (b + 7), .int (iI (Z_13 10)), .int (iI (Z_13 11)), .int (iI (Z_13 12)), .int (iI (Z_13 13)), .long (lI (Z_13 14)), .int (iI (Z_13 15)), .ref (b + 8)]))) := by rw [show Z_13 = (rdA S).2.1 from congrArg (·.2.1) eZ_13]; exact p_3
  have m_17 : h_1 (b + 1) = some (.inl (0, 267, S 1)) := p_4
  have m_18 : h_1 (b + 2) = some (.inl (0, 267, S 2)) := p_5
  have m_19 : h_1 (b + 3) = some (.inl (0, 267, r_14)) := by rw [show r_14 = (rdA S).2.2 from congrArg (·.2.2) eZ_13]; exact p_6
  have m_20 : h_1 (b + 4) = some (.inl (0, 534, S 4)) := p_7
  have m_21 : h_1 (b + 5) = some (.inl (2, 2, S 5)) := p_8
  have m_22 : h_1 (b + 6) = some (.inl (0, 3, S 6)) := p_9
  have m_23 : h_1 (b + 7) = some (.inl (0, 150, S 7)) := p_10
  have m_24 : h_1 (b + 8) = some (.inl (0, 4, S 8)) := p_11
  rw [show (rdA S).1 = k_15 from (congrArg (·.1) eZ_13).symm]
  have hzZ_13 := hIZ_13.2
  dsimp only at hzZ_13
  have fr_25 : Fr h h_1 b 9 := hf_12.wd (by omega) (by omega)
  refine z_if_ne (tgt := 15) hx dX9_read_4 (by decide) (by omega) (fun c_26 => ?_) (fun c_26 => ?_)
  ·
    refine z_aload_n hx dX9_read_15 rfl 0 rfl ?_
    refine z_get hx dX9_read_16 fl_X9_16 m_16 rfl ?_
    refine z_iconst hx dX9_read_19 ?_
    refine z_aload_n hx dX9_read_20 rfl 0 rfl ?_
    refine z_get hx dX9_read_21 fl_X9_7 m_16 rfl ?_
    refine z_iconst hx dX9_read_24 ?_
    refine z_sipush hx dX9_read_25 (by decide) ?_
    refine z_cSV (as := [.ref (b + 3), .int (iI 0), .ref (b + 1), .int (iI 0), .int (iI 267)]) (rest := []) hx dX9_read_28 lk_X9_138 wt_X9_bring mo_X9_bring (kX9_bring_ne g m_19 m_17 (by omega) (by decide) (by decide) (by decide) (by decide)) (by decide) rfl rfl (Nat.le_of_ble_eq_true rfl) (fun h_27 q_28 => ?_)
    obtain ⟨hs_29, hf_30⟩ := q_28
    obtain ⟨f_31, ef_31⟩ : ∃ F : Int → Int, F = fcp r_14 (S 1) 0 0 267 := ⟨_, rfl⟩
    rw [← ef_31] at hs_29
    have h_32 := hf_30.at (by omega) m_16
    have h_33 := hf_30.at (by omega) m_18
    have h_34 := hf_30.at (by omega) m_19
    have h_35 := hf_30.at (by omega) m_20
    have h_36 := hf_30.at (by omega) m_21
    have h_37 := hf_30.at (by omega) m_22
    have h_38 := hf_30.at (by omega) m_23
    have h_39 := hf_30.at (by omega) m_24
    have fr_40 := fr_25.tr (hf_30.wd (by omega) (by omega))
    rw [ef_31] at hs_29
    refine z_aload_n hx dX9_read_31 rfl 0 rfl ?_
    refine z_get hx dX9_read_32 fl_X9_106 h_32 rfl ?_
    refine z_iret hx hr dX9_read_35 rfl rfl (q_j (by unfold readA; rw [← eZ_13]; dsimp only; (repeat (first | rw [if_pos (by omega)] | rw [if_neg (by omega)]))) (by unfold readA; rw [← eZ_13]; dsimp only; (repeat (first | rw [if_pos (by omega)] | rw [if_neg (by omega)])); exact ⟨⟨h_32, hs_29, h_33, h_34, h_35, h_36, h_37, h_38, h_39⟩, fr_40⟩))
  ·
    refine z_bipush hx dX9_read_7 (by decide) ?_
    refine z_aload_n hx dX9_read_9 rfl 0 rfl ?_
    refine z_get hx dX9_read_10 fl_X9_80 m_16 rfl ?_
    refine z_isub hx dX9_read_13 ?_
    refine z_iret hx hr dX9_read_14 rfl rfl (q_j (by unfold readA; rw [← eZ_13]; dsimp only; (repeat (first | rw [if_pos (by omega)] | rw [if_neg (by omega)]))) (by unfold readA; rw [← eZ_13]; dsimp only; (repeat (first | rw [if_pos (by omega)] | rw [if_neg (by omega)])); exact ⟨⟨m_16, m_17, m_18, m_19, m_20, m_21, m_22, m_23, m_24⟩, fr_25⟩))

