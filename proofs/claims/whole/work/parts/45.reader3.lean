/-! the class: a text read -/
section Rd2
variable {t : Int → Int} {X : Int × (Int → Int) × (Int → Int)} {w nr it L b1 b2 b3 b4 i e1 e2 e3 : Int} {nb nb' Z r : Int → Int} {m : Nat} {F F' : Nat → Int → Int}
theorem S_step (h : RSt t X w nr nb Z r m) (hz : TKZ (nxZ Z t) L b1 b2 b3 b4) (hI : inv r) (hF : RLC F r) (h8 : Z 8 = L) (hi : 0 ≤ i ∧ i ≤ Z 10 ∧ Z 10 ≤ L) (h15 : Z 15 = it) (hit : 0 ≤ it ∧ it ≤ i) (hm : (m : Int) + it = 151) (h150 : i ≤ 150) (hp : TP w nr b3 b4 it r)
    (hc : (w = -1 ∧ F' = F ∧ nb' = nb ∧ e1 = it ∧ e2 = b4 ∧ e3 = 0) ∨ (w ≠ -1 ∧ nr < cn9 w ∧ F' = F ∧ nb' = fup nb nr b4 ∧ e1 = it ∧ e2 = w ∧ e3 = nr + 1) ∨ (w ≠ -1 ∧ ¬ nr < cn9 w ∧ nb' = nb ∧ e1 = it + 1 ∧ e2 = -1 ∧ e3 = nr ∧ RLC F' (ad9 w nb r))) :
    ∃ (Z2 r2 : Int → Int) (m2 : Nat), RSt t X e2 e3 nb' Z2 r2 m2 ∧ RLC F' r2 ∧ inv r2 ∧ (Z2 8 = L ∧ i + 1 ≤ Z2 10 ∧ Z2 10 ≤ L ∧ b2 = Z2 10 ∧ Z2 15 = e1) ∧ ((0 ≤ e1 ∧ e1 ≤ i + 1) ∧ (m2 : Int) + e1 = 151) ∧ ((-1 ≤ e2 ∧ e2 ≤ 4) ∧ 0 ≤ e3 ∧ e3 ≤ 3) := by
  have g := nxZ_rg (Z := Z) (t := t) (by omega)
  have z8 := nxZ_n (Z := Z) (t := t) (j := 8) (by decide)
  have z15 := nxZ_n (Z := Z) (t := t) (j := 15) (by decide)
  have hwr : w = -1 ∨ ((0 ≤ w ∧ w ≤ 4) ∧ (0 ≤ nr ∧ nr ≤ cn9 w) ∧ rm9 w r ∧ ∀ i, 0 ≤ i → i < nr → lo9 w i ≤ nb i ∧ nb i ≤ hi9 w i r) := h.imp (fun q => q.1) (fun q => ⟨q.1, q.2.1, q.2.2.1, q.2.2.2.1⟩)
  have hcn := cn9_c w
  rcases hc with ⟨hw, rfl, rfl, rfl, rfl, rfl⟩ | ⟨hw, hlt, rfl, rfl, rfl, rfl, rfl⟩ | ⟨hw, hlt, rfl, rfl, rfl, rfl, hR⟩
  · have q := S_ok1 h hz hI.n (z15.trans h15) hw hp
    have q3 := hp.1 hw
    have hb4 : 0 ≤ e2 ∧ e2 ≤ 4 := by
      rcases hz.2 with p | p | p | p | p
      · omega
      · omega
      · omega
      · exact p.2.2.1
      · omega
    exact ⟨nxZ Z t, r, m, q.1, hF, hI, ⟨z8.trans h8, by have := g.2.1 q.2.2; omega, by omega, q.2.1, z15.trans h15⟩, ⟨by omega, hm⟩, by omega, by omega⟩
  · have q := S_ok2 h hz hw hlt hp
    exact ⟨nxZ Z t, r, m, q.1, hF, hI, ⟨z8.trans h8, by have := g.2.1 q.2.2; omega, by omega, q.2.1, z15.trans h15⟩, ⟨by omega, hm⟩, by omega, by omega⟩
  · have q := S_ok3 h hz hw hlt hp (by omega)
    rcases hwr with w1 | ⟨w1, w2, w3, w4⟩
    · omega
    · have f10 : fup (nxZ Z t) 15 (nxZ Z t 15 + 1) 10 = nxZ Z t 10 := fup_n (by decide)
      have f8 : fup (nxZ Z t) 15 (nxZ Z t 15 + 1) 8 = nxZ Z t 8 := fup_n (by decide)
      have f15 : fup (nxZ Z t) 15 (nxZ Z t 15 + 1) 15 = nxZ Z t 15 + 1 := fup_s _ _ _
      exact ⟨fup (nxZ Z t) 15 (nxZ Z t 15 + 1), ad9 w nb' r, m - 1, q.1, hR, inv_ad9 hI w1 w3 (fun j a b => w4 j a (by omega)), ⟨by omega, by have := g.2.1 q.2.2; omega, by omega, by omega, by omega⟩, ⟨by omega, by omega⟩, by omega, by omega⟩
theorem itm_o (hI : inv r) (hL : 0 ≤ Z 8 ∧ Z 8 ≤ 150) (hP : 0 ≤ Z 10 ∧ Z 10 ≤ Z 8) {j : Int} (hj : j = 0 ∨ 39 ≤ j) : (itm t Z r).2.2 j = r j := by
  have hn := hI.n
  unfold itm
  split
  · split
    · split <;> rfl
    · split
      · rfl
      · split
        · unfold itC
          split
          · rfl
          · split
            · split
              · split
                · exact acs_o (by omega) hj
                · rfl
              · rfl
            · rfl
        · split
          · unfold itH
            split
            · rfl
            · split
              · exact ahu_o (by omega) hj
              · rfl
          · split
            · unfold itS
              split
              · rfl
              · split
                · exact ash_o (by omega) hj
                · rfl
            · split
              · unfold itW
                split
                · next c =>
                  split
                  · exact fup_n (by have := c.2; omega)
                  · rfl
                · rfl
              · rfl
  · rfl
theorem rdN_o {j : Int} (hj : j = 0 ∨ 39 ≤ j) : ∀ (m : Nat) {Z r : Int → Int}, 0 ≤ Z 8 ∧ Z 8 ≤ 150 → 0 ≤ Z 10 ∧ Z 10 ≤ Z 8 → 0 ≤ Z 11 ∧ Z 11 ≤ 150 → inv r → (rdN t m Z r).2.2 j = r j := by
  intro m
  induction m with
  | zero => intro Z r _ _ _ _; rfl
  | succ m ih =>
    intro Z r h8 h10 h11 hr
    by_cases c : Z 12 = 0 ∧ Z 15 ≠ 0
    · rw [rdN_e m c]
    · have hI := itm_P (t := t) h8 h10 h11 hr
      have hO := itm_o (t := t) hr h8 h10 hj
      obtain ⟨k, Z', r', e⟩ : ∃ (k : Int) (Z' r' : Int → Int), (k, Z', r') = itm t Z r := ⟨_, _, _, rfl⟩
      rw [← e] at hI hO
      obtain ⟨i1, i2, i3, i4, i5⟩ := hI
      dsimp only at i1 i2 i3 i4 i5 hO
      have z8 := i1 8 (by decide)
      by_cases ck : k = 0
      · subst ck
        rw [rdN_0 m c e]; exact hO
      · rw [rdN_1 m c e ck]
        have n1 := nxZ_rg (Z := Z') (t := t) (by omega)
        have n8 := nxZ_n (Z := Z') (t := t) (j := 8) (by decide)
        obtain ⟨Z1, e1⟩ : ∃ F : Int → Int, F = nxZ Z' t := ⟨_, rfl⟩
        rw [← e1] at n1 n8 ⊢
        split
        · have fo : ∀ j, j ≠ 15 → (fup Z1 15 (Z1 15 + 1)) j = Z1 j := fun j hj => fup_n hj
          have f8 := fo 8 (by decide)
          have f10 := fo 10 (by decide)
          obtain ⟨Z2, e2⟩ : ∃ F : Int → Int, F = fup Z1 15 (Z1 15 + 1) := ⟨_, rfl⟩
          rw [← e2] at f8 f10 ⊢
          have m1 := nxZ_rg (Z := Z2) (t := t) (by omega)
          have m8 := nxZ_n (Z := Z2) (t := t) (j := 8) (by decide)
          rw [ih (by omega) (by omega) (by omega) i4]
          exact hO
        · exact hO
end Rd2
theorem rdA_Q {S : Nat → Int → Int} (hV : invM S) : ((∀ j, j < 10 ∨ 15 < j → (rdA S).2.1 j = S 0 j) ∧ ((rdA S).1 = 0 ∨ (rdA S).1 = 1) ∧ inv (rdA S).2.2 ∧ (0 ≤ (rdA S).2.1 11 ∧ (rdA S).2.1 11 ≤ 150) ∧ (0 ≤ (rdA S).2.1 15 ∧ (rdA S).2.1 15 ≤ 150)) ∧ ∀ j, j = 0 ∨ (39 ≤ j ∧ j < 267) → (rdA S).2.2 j = 0 := by
  have hL := hV.2.2.2.1
  obtain ⟨Z0, e0⟩ : ∃ F : Int → Int, F = fup (fup (S 0) 10 0) 15 0 := ⟨_, rfl⟩
  have z8 : Z0 8 = S 0 8 := by rw [e0]; rfl
  have z10 : Z0 10 = 0 := by rw [e0]; rfl
  have z15 : Z0 15 = 0 := by rw [e0]; rfl
  have zo : ∀ j, j < 10 ∨ 15 < j → Z0 j = S 0 j := fun j hj => by rw [e0, fup_n (by omega), fup_n (by omega)]
  have hb := inv_begR hV.2.2.1
  have g := nxZ_rg (Z := Z0) (t := S 7) (by omega)
  have n8 := nxZ_n (Z := Z0) (t := S 7) (j := 8) (by decide)
  have n15 := nxZ_n (Z := Z0) (t := S 7) (j := 15) (by decide)
  have e : rdA S = rdN (S 7) 152 (nxZ Z0 (S 7)) (beg (S 3)) := by rw [e0]; rfl
  have R := rdN_P (t := S 7) 152 (Z := nxZ Z0 (S 7)) (r := beg (S 3)) (by omega) (by omega) (by omega) (by omega) hb
  rw [← e] at R
  refine ⟨⟨fun j hj => (R.1 j hj).trans ((nxZ_n (by omega)).trans (zo j hj)), R.2⟩, fun j hj => ?_⟩
  have q := rdN_o (t := S 7) (j := j) (by omega) 152 (Z := nxZ Z0 (S 7)) (r := beg (S 3)) (by omega) (by omega) (by omega) hb
  rw [← e] at q
  rw [q]
  exact if_pos (by omega)
theorem inv_rdw {S : Nat → Int → Int} (hV : invM S) : inv (fcp (rdA S).2.2 (S 1) 0 0 267) := by
  have R := (rdA_Q hV).1.2.2.1
  refine inv_ext R (fun j a b => by rw [fcp_in (by omega), show 0 + (j - 0) = j by omega]) (fun j hj => ?_)
  by_cases c : 0 ≤ j ∧ j < 0 + 267
  · rw [fcp_in c]; exact R.1 _ (by omega)
  · rw [fcp_out c]; exact hV.1.1.1 j hj
theorem rdw_in {S : Nat → Int → Int} {j : Int} (h : 0 ≤ j ∧ j < 267) : fcp (rdA S).2.2 (S 1) 0 0 267 j = (rdA S).2.2 j := by rw [fcp_in (by omega), show 0 + (j - 0) = j by omega]
theorem iM_read {S : Nat → Int → Int} (h : invM S) : invM (readA S).2 := by
  have P := rdA_Q h
  have hZ : ∀ {S' : Nat → Int → Int}, invM S' → S' 0 8 = S 0 8 → invM (sst (sst S' 3 (rdA S).2.2) 0 (rdA S).2.1) := by
    intro S' h' e8
    have z8 := P.1.1 8 (by decide)
    obtain ⟨h1, h2, h3, h4, h5, h6⟩ := h'
    exact ⟨h1, h2, fun j hj => P.1.2.2.1.1 j (by omega), (show 0 ≤ (rdA S).2.1 8 ∧ (rdA S).2.1 8 ≤ 150 by omega), (fun j a b => h5 j a (by have b2 : j < (rdA S).2.1 8 := b; omega)), h6⟩
  refine iM_if (fun _ => hZ h rfl) (fun _ => ?_)
  have q := invM_now (hZ h rfl) (invN_0 (inv_rdw h) (by rw [rdw_in (by decide), P.2 0 (Or.inl rfl)]; decide) (by rw [rdw_in (by decide), P.2 58 (Or.inr (by decide))]) (by rw [rdw_in (by decide), P.2 39 (Or.inr (by decide))]))
  exact q

set_option maxHeartbeats 4000000 in
set_option maxRecDepth 20000 in
theorem kX6_takes (g : Gt) {h : AH} {rd q : Nat} {F : Nat → Int → Int} {nb T f : Int → Int} {c1 c2 c3 L b1 b2 b3 b4 : Int} (hD : DM h rd F nb c1 c2 c3) (hM : TM h q T L b1 b2 b3 b4) (hR : RLC F f) (hI : inv f) (hbv : b3 = 3 → 0 ≤ b4 ∧ b4 ≤ 4) (hbn : b3 = 2 → 0 ≤ b4 ∧ b4 ≤ 900) (hrg : rgI b3 ∧ rgI c1 ∧ rgI c2) (hw9 : c2 = -1 ∨ ((0 ≤ c2 ∧ c2 ≤ 4) ∧ (0 ≤ c3 ∧ c3 ≤ cn9 c2) ∧ rm9 c2 f ∧ ∀ i, 0 ≤ i → i < c3 → lo9 c2 i ≤ nb i ∧ nb i ≤ hi9 c2 i f)) (hq : rd = q + 12) : CnJ g mX6_takes 4 [.ref rd, .ref q] h (b2i (TP c2 c3 b3 b4 c1 f)) (fun h' => ∃ (F' : Nat → Int → Int) (nb' : Int → Int) (e1 e2 e3 : Int), DM h' rd F' nb' e1 e2 e3 ∧ (TP c2 c3 b3 b4 c1 f → ((c2 = -1 ∧ F' = F ∧ nb' = nb ∧ e1 = c1 ∧ e2 = b4 ∧ e3 = 0) ∨ (c2 ≠ -1 ∧ c3 < cn9 c2 ∧ F' = F ∧ nb' = fup nb c3 b4 ∧ e1 = c1 ∧ e2 = c2 ∧ e3 = c3 + 1) ∨ (c2 ≠ -1 ∧ ¬ c3 < cn9 c2 ∧ nb' = nb ∧ e1 = c1 + 1 ∧ e2 = -1 ∧ e3 = c3 ∧ RLC F' (ad9 c2 nb f)))) ∧ Fr h h' rd 12) := by
  refine Cn.mk (by decide +kernel) (Nat.le_of_ble_eq_true rfl) ?_
  intro x sz hx hr
  show Zj g x (sz, 0, 0) h 0 [(0, .ref rd), (1, .ref q)] []
  obtain ⟨d0, d1, d2⟩ := hD
  obtain ⟨t0, t1⟩ := hM
  have rn := hR.n
  have hn := hI.n
  have hcn := cn9_c c2
  have hw7 : c2 = -1 ∨ ((0 ≤ c2 ∧ c2 ≤ 4) ∧ (0 ≤ c3 ∧ c3 ≤ cn9 c2)) := hw9.imp id (fun q => ⟨q.1, q.2.1⟩)
  refine z_aload_n hx dX6_takes_0 rfl 0 rfl ?_
  refine z_get hx dX6_takes_1 fl_X6_26 d0 rfl ?_
  refine z_iconst hx dX6_takes_4 ?_
  refine z_icmp_ne (tgt := 14) hx dX6_takes_5 (by decide) (by omega) (by decide) (fun c_1 => ?_) (fun c_1 => ?_)
  ·
    have hcm : c2 ≠ -1 := by omega
    refine z_aload_n hx dX6_takes_14 rfl 0 rfl ?_
    refine z_get hx dX6_takes_15 fl_X6_29 d0 rfl ?_
    refine z_aload_n hx dX6_takes_18 rfl 0 rfl ?_
    refine z_get hx dX6_takes_19 fl_X6_26 d0 rfl ?_
    refine z_cSI (as := [.int (iI c2)]) (rest := [.int (iI c3)]) hx dX6_takes_22 lk_X6_56 wt_X6_numbersOf mo_X6_numbersOf (kX6_numbersOf g (w := c2) (by omega)) (by decide) rfl rfl (Nat.le_of_ble_eq_true rfl) ?_
    have f_2 := cn9_c c2
    refine z_icmp_ge (tgt := 34) hx dX6_takes_25 (by decide) (by omega) (by omega) (fun c_3 => ?_) (fun c_3 => ?_)
    ·
      have hlt : ¬ c3 < cn9 c2 := by omega
      refine z_aload_n hx dX6_takes_34 rfl 1 rfl ?_
      refine z_get hx dX6_takes_35 fl_X6_43 t0 rfl ?_
      refine z_iconst hx dX6_takes_38 ?_
      refine z_icmp_eq (tgt := 44) hx dX6_takes_39 (by decide) (by omega) (by decide) (fun c_4 => ?_) (fun c_4 => ?_)
      ·
        have h3e : b3 = 1 := by omega
        have hw8 := hw9.resolve_left (by assumption)
        have hrm := hw8.2.2.1
        have hvv : ∀ i, 0 ≤ i → i < cn9 c2 → lo9 c2 i ≤ nb i ∧ nb i ≤ hi9 c2 i f := fun i a b => hw8.2.2.2 i a (by omega)
        refine z_aload_n hx dX6_takes_44 rfl 0 rfl ?_
        refine z_cVV (as := []) (rest := []) hx dX6_takes_45 lk_X6_63 wm_X6_addItem wv_X6_addItem (rcv_obj hx d0 rfl) mo_X6_addItem (kX6_addItem g (f := f) ⟨d0, d1, d2⟩ hR hI (by omega) hrm (by assumption) (by omega)) (by decide) rfl rfl (Nat.le_of_ble_eq_true rfl) (fun h_5 q_6 => ?_)
        obtain ⟨F_7, q_8, hR_9, hf_10⟩ := q_6
        obtain ⟨d_11, d_12, d_13⟩ := q_8
        have h_14 := hf_10.at (by omega) t0
        have h_15 := hf_10.at (by omega) t1
        have fr_16 : Fr h h_5 rd 12 := hf_10.wd (by omega) (by omega)
        refine z_iconst hx dX6_takes_48 ?_
        refine z_iret hx hr dX6_takes_49 rfl rfl (q_j (Q := (fun h' => ∃ (F' : Nat → Int → Int) (nb' : Int → Int) (e1 e2 e3 : Int), DM h' rd F' nb' e1 e2 e3 ∧ (TP c2 c3 b3 b4 c1 f → ((c2 = -1 ∧ F' = F ∧ nb' = nb ∧ e1 = c1 ∧ e2 = b4 ∧ e3 = 0) ∨ (c2 ≠ -1 ∧ c3 < cn9 c2 ∧ F' = F ∧ nb' = fup nb c3 b4 ∧ e1 = c1 ∧ e2 = c2 ∧ e3 = c3 + 1) ∨ (c2 ≠ -1 ∧ ¬ c3 < cn9 c2 ∧ nb' = nb ∧ e1 = c1 + 1 ∧ e2 = -1 ∧ e3 = c3 ∧ RLC F' (ad9 c2 nb f)))) ∧ Fr h h' rd 12)) (b2i_t ⟨fun w => absurd w (by assumption), fun _ w => absurd w hlt, fun _ _ => h3e⟩).symm ⟨F_7, nb, (c1 + 1), (-1), c3, ⟨d_11, d_12, d_13⟩, (fun z => Or.inr (Or.inr ⟨by assumption, hlt, rfl, rfl, rfl, rfl, hR_9⟩)), fr_16⟩)
      ·
        refine z_iconst hx dX6_takes_42 ?_
        refine z_iret hx hr dX6_takes_43 rfl rfl (q_j (Q := (fun h' => ∃ (F' : Nat → Int → Int) (nb' : Int → Int) (e1 e2 e3 : Int), DM h' rd F' nb' e1 e2 e3 ∧ (TP c2 c3 b3 b4 c1 f → ((c2 = -1 ∧ F' = F ∧ nb' = nb ∧ e1 = c1 ∧ e2 = b4 ∧ e3 = 0) ∨ (c2 ≠ -1 ∧ c3 < cn9 c2 ∧ F' = F ∧ nb' = fup nb c3 b4 ∧ e1 = c1 ∧ e2 = c2 ∧ e3 = c3 + 1) ∨ (c2 ≠ -1 ∧ ¬ c3 < cn9 c2 ∧ nb' = nb ∧ e1 = c1 + 1 ∧ e2 = -1 ∧ e3 = c3 ∧ RLC F' (ad9 c2 nb f)))) ∧ Fr h h' rd 12)) (b2i_f (fun z => absurd (z.2.2 (by assumption) hlt) (by assumption))).symm ⟨F, nb, c1, c2, c3, ⟨d0, d1, d2⟩, (fun z => absurd (z.2.2 (by assumption) hlt) (by assumption)), Fr.rf⟩)
    ·
      have hlt : c3 < cn9 c2 := by omega
      refine z_aload_n hx dX6_takes_28 rfl 0 rfl ?_
      refine z_aload_n hx dX6_takes_29 rfl 1 rfl ?_
      refine z_cVJ (as := [.ref q]) (rest := []) hx dX6_takes_30 lk_X6_60 wm_X6_takesNumber wv_X6_takesNumber (rcv_obj hx d0 rfl) mo_X6_takesNumber (kX6_takesNumber g (f := f) ⟨d0, d1, d2⟩ ⟨t0, t1⟩ hR hI hbv hbn hrg hq (by omega)) (by decide) rfl rfl (Nat.le_of_ble_eq_true rfl) (fun h_17 q_18 => ?_)
      obtain ⟨nb_19, e_20, q_21, q_22, hf_23⟩ := q_18
      obtain ⟨d_24, d_25, d_26⟩ := q_21
      have h_27 := hf_23.at (by omega) t0
      have h_28 := hf_23.at (by omega) t1
      have fr_29 : Fr h h_17 rd 12 := hf_23.wd (by omega) (by omega)
      refine z_iret hx hr dX6_takes_33 rfl (nar_b (b2i_01 _)) (q_j (Q := (fun h' => ∃ (F' : Nat → Int → Int) (nb' : Int → Int) (e1 e2 e3 : Int), DM h' rd F' nb' e1 e2 e3 ∧ (TP c2 c3 b3 b4 c1 f → ((c2 = -1 ∧ F' = F ∧ nb' = nb ∧ e1 = c1 ∧ e2 = b4 ∧ e3 = 0) ∨ (c2 ≠ -1 ∧ c3 < cn9 c2 ∧ F' = F ∧ nb' = fup nb c3 b4 ∧ e1 = c1 ∧ e2 = c2 ∧ e3 = c3 + 1) ∨ (c2 ≠ -1 ∧ ¬ c3 < cn9 c2 ∧ nb' = nb ∧ e1 = c1 + 1 ∧ e2 = -1 ∧ e3 = c3 ∧ RLC F' (ad9 c2 nb f)))) ∧ Fr h h' rd 12)) (b2i_iff ⟨fun z => ⟨fun w => absurd w (by assumption), fun _ _ => z, fun _ w => absurd hlt w⟩, fun z => z.2.1 (by assumption) hlt⟩) ⟨F, nb_19, c1, c2, e_20, ⟨d_24, d_25, d_26⟩, (fun z => Or.inr (Or.inl ⟨by assumption, hlt, rfl, (q_22 (z.2.1 (by assumption) hlt)).1, rfl, rfl, (q_22 (z.2.1 (by assumption) hlt)).2⟩)), fr_29⟩)
  ·
    refine z_aload_n hx dX6_takes_8 rfl 0 rfl ?_
    refine z_aload_n hx dX6_takes_9 rfl 1 rfl ?_
    refine z_cVJ (as := [.ref q]) (rest := []) hx dX6_takes_10 lk_X6_53 wm_X6_takesWord wv_X6_takesWord (rcv_obj hx d0 rfl) mo_X6_takesWord (kX6_takesWord g (f := f) ⟨d0, d1, d2⟩ ⟨t0, t1⟩ hR hI hbv hbn hrg hq) (by decide) rfl rfl (Nat.le_of_ble_eq_true rfl) (fun h_30 q_31 => ?_)
    obtain ⟨e_32, e_33, q_34, q_35, hf_36⟩ := q_31
    obtain ⟨d_37, d_38, d_39⟩ := q_34
    have h_40 := hf_36.at (by omega) t0
    have h_41 := hf_36.at (by omega) t1
    have fr_42 : Fr h h_30 rd 12 := hf_36.wd (by omega) (by omega)
    refine z_iret hx hr dX6_takes_13 rfl (nar_b (b2i_01 _)) (q_j (Q := (fun h' => ∃ (F' : Nat → Int → Int) (nb' : Int → Int) (e1 e2 e3 : Int), DM h' rd F' nb' e1 e2 e3 ∧ (TP c2 c3 b3 b4 c1 f → ((c2 = -1 ∧ F' = F ∧ nb' = nb ∧ e1 = c1 ∧ e2 = b4 ∧ e3 = 0) ∨ (c2 ≠ -1 ∧ c3 < cn9 c2 ∧ F' = F ∧ nb' = fup nb c3 b4 ∧ e1 = c1 ∧ e2 = c2 ∧ e3 = c3 + 1) ∨ (c2 ≠ -1 ∧ ¬ c3 < cn9 c2 ∧ nb' = nb ∧ e1 = c1 + 1 ∧ e2 = -1 ∧ e3 = c3 ∧ RLC F' (ad9 c2 nb f)))) ∧ Fr h h' rd 12)) (b2i_iff ⟨fun z => ⟨fun _ => z, fun w => absurd (by assumption) w, fun w => absurd (by assumption) w⟩, fun z => z.1 (by assumption)⟩) ⟨F, nb, c1, e_32, e_33, ⟨d_37, d_38, d_39⟩, (fun z => Or.inl ⟨by assumption, rfl, rfl, rfl, (q_35 (z.1 (by assumption))).1, (q_35 (z.1 (by assumption))).2⟩), fr_42⟩)

set_option maxHeartbeats 4000000 in
set_option maxRecDepth 20000 in
theorem kX6_findFault (g : Gt) {h : AH} {rd q : Nat} {F Ft : Nat → Int → Int} {nb T : Int → Int} {c1 c2 c3 b1 b2 b3 b4 : Int} {S : Nat → Int → Int} (hD : DM h rd F nb c1 c2 c3) (hM : TM h q T (S 0 8) b1 b2 b3 b4) (hC : CM h (q + 2) Ft) (htt : ∀ j, 0 ≤ j → j < S 0 8 → T j = S 7 j) (hV : invM S) (hq : rd = q + 12) : CnJ g mX6_findFault 8 [.ref rd, .ref q] h (if (rdA S).1 = 0 then (rdA S).2.1 11 else -1) (fun h' => ∃ (F' : Nat → Int → Int) (nb' : Int → Int) (e1 e2 e3 a1 a2 a3 a4 : Int), DM h' rd F' nb' e1 e2 e3 ∧ TM h' q T (S 0 8) a1 a2 a3 a4 ∧ CM h' (q + 2) Ft ∧ ((rdA S).1 ≠ 0 → RLC F' (rdA S).2.2 ∧ e1 = (rdA S).2.1 15) ∧ Fr h h' q 24) := by
  refine Cn.mk (by decide +kernel) (Nat.le_of_ble_eq_true rfl) ?_
  intro x sz hx hr
  show Zj g x (sz, 0, 0) h 0 [(0, .ref rd), (1, .ref q)] []
  obtain ⟨d0, d1, d2⟩ := hD
  obtain ⟨t0, t1⟩ := hM
  have hL := hV.2.2.2.1
  have hT := hV.2.2.2.2.1
  refine z_aload_n hx dX6_findFault_0 rfl 1 rfl ?_
  refine z_cVV (as := []) (rest := []) hx dX6_findFault_1 lk_X6_32 wm_X7_rewind wv_X7_rewind (rcv_obj hx t0 rfl) mo_X7_rewind (kX7_rewind g ⟨t0, t1⟩) (by decide) rfl rfl (Nat.le_of_ble_eq_true rfl) (fun h_1 q_2 => ?_)
  obtain ⟨q_3, hf_4⟩ := q_2
  obtain ⟨t_5, t_6⟩ := q_3
  have h_7 := hf_4.at (by omega) d0
  have h_8 := CM.fr d1 hf_4 (by omega)
  have h_9 := hf_4.at (by omega) d2
  have h_10 := CM.fr hC hf_4 (by omega)
  have fr_11 : Fr h h_1 q 24 := hf_4.wd (by omega) (by omega)
  refine z_aload_n hx dX6_findFault_4 rfl 0 rfl ?_
  refine z_get hx dX6_findFault_5 fl_X6_12 h_7 rfl ?_
  refine z_cVV (as := []) (rest := []) hx dX6_findFault_8 lk_X6_37 wm_X1_empty wv_X1_empty (rcv_obj hx (And.left h_8) rfl) mo_X1_empty (kX1_empty g (F := F)  h_8 ) (by decide) rfl rfl (Nat.le_of_ble_eq_true rfl) (fun h_12 q_13 => ?_)
  obtain ⟨hC_14, hf_15⟩ := q_13
  obtain ⟨F_16, eF_16⟩ : ∃ G : Nat → Int → Int, G = sst F 0 (fup (fup (fup (fup (F 0) 0 0) 1 0) 2 0) 3 0) := ⟨_, rfl⟩
  rw [← eF_16] at hC_14
  have h_17 := hf_15.at (by omega) h_7
  have h_18 := hf_15.at (by omega) h_9
  have h_19 := hf_15.at (by omega) t_5
  have h_20 := hf_15.at (by omega) t_6
  have h_21 := CM.fr h_10 hf_15 (by omega)
  have fr_22 := fr_11.tr (hf_15.wd (by omega) (by omega))
  refine z_aload_n hx dX6_findFault_11 rfl 0 rfl ?_
  refine z_iconst hx dX6_findFault_12 ?_
  refine z_putQ hx dX6_findFault_13 fl_X6_22 h_17 ⟨rfl, rfl⟩ (Nat.le_of_ble_eq_true rfl) (fun h_23 hs_24 hf_25 => ?_)
  have h_26 := CM.fr hC_14 hf_25 (by omega)
  have h_27 := hf_25.at (by omega) h_18
  have h_28 := hf_25.at (by omega) h_19
  have h_29 := hf_25.at (by omega) h_20
  have h_30 := CM.fr h_21 hf_25 (by omega)
  have fr_31 := fr_22.tr (hf_25.wd (by omega) (by omega))
  refine z_aload_n hx dX6_findFault_16 rfl 0 rfl ?_
  refine z_iconst hx dX6_findFault_17 ?_
  refine z_putQ hx dX6_findFault_18 fl_X6_26 hs_24 ⟨rfl, rfl⟩ (Nat.le_of_ble_eq_true rfl) (fun h_32 hs_33 hf_34 => ?_)
  have h_35 := CM.fr h_26 hf_34 (by omega)
  have h_36 := hf_34.at (by omega) h_27
  have h_37 := hf_34.at (by omega) h_28
  have h_38 := hf_34.at (by omega) h_29
  have h_39 := CM.fr h_30 hf_34 (by omega)
  have fr_40 := fr_31.tr (hf_34.wd (by omega) (by omega))
  refine z_iconst hx dX6_findFault_21 ?_
  refine z_istore_n hx dX6_findFault_22 rfl (by decide) [1, 2, 0] (lv' := [(0, .ref rd), (1, .ref q), (2, .int (iI 0))]) rfl ?_
  have hL_41 : ∀ (mm : Nat) (v2 : Int) (g1 : Int) (g2 : Int) (g3 : Int) (a1 : Int) (a2 : Int) (a3 : Int) (a4 : Int) (gF : Nat → Int → Int) (gn : Int → Int) (Z : Int → Int) (r : Int → Int) (m : Nat) (h_42 : AH), (0 ≤ v2 ∧ v2 ≤ 151) → (RSt (S 7) (rdA S) g2 g3 gn Z r m) → (RLC gF r) → (inv r) → (Z 8 = S 0 8 ∧ v2 ≤ Z 10 ∧ Z 10 ≤ S 0 8 ∧ a2 = Z 10 ∧ Z 15 = g1) → ((0 ≤ g1 ∧ g1 ≤ v2) ∧ (m : Int) + g1 = 151) → ((-1 ≤ g2 ∧ g2 ≤ 4) ∧ (g2 ≠ -1 → 0 ≤ g3 ∧ g3 ≤ 3)) → (h_42 rd = some (.inr (.inr (5, [.ref (rd + 1), .ref (rd + 11), .int (iI g1), .int (iI g2), .int (iI g3)])))) → (CM h_42 (rd + 1) gF) → (h_42 (rd + 11) = some (.inl (0, 3, gn))) → (h_42 q = some (.inr (.inr (6, [.ref (q + 1), .int (iI (S 0 8)), .int (iI a1), .int (iI a2), .int (iI a3), .int (iI a4)])))) → (h_42 (q + 1) = some (.inl (1, 150, T))) → (CM h_42 (q + 2) Ft) → (Fr h h_42 q 24) → (151 : Int) - v2 < (mm : Int) → Zj g x (sz, 0, 0) h_42 23 [(0, .ref rd), (1, .ref q), (2, .int (iI v2))] [] := by
    intro mm
    induction mm with
    | zero => intro v2 g1 g2 g3 a1 a2 a3 a4 gF gn Z r m h_42 kv hst hrl ig hz hm9 hc9 hk_43 hk_44 hk_45 hk_46 hk_47 hk_48 fr_49 hm; exfalso; omega
    | succ mm ih =>
      intro v2 g1 g2 g3 a1 a2 a3 a4 gF gn Z r m h_42 kv hst hrl ig hz hm9 hc9 hk_43 hk_44 hk_45 hk_46 hk_47 hk_48 fr_49 hm
      have ih_50 := ih; clear ih
      refine z_iload_n hx dX6_findFault_23 rfl 2 rfl ?_
      refine z_sipush hx dX6_findFault_24 (by decide) ?_
      refine z_icmp_gt (tgt := 77) hx dX6_findFault_27 (by decide) (by omega) (by decide) (fun c_51 => by exfalso; omega) (fun c_51 => ?_)
      refine z_aload_n hx dX6_findFault_30 rfl 1 rfl ?_
      refine z_cVV (as := []) (rest := []) hx dX6_findFault_31 lk_X6_40 wm_X7_goOn wv_X7_goOn (rcv_obj hx hk_46 rfl) mo_X7_goOn (kX7_goOn g (T := T) (f := (S 7)) ⟨hk_46, hk_47⟩ hL htt hT (by omega)) (by decide) rfl rfl (Nat.le_of_ble_eq_true rfl) (fun h_52 q_53 => ?_)
      obtain ⟨b_54, b_55, b_56, b_57, q_58, q_59, hf_60⟩ := q_53
      obtain ⟨t_61, t_62⟩ := q_58
      have h_63 := hf_60.at (by omega) hk_43
      have h_64 := CM.fr hk_44 hf_60 (by omega)
      have h_65 := hf_60.at (by omega) hk_45
      have h_66 := CM.fr hk_48 hf_60 (by omega)
      have fr_67 := fr_49.tr (hf_60.wd (by omega) (by omega))
      have hTK : TKZ (nxZ Z (S 7)) (S 0 8) b_54 b_55 b_56 b_57 := TK_Z hz.1 rfl (by omega) (by have q9 := q_59; rw [hz.2.2.2.1] at q9; exact q9)
      have hg := nxZ_rg (Z := Z) (t := S 7) (by omega)
      have z15 := nxZ_n (Z := Z) (t := S 7) (j := 15) (by decide)
      have hbv : b_56 = 3 → 0 ≤ b_57 ∧ b_57 ≤ 4 := fun z => by rcases hTK.2 with p | p | p | p | p; omega; omega; omega; exact p.2.2.1; omega
      have hbn : b_56 = 2 → 0 ≤ b_57 ∧ b_57 ≤ 900 := fun z => by rcases hTK.2 with p | p | p | p | p; omega; omega; (have := p.2.2.1; omega); omega; omega
      have hb3 : 0 ≤ b_56 ∧ b_56 ≤ 4 := by rcases hTK.2 with p | p | p | p | p <;> (have := p.1; omega)
      have hb1 : 0 ≤ b_54 ∧ b_54 ≤ 150 := by have := hTK.1; omega
      have hw9 : g2 = -1 ∨ ((0 ≤ g2 ∧ g2 ≤ 4) ∧ (0 ≤ g3 ∧ g3 ≤ cn9 g2) ∧ rm9 g2 r ∧ ∀ i, 0 ≤ i → i < g3 → lo9 g2 i ≤ gn i ∧ gn i ≤ hi9 g2 i r) := hst.imp (fun q => q.1) (fun q => ⟨q.1, q.2.1, q.2.2.1, q.2.2.2.1⟩)
      refine z_aload_n hx dX6_findFault_34 rfl 1 rfl ?_
      refine z_get hx dX6_findFault_35 fl_X6_43 t_61 rfl ?_
      refine z_if_ne (tgt := 58) hx dX6_findFault_38 (by decide) (by omega) (fun c_68 => ?_) (fun c_68 => ?_)
      ·
        refine z_aload_n hx dX6_findFault_58 rfl 0 rfl ?_
        refine z_aload_n hx dX6_findFault_59 rfl 1 rfl ?_
        refine z_cVJ (as := [.ref q]) (rest := []) hx dX6_findFault_60 lk_X6_46 wm_X6_takes wv_X6_takes (rcv_obj hx h_63 rfl) mo_X6_takes (kX6_takes g (f := r) ⟨h_63, h_64, h_65⟩ ⟨t_61, t_62⟩ hrl ig hbv hbn (by omega) hw9 hq) (by decide) rfl rfl (Nat.le_of_ble_eq_true rfl) (fun h_69 q_70 => ?_)
        obtain ⟨F_71, nb_72, e_73, e_74, e_75, q_76, q_77, hf_78⟩ := q_70
        obtain ⟨d_79, d_80, d_81⟩ := q_76
        have h_82 := hf_78.at (by omega) t_61
        have h_83 := hf_78.at (by omega) t_62
        have h_84 := CM.fr h_66 hf_78 (by omega)
        have fr_85 := fr_67.tr (hf_78.wd (by omega) (by omega))
        refine z_ifne_b (tgt := 71) hx dX6_findFault_63 (by decide)  (fun c_86 => ?_) (fun c_86 => ?_)
        ·
          obtain ⟨Z2, r2, m2, hst2, hrl2, ig2, hz2, hm2, hc2⟩ := S_step (i := v2) hst hTK ig hrl hz.1 (by omega) hz.2.2.2.2 hm9.1 hm9.2 (by omega) (by assumption) (q_77 (by assumption))
          refine z_iinc hx dX6_findFault_71 (by decide) 2 rfl [1, 2, 0] (lv' := [(0, .ref rd), (1, .ref q), (2, .int (iI (v2 + 1)))]) rfl ?_
          refine z_goto (tgt := 23) hx dX6_findFault_74 (by decide) ?_
          exact ih_50 _ e_73 e_74 e_75 b_54 b_55 b_56 b_57 F_71 nb_72 Z2 r2 m2 _ (by omega) (by exact hst2) (by exact hrl2) (by exact ig2) (by exact hz2) (by exact hm2) (by exact ⟨hc2.1, fun _ => hc2.2⟩) d_79 d_80 d_81 h_82 h_83 h_84 fr_85 (by omega)
        ·
          have eX := S_bad hst hTK ig.n (z15.trans hz.2.2.2.2) (by omega) (by assumption)
          refine z_aload_n hx dX6_findFault_66 rfl 1 rfl ?_
          refine z_get hx dX6_findFault_67 fl_X6_50 h_82 rfl ?_
          refine z_iret hx hr dX6_findFault_70 rfl rfl (q_j (Q := (fun h' => ∃ (F' : Nat → Int → Int) (nb' : Int → Int) (e1 e2 e3 a1 a2 a3 a4 : Int), DM h' rd F' nb' e1 e2 e3 ∧ TM h' q T (S 0 8) a1 a2 a3 a4 ∧ CM h' (q + 2) Ft ∧ ((rdA S).1 ≠ 0 → RLC F' (rdA S).2.2 ∧ e1 = (rdA S).2.1 15) ∧ Fr h h' q 24)) (by rw [if_pos eX.1]; exact eX.2.symm) ⟨F_71, nb_72, e_73, e_74, e_75, b_54, b_55, b_56, b_57, ⟨d_79, d_80, d_81⟩, ⟨h_82, h_83⟩, h_84, (fun z => absurd eX.1 z), fr_85⟩)
      ·
        refine z_aload_n hx dX6_findFault_41 rfl 0 rfl ?_
        refine z_get hx dX6_findFault_42 fl_X6_26 h_63 rfl ?_
        refine z_iconst hx dX6_findFault_45 ?_
        refine z_icmp_ne (tgt := 58) hx dX6_findFault_46 (by decide) (by omega) (by decide) (fun c_87 => ?_) (fun c_87 => ?_)
        ·
          refine z_aload_n hx dX6_findFault_58 rfl 0 rfl ?_
          refine z_aload_n hx dX6_findFault_59 rfl 1 rfl ?_
          refine z_cVJ (as := [.ref q]) (rest := []) hx dX6_findFault_60 lk_X6_46 wm_X6_takes wv_X6_takes (rcv_obj hx h_63 rfl) mo_X6_takes (kX6_takes g (f := r) ⟨h_63, h_64, h_65⟩ ⟨t_61, t_62⟩ hrl ig hbv hbn (by omega) hw9 hq) (by decide) rfl rfl (Nat.le_of_ble_eq_true rfl) (fun h_88 q_89 => ?_)
          obtain ⟨F_90, nb_91, e_92, e_93, e_94, q_95, q_96, hf_97⟩ := q_89
          obtain ⟨d_98, d_99, d_100⟩ := q_95
          have h_101 := hf_97.at (by omega) t_61
          have h_102 := hf_97.at (by omega) t_62
          have h_103 := CM.fr h_66 hf_97 (by omega)
          have fr_104 := fr_67.tr (hf_97.wd (by omega) (by omega))
          refine z_ifne_b (tgt := 71) hx dX6_findFault_63 (by decide)  (fun c_105 => ?_) (fun c_105 => ?_)
          ·
            obtain ⟨Z2, r2, m2, hst2, hrl2, ig2, hz2, hm2, hc2⟩ := S_step (i := v2) hst hTK ig hrl hz.1 (by omega) hz.2.2.2.2 hm9.1 hm9.2 (by omega) (by assumption) (q_96 (by assumption))
            refine z_iinc hx dX6_findFault_71 (by decide) 2 rfl [1, 2, 0] (lv' := [(0, .ref rd), (1, .ref q), (2, .int (iI (v2 + 1)))]) rfl ?_
            refine z_goto (tgt := 23) hx dX6_findFault_74 (by decide) ?_
            exact ih_50 _ e_92 e_93 e_94 b_54 b_55 b_56 b_57 F_90 nb_91 Z2 r2 m2 _ (by omega) (by exact hst2) (by exact hrl2) (by exact ig2) (by exact hz2) (by exact hm2) (by exact ⟨hc2.1, fun _ => hc2.2⟩) d_98 d_99 d_100 h_101 h_102 h_103 fr_104 (by omega)
          ·
            have eX := S_bad hst hTK ig.n (z15.trans hz.2.2.2.2) (by omega) (by assumption)
            refine z_aload_n hx dX6_findFault_66 rfl 1 rfl ?_
            refine z_get hx dX6_findFault_67 fl_X6_50 h_101 rfl ?_
            refine z_iret hx hr dX6_findFault_70 rfl rfl (q_j (Q := (fun h' => ∃ (F' : Nat → Int → Int) (nb' : Int → Int) (e1 e2 e3 a1 a2 a3 a4 : Int), DM h' rd F' nb' e1 e2 e3 ∧ TM h' q T (S 0 8) a1 a2 a3 a4 ∧ CM h' (q + 2) Ft ∧ ((rdA S).1 ≠ 0 → RLC F' (rdA S).2.2 ∧ e1 = (rdA S).2.1 15) ∧ Fr h h' q 24)) (by rw [if_pos eX.1]; exact eX.2.symm) ⟨F_90, nb_91, e_92, e_93, e_94, b_54, b_55, b_56, b_57, ⟨d_98, d_99, d_100⟩, ⟨h_101, h_102⟩, h_103, (fun z => absurd eX.1 z), fr_104⟩)
        ·
          refine z_aload_n hx dX6_findFault_49 rfl 0 rfl ?_
          refine z_get hx dX6_findFault_50 fl_X6_22 h_63 rfl ?_
          refine z_if_le (tgt := 58) hx dX6_findFault_53 (by decide) (by omega) (fun c_106 => ?_) (fun c_106 => ?_)
          ·
            refine z_aload_n hx dX6_findFault_58 rfl 0 rfl ?_
            refine z_aload_n hx dX6_findFault_59 rfl 1 rfl ?_
            refine z_cVJ (as := [.ref q]) (rest := []) hx dX6_findFault_60 lk_X6_46 wm_X6_takes wv_X6_takes (rcv_obj hx h_63 rfl) mo_X6_takes (kX6_takes g (f := r) ⟨h_63, h_64, h_65⟩ ⟨t_61, t_62⟩ hrl ig hbv hbn (by omega) hw9 hq) (by decide) rfl rfl (Nat.le_of_ble_eq_true rfl) (fun h_107 q_108 => ?_)
            obtain ⟨F_109, nb_110, e_111, e_112, e_113, q_114, q_115, hf_116⟩ := q_108
            obtain ⟨d_117, d_118, d_119⟩ := q_114
            have h_120 := hf_116.at (by omega) t_61
            have h_121 := hf_116.at (by omega) t_62
            have h_122 := CM.fr h_66 hf_116 (by omega)
            have fr_123 := fr_67.tr (hf_116.wd (by omega) (by omega))
            refine z_ifne_b (tgt := 71) hx dX6_findFault_63 (by decide)  (fun c_124 => ?_) (fun c_124 => ?_)
            ·
              obtain ⟨Z2, r2, m2, hst2, hrl2, ig2, hz2, hm2, hc2⟩ := S_step (i := v2) hst hTK ig hrl hz.1 (by omega) hz.2.2.2.2 hm9.1 hm9.2 (by omega) (by assumption) (q_115 (by assumption))
              refine z_iinc hx dX6_findFault_71 (by decide) 2 rfl [1, 2, 0] (lv' := [(0, .ref rd), (1, .ref q), (2, .int (iI (v2 + 1)))]) rfl ?_
              refine z_goto (tgt := 23) hx dX6_findFault_74 (by decide) ?_
              exact ih_50 _ e_111 e_112 e_113 b_54 b_55 b_56 b_57 F_109 nb_110 Z2 r2 m2 _ (by omega) (by exact hst2) (by exact hrl2) (by exact ig2) (by exact hz2) (by exact hm2) (by exact ⟨hc2.1, fun _ => hc2.2⟩) d_117 d_118 d_119 h_120 h_121 h_122 fr_123 (by omega)
            ·
              have eX := S_bad hst hTK ig.n (z15.trans hz.2.2.2.2) (by omega) (by assumption)
              refine z_aload_n hx dX6_findFault_66 rfl 1 rfl ?_
              refine z_get hx dX6_findFault_67 fl_X6_50 h_120 rfl ?_
              refine z_iret hx hr dX6_findFault_70 rfl rfl (q_j (Q := (fun h' => ∃ (F' : Nat → Int → Int) (nb' : Int → Int) (e1 e2 e3 a1 a2 a3 a4 : Int), DM h' rd F' nb' e1 e2 e3 ∧ TM h' q T (S 0 8) a1 a2 a3 a4 ∧ CM h' (q + 2) Ft ∧ ((rdA S).1 ≠ 0 → RLC F' (rdA S).2.2 ∧ e1 = (rdA S).2.1 15) ∧ Fr h h' q 24)) (by rw [if_pos eX.1]; exact eX.2.symm) ⟨F_109, nb_110, e_111, e_112, e_113, b_54, b_55, b_56, b_57, ⟨d_117, d_118, d_119⟩, ⟨h_120, h_121⟩, h_122, (fun z => absurd eX.1 z), fr_123⟩)
          ·
            have eX := S_end hst hTK (by omega) (by omega) (by omega)
            refine z_iconst hx dX6_findFault_56 ?_
            refine z_iret hx hr dX6_findFault_57 rfl rfl (q_j (Q := (fun h' => ∃ (F' : Nat → Int → Int) (nb' : Int → Int) (e1 e2 e3 a1 a2 a3 a4 : Int), DM h' rd F' nb' e1 e2 e3 ∧ TM h' q T (S 0 8) a1 a2 a3 a4 ∧ CM h' (q + 2) Ft ∧ ((rdA S).1 ≠ 0 → RLC F' (rdA S).2.2 ∧ e1 = (rdA S).2.1 15) ∧ Fr h h' q 24)) (by rw [eX]; exact (if_neg (show ¬ (1 : Int) = 0 by decide)).symm) ⟨gF, gn, g1, g2, g3, b_54, b_55, b_56, b_57, ⟨h_63, h_64, h_65⟩, ⟨t_61, t_62⟩, h_66, (fun _ => by rw [eX]; exact ⟨hrl, (show g1 = nxZ Z (S 7) 15 by omega)⟩), fr_67⟩)
  exact hL_41 (((151 : Int) - 0) + 1 : Int).toNat _ 0 (-1) c3 0 0 0 b4 F_16 nb (fup (fup (S 0) 10 0) 15 0) (beg (S 3)) 151 _ (by omega) (by exact Or.inl ⟨rfl, rfl⟩) (by rw [eF_16]; exact RLC_beg ⟨rfl, rfl, rfl, rfl⟩) (by exact inv_begR hV.2.2.1) (by exact ⟨rfl, (show (0 : Int) ≤ 0 by decide), (show (0 : Int) ≤ S 0 8 by omega), rfl, rfl⟩) (by exact ⟨by decide, by decide⟩) (by exact ⟨by decide, fun z => absurd rfl z⟩) hs_33 h_35 h_36 h_37 h_38 h_39 fr_40 (by omega)

