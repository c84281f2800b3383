/-! the class: what undo gives back; all that an image keeps -/
def QG (h : AH) (c : Nat) (pi : Int → Int) (Fs : Int → Nat → Int → Int) (f' : Int → Int) : AH → Prop := fun h' => ∃ F', CM h' c F' ∧ RLC F' f' ∧ PM h' (c + 10) pi Fs (f' 58) ∧ PRl Fs f' ∧ Fr h h' c 92
def KM (h : AH) (k : Nat) (F : Nat → Int → Int) (pi : Int → Int) (Fs : Int → Nat → Int → Int) (m n kp : Int) (N : Nat → Int → Int) : Prop :=
  h k = some (.inr (.inr (3, [.ref (k + 1), .ref (k + 11), .ref (k + 93), .ref (k + 94), .ref (k + 95), .int (iI n), .int (iI kp)]))) ∧ CM h (k + 1) F ∧ PM h (k + 11) pi Fs m ∧ h (k + 93) = some (.inl (0, 6, N 0)) ∧ h (k + 94) = some (.inl (0, 6, N 1)) ∧ h (k + 95) = some (.inl (0, 6, N 2))
theorem KM.fr {h h' : AH} {k b n9 : Nat} {F : Nat → Int → Int} {pi : Int → Int} {Fs : Int → Nat → Int → Int} {m n kp : Int} {N : Nat → Int → Int} (K : KM h k F pi Fs m n kp N) (a : Fr h h' b n9) (hd : k + 96 ≤ b ∨ b + n9 ≤ k) : KM h' k F pi Fs m n kp N := by
  obtain ⟨k0, k1, k2, k3, k4, k5⟩ := K
  exact ⟨a.at (by omega) k0, k1.fr a (by omega), k2.fr a (by omega), a.at (by omega) k3, a.at (by omega) k4, a.at (by omega) k5⟩
def NRl (N : Nat → Int → Int) (f : Int → Int) : Prop := ∀ i, 0 ≤ i → i < f 39 → N 0 i = f (40 + 3 * i) ∧ N 1 i = f (40 + 3 * i + 1) ∧ N 2 i = f (40 + 3 * i + 2)
def QK (h : AH) (k : Nat) (kp : Int) (f' : Int → Int) : AH → Prop := fun h' => ∃ (F : Nat → Int → Int) (pi : Int → Int) (Fs : Int → Nat → Int → Int) (N : Nat → Int → Int), KM h' k F pi Fs (f' 58) (f' 39) kp N ∧ RLC F f' ∧ PRl Fs f' ∧ NRl N f' ∧ Fr h h' k 96

set_option maxHeartbeats 4000000 in
set_option maxRecDepth 20000 in
theorem kX5_giveBack (g : Gt) {h : AH} {p c : Nat} {pi : Int → Int} {Fs : Int → Nat → Int → Int} {F : Nat → Int → Int} {f : Int → Int} (hP : PM h p pi Fs (f 58)) (hC : CM h c F) (hQ : PRl Fs f) (hm : ∀ i, 0 ≤ i → i < f 58 → inv (mixF f i)) (h58 : 1 ≤ f 58 ∧ f 58 ≤ 8) (hpc : p = c + 10) : CnV g mX5_giveBack 3 [.ref p, .ref c] h (QG h c pi Fs (und1 f)) := by
  refine Cn.mk (by decide +kernel) (Nat.le_of_ble_eq_true rfl) ?_
  intro x sz hx hr
  show Zj g x (sz, 0, 0) h 0 [(0, .ref p), (1, .ref c)] []
  refine z_aload_n hx dX5_giveBack_0 rfl 0 rfl ?_
  refine z_aload_n hx dX5_giveBack_1 rfl 0 rfl ?_
  refine z_get hx dX5_giveBack_2 fl_X5_17 hP.1 rfl ?_
  refine z_iconst hx dX5_giveBack_5 ?_
  refine z_isub hx dX5_giveBack_6 ?_
  obtain ⟨w_1, ew_1⟩ : ∃ a : Nat, a = p + 2 + 10 * (pi ((f 58) - 1)).toNat := ⟨_, rfl⟩
  have qw_1 := PM.pi hP (i := ((f 58) - 1)) (by omega)
  have cw_1 : CM h w_1 (Fs ((f 58) - 1)) := by rw [ew_1]; exact PM.row hP (by omega)
  have rw_1 : p + 2 ≤ w_1 ∧ w_1 + 10 ≤ p + 82 := by omega
  have hrw : RLC (Fs (((f 58) - 1))) (mixF f (((f 58) - 1))) := hQ _ (by omega) (by omega)
  have hiw : inv (mixF f (((f 58) - 1))) := hm _ (by omega) (by omega)
  refine z_cVR (as := [.int (iI ((f 58) - 1))]) (rest := []) hx dX5_giveBack_7 lk_X5_25 wm_X5_rowAt wv_X5_rowAt (rcv_obj hx (And.left hP) rfl) mo_X5_rowAt (kX5_rowAt g (i := ((f 58) - 1)) (w := w_1) hP (by omega) ew_1) (by decide) rfl rfl (Nat.le_of_ble_eq_true rfl) ?_
  refine z_astore_n hx dX5_giveBack_10 rfl (by decide) [1, 2, 0] (lv' := [(0, .ref p), (1, .ref c), (2, .ref w_1)]) rfl ?_
  refine z_aload_n hx dX5_giveBack_11 rfl 2 rfl ?_
  refine z_ifnull hx dX5_giveBack_12 ?_
  refine z_aload_n hx dX5_giveBack_15 rfl 1 rfl ?_
  refine z_aload_n hx dX5_giveBack_16 rfl 2 rfl ?_
  refine z_cVV (as := [.ref w_1]) (rest := []) hx dX5_giveBack_17 lk_X5_29 wm_X1_becomes wv_X1_becomes (rcv_obj hx (And.left hC) rfl) mo_X1_becomes (kX1_becomes g (F := F) (G := (Fs ((f 58) - 1))) (f := (mixF f (((f 58) - 1)))) hC cw_1 hrw hiw (by omega)) (by decide) rfl rfl (Nat.le_of_ble_eq_true rfl) (fun h_2 q_3 => ?_)
  obtain ⟨F_6, hC_4, hR_7, hf_5⟩ := q_3
  have h_8 := PM.fr hP hf_5 (by omega)
  have fr_9 : Fr h h_2 c 92 := hf_5.wd (by omega) (by omega)
  refine z_aload_n hx dX5_giveBack_20 rfl 0 rfl ?_
  refine z_dup hx dX5_giveBack_21 rfl ?_
  refine z_get hx dX5_giveBack_22 fl_X5_17 h_8.1 rfl ?_
  refine z_iconst hx dX5_giveBack_25 ?_
  refine z_isub hx dX5_giveBack_26 ?_
  refine z_putQ hx dX5_giveBack_27 fl_X5_17 h_8.1 ⟨rfl, rfl⟩ (Nat.le_of_ble_eq_true rfl) (fun h_10 hs_11 hf_12 => ?_)
  have hP_13 := PM.many (m := ((f 58) - 1)) h_8 hs_11 hf_12
  have h_14 := CM.fr hC_4 hf_12 (by omega)
  have fr_15 := fr_9.tr (hf_12.wd (by omega) (by omega))
  refine z_vret hx hr dX5_giveBack_30 rfl (q_v ⟨_, h_14, RLC_ext hR_7 hiw.n (fun j x y => und1_lo (by omega) ⟨x, y⟩), by rw [und1_58, ← hpc]; exact hP_13, PRl_und hQ hm, fr_15⟩)

set_option maxHeartbeats 4000000 in
set_option maxRecDepth 20000 in
theorem kX5_becomes (g : Gt) {h : AH} {p q : Nat} {pi qi : Int → Int} {Fs Gs : Int → Nat → Int → Int} {n : Int} {f : Int → Int} (hP : PM h p pi Fs n) (hO : PM h q qi Gs (f 58)) (hQ : PRl Gs f) (hmx : ∀ i, 0 ≤ i → i < f 58 → inv (mixF f i)) (h58 : 0 ≤ f 58 ∧ f 58 ≤ 8) (hpq : p + 82 ≤ q ∨ q + 82 ≤ p) : CnV g mX5_becomes 3 [.ref p, .ref q] h (QP h p f) := by
  refine Cn.mk (by decide +kernel) (Nat.le_of_ble_eq_true rfl) ?_
  intro x sz hx hr
  show Zj g x (sz, 0, 0) h 0 [(0, .ref p), (1, .ref q)] []
  refine z_iconst hx dX5_becomes_0 ?_
  refine z_istore_n hx dX5_becomes_1 rfl (by decide) [1, 2, 0] (lv' := [(0, .ref p), (1, .ref q), (2, .int (iI 0))]) rfl ?_
  have hL_1 : ∀ (mm : Nat) (v2 : Int) (gFs : Int → Nat → Int → Int) (h_2 : AH), (0 ≤ v2 ∧ v2 ≤ f 58) → (∀ j, 0 ≤ j → j < v2 → RLC (gFs j) (mixF f j)) → (PM h_2 p pi gFs (n)) → (PM h_2 q qi Gs (f 58)) → (Fr h h_2 p 82) → f 58 - v2 < (mm : Int) → Zj g x (sz, 0, 0) h_2 2 [(0, .ref p), (1, .ref q), (2, .int (iI v2))] [] := by
    intro mm
    induction mm with
    | zero => intro v2 gFs h_2 kv eq9 hk_3 hk_4 fr_5 hm; exfalso; omega
    | succ mm ih =>
      intro v2 gFs h_2 kv eq9 hk_3 hk_4 fr_5 hm
      have ih_6 := ih; clear ih
      refine z_iload_n hx dX5_becomes_2 rfl 2 rfl ?_
      refine z_aload_n hx dX5_becomes_3 rfl 1 rfl ?_
      refine z_get hx dX5_becomes_4 fl_X5_17 hk_4.1 rfl ?_
      refine z_icmp_ge (tgt := 44) hx dX5_becomes_7 (by decide) (by omega) (by omega) (fun c_7 => ?_) (fun c_7 => ?_)
      ·
        refine z_aload_n hx dX5_becomes_44 rfl 0 rfl ?_
        refine z_aload_n hx dX5_becomes_45 rfl 1 rfl ?_
        refine z_get hx dX5_becomes_46 fl_X5_17 hk_4.1 rfl ?_
        refine z_putQ hx dX5_becomes_49 fl_X5_17 hk_3.1 ⟨rfl, rfl⟩ (Nat.le_of_ble_eq_true rfl) (fun h_8 hs_9 hf_10 => ?_)
        have hP_11 := PM.many (m := (f 58)) hk_3 hs_9 hf_10
        have h_12 := PM.fr hk_4 hf_10 (by omega)
        have fr_13 := fr_5.tr (hf_10.wd (by omega) (by omega))
        refine z_vret hx hr dX5_becomes_52 rfl (q_v ⟨_, _, hP_11, fun i a b => eq9 i a (by omega), fr_13⟩)
      ·
        refine z_aload_n hx dX5_becomes_10 rfl 0 rfl ?_
        refine z_iload_n hx dX5_becomes_11 rfl 2 rfl ?_
        obtain ⟨w_14, ew_14⟩ : ∃ a : Nat, a = p + 2 + 10 * (pi v2).toNat := ⟨_, rfl⟩
        have qw_14 := PM.pi hk_3 (i := v2) (by omega)
        have cw_14 : CM h_2 w_14 (gFs v2) := by rw [ew_14]; exact PM.row hk_3 (by omega)
        have rw_14 : p + 2 ≤ w_14 ∧ w_14 + 10 ≤ p + 82 := by omega
        refine z_cVR (as := [.int (iI v2)]) (rest := []) hx dX5_becomes_12 lk_X5_25 wm_X5_rowAt wv_X5_rowAt (rcv_obj hx (And.left hk_3) rfl) mo_X5_rowAt (kX5_rowAt g (i := v2) (w := w_14) hk_3 (by omega) ew_14) (by decide) rfl rfl (Nat.le_of_ble_eq_true rfl) ?_
        refine z_astore_n hx dX5_becomes_15 rfl (by decide) [1, 2, 3, 0] (lv' := [(0, .ref p), (1, .ref q), (2, .int (iI v2)), (3, .ref w_14)]) rfl ?_
        refine z_aload_n hx dX5_becomes_16 rfl 1 rfl ?_
        refine z_iload_n hx dX5_becomes_17 rfl 2 rfl ?_
        obtain ⟨w_15, ew_15⟩ : ∃ a : Nat, a = q + 2 + 10 * (qi v2).toNat := ⟨_, rfl⟩
        have qw_15 := PM.pi hk_4 (i := v2) (by omega)
        have cw_15 : CM h_2 w_15 (Gs v2) := by rw [ew_15]; exact PM.row hk_4 (by omega)
        have rw_15 : q + 2 ≤ w_15 ∧ w_15 + 10 ≤ q + 82 := by omega
        have hrw : RLC (Gs v2) (mixF f v2) := hQ _ (by omega) (by omega)
        have hiw : inv (mixF f v2)   := hmx _ (by omega) (by omega)
        refine z_cVR (as := [.int (iI v2)]) (rest := []) hx dX5_becomes_18 lk_X5_25 wm_X5_rowAt wv_X5_rowAt (rcv_obj hx (And.left hk_4) rfl) mo_X5_rowAt (kX5_rowAt g (i := v2) (w := w_15) hk_4 (by omega) ew_15) (by decide) rfl rfl (Nat.le_of_ble_eq_true rfl) ?_
        refine z_astore hx dX5_becomes_21 (by decide) [1, 2, 3, 4, 0] (lv' := [(0, .ref p), (1, .ref q), (2, .int (iI v2)), (3, .ref w_14), (4, .ref w_15)]) rfl ?_
        refine z_aload_n hx dX5_becomes_23 rfl 3 rfl ?_
        refine z_ifnull hx dX5_becomes_24 ?_
        refine z_aload hx dX5_becomes_27 4 rfl ?_
        refine z_ifnull hx dX5_becomes_29 ?_
        refine z_aload_n hx dX5_becomes_32 rfl 3 rfl ?_
        refine z_aload hx dX5_becomes_33 4 rfl ?_
        refine z_cVV (as := [.ref w_15]) (rest := []) hx dX5_becomes_35 lk_X5_29 wm_X1_becomes wv_X1_becomes (rcv_obj hx (And.left cw_14) rfl) mo_X1_becomes (kX1_becomes g (F := (gFs v2)) (G := (Gs v2)) (f := (mixF f v2)) cw_14 cw_15 hrw hiw (by omega)) (by decide) rfl rfl (Nat.le_of_ble_eq_true rfl) (fun h_16 q_17 => ?_)
        obtain ⟨F_20, hC_18, hR_21, hf_19⟩ := q_17
        have hP_22 := PM.up hk_3 (i := v2) (by omega) (by rw [← ew_14]; exact hC_18) (by rw [← ew_14]; exact hf_19)
        have h_23 := PM.fr hk_4 hf_19 (by omega)
        have fr_24 := fr_5.tr (hf_19.wd (by omega) (by omega))
        refine z_iinc hx dX5_becomes_38 (by decide) 2 rfl [1, 2, 0, 3, 4] (lv' := [(0, .ref p), (1, .ref q), (2, .int (iI (v2 + 1))), (3, .ref w_14), (4, .ref w_15)]) rfl ?_
        refine z_goto (tgt := 2) hx dX5_becomes_41 (by decide) ?_
        refine z_sub [0, 1, 2] (lv' := [(0, .ref p), (1, .ref q), (2, .int (iI (v2 + 1)))]) rfl ?_
        exact ih_6 _ (fun j => if j = v2 then F_20 else gFs j) _ (by omega) (by intro j a b; (try dsimp only); by_cases w : j = v2; (rw [if_pos w, w]; exact hR_21); (rw [if_neg w]; exact eq9 j a (by omega))) hP_22 h_23 fr_24 (by omega)
  exact hL_1 ((f 58 - 0) + 1 : Int).toNat _ Fs _ (by omega) (by intro j a b; omega) hP hO Fr.rf (by omega)

set_option maxHeartbeats 4000000 in
set_option maxRecDepth 20000 in
theorem kX3_empty (g : Gt) {h : AH} {k : Nat} {F : Nat → Int → Int} {pi : Int → Int} {Fs : Int → Nat → Int → Int} {m n kp : Int} {N : Nat → Int → Int} (hK : KM h k F pi Fs m n kp N) {f : Int → Int} : CnV g mX3_empty 2 [.ref k] h (QK h k kp (beg f)) := by
  refine Cn.mk (by decide +kernel) (Nat.le_of_ble_eq_true rfl) ?_
  intro x sz hx hr
  show Zj g x (sz, 0, 0) h 0 [(0, .ref k)] []
  obtain ⟨k0, k1, k2, k3, k4, k5⟩ := hK
  refine z_aload_n hx dX3_empty_0 rfl 0 rfl ?_
  refine z_get hx dX3_empty_1 fl_X3_12 k0 rfl ?_
  refine z_cVV (as := []) (rest := []) hx dX3_empty_4 lk_X3_43 wm_X1_empty wv_X1_empty (rcv_obj hx (And.left k1) rfl) mo_X1_empty (kX1_empty g (F := F)  k1 ) (by decide) rfl rfl (Nat.le_of_ble_eq_true rfl) (fun h_1 q_2 => ?_)
  obtain ⟨hC_3, hf_4⟩ := q_2
  obtain ⟨F_5, eF_5⟩ : ∃ G : Nat → Int → Int, G = sst F 0 (fup (fup (fup (fup (F 0) 0 0) 1 0) 2 0) 3 0) := ⟨_, rfl⟩
  rw [← eF_5] at hC_3
  have h_6 := hf_4.at (by omega) k0
  have h_7 := PM.fr k2 hf_4 (by omega)
  have h_8 := hf_4.at (by omega) k3
  have h_9 := hf_4.at (by omega) k4
  have h_10 := hf_4.at (by omega) k5
  have fr_11 : Fr h h_1 k 96 := hf_4.wd (by omega) (by omega)
  refine z_aload_n hx dX3_empty_7 rfl 0 rfl ?_
  refine z_get hx dX3_empty_8 fl_X3_21 h_6 rfl ?_
  refine z_iconst hx dX3_empty_11 ?_
  refine z_putQ hx dX3_empty_12 fl_X3_46 h_7.1 ⟨rfl, rfl⟩ (Nat.le_of_ble_eq_true rfl) (fun h_12 hs_13 hf_14 => ?_)
  have hP_15 := PM.many (m := 0) h_7 hs_13 hf_14
  have h_16 := hf_14.at (by omega) h_6
  have h_17 := CM.fr hC_3 hf_14 (by omega)
  have h_18 := hf_14.at (by omega) h_8
  have h_19 := hf_14.at (by omega) h_9
  have h_20 := hf_14.at (by omega) h_10
  have fr_21 := fr_11.tr (hf_14.wd (by omega) (by omega))
  refine z_aload_n hx dX3_empty_15 rfl 0 rfl ?_
  refine z_iconst hx dX3_empty_16 ?_
  refine z_putQ hx dX3_empty_17 fl_X3_35 h_16 ⟨rfl, rfl⟩ (Nat.le_of_ble_eq_true rfl) (fun h_22 hs_23 hf_24 => ?_)
  have h_25 := CM.fr h_17 hf_24 (by omega)
  have h_26 := PM.fr hP_15 hf_24 (by omega)
  have h_27 := hf_24.at (by omega) h_18
  have h_28 := hf_24.at (by omega) h_19
  have h_29 := hf_24.at (by omega) h_20
  have fr_30 := fr_21.tr (hf_24.wd (by omega) (by omega))
  refine z_vret hx hr dX3_empty_20 rfl (q_v ⟨_, _, _, N, ⟨hs_23, h_25, h_26, h_27, h_28, h_29⟩, (by rw [eF_5]; exact RLC_beg ⟨rfl, rfl, rfl, rfl⟩), (fun i a b => absurd (show i < 0 from b) (by omega)), (fun i a b => absurd (show i < 0 from b) (by omega)), fr_30⟩)

set_option maxHeartbeats 4000000 in
set_option maxRecDepth 20000 in
theorem kX3_becomes (g : Gt) {h : AH} {k : Nat} {F : Nat → Int → Int} {pi : Int → Int} {Fs : Int → Nat → Int → Int} {m n kp : Int} {N : Nat → Int → Int} (hK : KM h k F pi Fs m n kp N) {l : Nat} {F2 : Nat → Int → Int} {pi2 : Int → Int} {Fs2 : Int → Nat → Int → Int} {kp2 : Int} {N2 : Nat → Int → Int} {f : Int → Int} (hL : KM h l F2 pi2 Fs2 (f 58) (f 39) kp2 N2) (hR : RLC F2 f) (hQ : PRl Fs2 f) (hNn : NRl N2 f) (hV : invN f) (hkl : k + 96 ≤ l ∨ l + 96 ≤ k) : CnV g mX3_becomes 4 [.ref k, .ref l] h (QK h k kp f) := by
  refine Cn.mk (by decide +kernel) (Nat.le_of_ble_eq_true rfl) ?_
  intro x sz hx hr
  show Zj g x (sz, 0, 0) h 0 [(0, .ref k), (1, .ref l)] []
  obtain ⟨k0, k1, k2, k3, k4, k5⟩ := hK
  obtain ⟨l0, l1, l2, l3, l4, l5⟩ := hL
  have hI := hV.1
  have h58 : 0 ≤ f 58 ∧ f 58 ≤ 8 := ⟨(hI.rg 58 (by decide)).1, hV.2.2.2.1⟩
  have h39 : 0 ≤ f 39 ∧ f 39 ≤ 6 := ⟨(hI.rg 39 (by decide)).1, hV.2.2.1⟩
  have hm : ∀ i, 0 ≤ i → i < f 58 → inv (mixF f i) := fun i a b => (hV.2.2.2.2.1 i a b).1
  refine z_aload_n hx dX3_becomes_0 rfl 0 rfl ?_
  refine z_get hx dX3_becomes_1 fl_X3_12 k0 rfl ?_
  refine z_aload_n hx dX3_becomes_4 rfl 1 rfl ?_
  refine z_get hx dX3_becomes_5 fl_X3_12 l0 rfl ?_
  refine z_cVV (as := [.ref (l + 1)]) (rest := []) hx dX3_becomes_8 lk_X3_49 wm_X1_becomes wv_X1_becomes (rcv_obj hx (And.left k1) rfl) mo_X1_becomes (kX1_becomes g (F := F) (G := F2) (f := f) k1 l1 hR hI (by omega)) (by decide) rfl rfl (Nat.le_of_ble_eq_true rfl) (fun h_1 q_2 => ?_)
  obtain ⟨F_5, hC_3, hR_6, hf_4⟩ := q_2
  have h_7 := hf_4.at (by omega) k0
  have h_8 := PM.fr k2 hf_4 (by omega)
  have h_9 := hf_4.at (by omega) k3
  have h_10 := hf_4.at (by omega) k4
  have h_11 := hf_4.at (by omega) k5
  have h_12 := hf_4.at (by omega) l0
  have h_13 := CM.fr l1 hf_4 (by omega)
  have h_14 := PM.fr l2 hf_4 (by omega)
  have h_15 := hf_4.at (by omega) l3
  have h_16 := hf_4.at (by omega) l4
  have h_17 := hf_4.at (by omega) l5
  have fr_18 : Fr h h_1 k 96 := hf_4.wd (by omega) (by omega)
  refine z_aload_n hx dX3_becomes_11 rfl 0 rfl ?_
  refine z_get hx dX3_becomes_12 fl_X3_21 h_7 rfl ?_
  refine z_aload_n hx dX3_becomes_15 rfl 1 rfl ?_
  refine z_get hx dX3_becomes_16 fl_X3_21 h_12 rfl ?_
  refine z_cVV (as := [.ref (l + 11)]) (rest := []) hx dX3_becomes_19 lk_X3_53 wm_X5_becomes wv_X5_becomes (rcv_obj hx (And.left h_8) rfl) mo_X5_becomes (kX5_becomes g (f := f) h_8 h_14 hQ hm h58 (by omega)) (by decide) rfl rfl (Nat.le_of_ble_eq_true rfl) (fun h_19 q_20 => ?_)
  obtain ⟨pi_21, Fs_22, hP_23, hQ_24, hf_25⟩ := q_20
  have h_26 := hf_25.at (by omega) h_7
  have h_27 := CM.fr hC_3 hf_25 (by omega)
  have h_28 := hf_25.at (by omega) h_9
  have h_29 := hf_25.at (by omega) h_10
  have h_30 := hf_25.at (by omega) h_11
  have h_31 := hf_25.at (by omega) h_12
  have h_32 := CM.fr h_13 hf_25 (by omega)
  have h_33 := PM.fr h_14 hf_25 (by omega)
  have h_34 := hf_25.at (by omega) h_15
  have h_35 := hf_25.at (by omega) h_16
  have h_36 := hf_25.at (by omega) h_17
  have fr_37 := fr_18.tr (hf_25.wd (by omega) (by omega))
  refine z_aload_n hx dX3_becomes_22 rfl 1 rfl ?_
  refine z_get hx dX3_becomes_23 fl_X3_25 h_31 rfl ?_
  refine z_iconst hx dX3_becomes_26 ?_
  refine z_aload_n hx dX3_becomes_27 rfl 0 rfl ?_
  refine z_get hx dX3_becomes_28 fl_X3_25 h_26 rfl ?_
  refine z_iconst hx dX3_becomes_31 ?_
  refine z_bipush hx dX3_becomes_32 (by decide) ?_
  refine z_copy hx dX3_becomes_34 wk_X3_56 h_34 h_28 (by decide) (by decide) (by decide) (by decide) (by decide) (Nat.le_of_ble_eq_true rfl) ?_
  obtain ⟨h_38, eh_38⟩ : ∃ hh, hh = hup h_19 (k + 93) (.inl (0, 6, fcp (N2 0) (N 0) 0 0 6)) := ⟨_, rfl⟩
  have hs_39 : h_38 (k + 93) = some (.inl (0, 6, fcp (N2 0) (N 0) 0 0 6)) := by rw [eh_38]; exact hup_s _ _ _
  have hf_40 : Fr h_19 h_38 (k + 93) 1 := by rw [eh_38]; exact hup_Fr _ _ _
  rw [← eh_38]
  have h_41 := hf_40.at (by omega) h_26
  have h_42 := CM.fr h_27 hf_40 (by omega)
  have h_43 := PM.fr hP_23 hf_40 (by omega)
  have h_44 := hf_40.at (by omega) h_29
  have h_45 := hf_40.at (by omega) h_30
  have h_46 := hf_40.at (by omega) h_31
  have h_47 := CM.fr h_32 hf_40 (by omega)
  have h_48 := PM.fr h_33 hf_40 (by omega)
  have h_49 := hf_40.at (by omega) h_34
  have h_50 := hf_40.at (by omega) h_35
  have h_51 := hf_40.at (by omega) h_36
  have fr_52 := fr_37.tr (hf_40.wd (by omega) (by omega))
  refine z_aload_n hx dX3_becomes_37 rfl 1 rfl ?_
  refine z_get hx dX3_becomes_38 fl_X3_29 h_46 rfl ?_
  refine z_iconst hx dX3_becomes_41 ?_
  refine z_aload_n hx dX3_becomes_42 rfl 0 rfl ?_
  refine z_get hx dX3_becomes_43 fl_X3_29 h_41 rfl ?_
  refine z_iconst hx dX3_becomes_46 ?_
  refine z_bipush hx dX3_becomes_47 (by decide) ?_
  refine z_copy hx dX3_becomes_49 wk_X3_56 h_50 h_44 (by decide) (by decide) (by decide) (by decide) (by decide) (Nat.le_of_ble_eq_true rfl) ?_
  obtain ⟨h_53, eh_53⟩ : ∃ hh, hh = hup h_38 (k + 94) (.inl (0, 6, fcp (N2 1) (N 1) 0 0 6)) := ⟨_, rfl⟩
  have hs_54 : h_53 (k + 94) = some (.inl (0, 6, fcp (N2 1) (N 1) 0 0 6)) := by rw [eh_53]; exact hup_s _ _ _
  have hf_55 : Fr h_38 h_53 (k + 94) 1 := by rw [eh_53]; exact hup_Fr _ _ _
  rw [← eh_53]
  have h_56 := hf_55.at (by omega) h_41
  have h_57 := CM.fr h_42 hf_55 (by omega)
  have h_58 := PM.fr h_43 hf_55 (by omega)
  have h_59 := hf_55.at (by omega) hs_39
  have h_60 := hf_55.at (by omega) h_45
  have h_61 := hf_55.at (by omega) h_46
  have h_62 := CM.fr h_47 hf_55 (by omega)
  have h_63 := PM.fr h_48 hf_55 (by omega)
  have h_64 := hf_55.at (by omega) h_49
  have h_65 := hf_55.at (by omega) h_50
  have h_66 := hf_55.at (by omega) h_51
  have fr_67 := fr_52.tr (hf_55.wd (by omega) (by omega))
  refine z_aload_n hx dX3_becomes_52 rfl 1 rfl ?_
  refine z_get hx dX3_becomes_53 fl_X3_32 h_61 rfl ?_
  refine z_iconst hx dX3_becomes_56 ?_
  refine z_aload_n hx dX3_becomes_57 rfl 0 rfl ?_
  refine z_get hx dX3_becomes_58 fl_X3_32 h_56 rfl ?_
  refine z_iconst hx dX3_becomes_61 ?_
  refine z_bipush hx dX3_becomes_62 (by decide) ?_
  refine z_copy hx dX3_becomes_64 wk_X3_56 h_66 h_60 (by decide) (by decide) (by decide) (by decide) (by decide) (Nat.le_of_ble_eq_true rfl) ?_
  obtain ⟨h_68, eh_68⟩ : ∃ hh, hh = hup h_53 (k + 95) (.inl (0, 6, fcp (N2 2) (N 2) 0 0 6)) := ⟨_, rfl⟩
  have hs_69 : h_68 (k + 95) = some (.inl (0, 6, fcp (N2 2) (N 2) 0 0 6)) := by rw [eh_68]; exact hup_s _ _ _
  have hf_70 : Fr h_53 h_68 (k + 95) 1 := by rw [eh_68]; exact hup_Fr _ _ _
  rw [← eh_68]
  have h_71 := hf_70.at (by omega) h_56
  have h_72 := CM.fr h_57 hf_70 (by omega)
  have h_73 := PM.fr h_58 hf_70 (by omega)
  have h_74 := hf_70.at (by omega) h_59
  have h_75 := hf_70.at (by omega) hs_54
  have h_76 := hf_70.at (by omega) h_61
  have h_77 := CM.fr h_62 hf_70 (by omega)
  have h_78 := PM.fr h_63 hf_70 (by omega)
  have h_79 := hf_70.at (by omega) h_64
  have h_80 := hf_70.at (by omega) h_65
  have h_81 := hf_70.at (by omega) h_66
  have fr_82 := fr_67.tr (hf_70.wd (by omega) (by omega))
  refine z_aload_n hx dX3_becomes_67 rfl 0 rfl ?_
  refine z_aload_n hx dX3_becomes_68 rfl 1 rfl ?_
  refine z_get hx dX3_becomes_69 fl_X3_35 h_76 rfl ?_
  refine z_putQ hx dX3_becomes_72 fl_X3_35 h_71 ⟨rfl, rfl⟩ (Nat.le_of_ble_eq_true rfl) (fun h_83 hs_84 hf_85 => ?_)
  have h_86 := CM.fr h_72 hf_85 (by omega)
  have h_87 := PM.fr h_73 hf_85 (by omega)
  have h_88 := hf_85.at (by omega) h_74
  have h_89 := hf_85.at (by omega) h_75
  have h_90 := hf_85.at (by omega) hs_69
  have h_91 := hf_85.at (by omega) h_76
  have h_92 := CM.fr h_77 hf_85 (by omega)
  have h_93 := PM.fr h_78 hf_85 (by omega)
  have h_94 := hf_85.at (by omega) h_79
  have h_95 := hf_85.at (by omega) h_80
  have h_96 := hf_85.at (by omega) h_81
  have fr_97 := fr_82.tr (hf_85.wd (by omega) (by omega))
  refine z_vret hx hr dX3_becomes_75 rfl (q_v ⟨_, _, _, (fun j => if j = 0 then fcp (N2 0) (N 0) 0 0 6 else if j = 1 then fcp (N2 1) (N 1) 0 0 6 else fcp (N2 2) (N 2) 0 0 6), ⟨hs_84, h_86, h_87, h_88, h_89, h_90⟩, hR_6, hQ_24, (fun i a b => ⟨(show fcp (N2 0) (N 0) 0 0 6 i = _ by rw [fcp_in (by omega), show 0 + (i - 0) = i by omega]; exact (hNn i a b).1), (show fcp (N2 1) (N 1) 0 0 6 i = _ by rw [fcp_in (by omega), show 0 + (i - 0) = i by omega]; exact (hNn i a b).2.1), (show fcp (N2 2) (N 2) 0 0 6 i = _ by rw [fcp_in (by omega), show 0 + (i - 0) = i by omega]; exact (hNn i a b).2.2)⟩), fr_97⟩)

theorem ntF_n {f : Int → Int} (h39 : 0 ≤ f 39 ∧ f 39 < 6) {k w n j : Int} (hj : j < 39 ∨ 58 ≤ j) : ntF f k w n j = f j := by
  unfold ntF
  rw [fup_n (by omega), fup_n (by omega), fup_n (by omega), fup_n (by omega)]
theorem ntF_39 {f : Int → Int} {k w n : Int} : ntF f k w n 39 = f 39 + 1 := fup_s _ _ _
theorem NRl_add {N : Nat → Int → Int} {f : Int → Int} (h : NRl N f) (h39 : 0 ≤ f 39 ∧ f 39 < 6) {k w n : Int} : NRl (fun j => if j = 0 then fup (N 0) (f 39) k else if j = 1 then fup (N 1) (f 39) w else fup (N 2) (f 39) n) (ntF f k w n) := by
  intro i a b
  rw [ntF_39] at b
  have e : ∀ j, ntF f k w n j = if j = 39 then f 39 + 1 else if j = 40 + 3 * f 39 + 2 then n else if j = 40 + 3 * f 39 + 1 then w else if j = 40 + 3 * f 39 then k else f j := fun j => rfl
  show (if i = f 39 then k else N 0 i) = _ ∧ (if i = f 39 then w else N 1 i) = _ ∧ (if i = f 39 then n else N 2 i) = _
  have e0 := e (40 + 3 * i); have e1 := e (40 + 3 * i + 1); have e2 := e (40 + 3 * i + 2)
  by_cases c : i = f 39
  · rw [c] at e0 e1 e2 ⊢
    rw [e0, e1, e2]
    refine ⟨?_, ?_, ?_⟩
    · rw [if_pos rfl, if_neg (by omega), if_neg (by omega), if_neg (by omega), if_pos rfl]
    · rw [if_pos rfl, if_neg (by omega), if_neg (by omega), if_pos rfl]
    · rw [if_pos rfl, if_neg (by omega), if_pos rfl]
  · have := h i a (by omega)
    rw [e0, e1, e2, if_neg c, if_neg c, if_neg c]
    refine ⟨?_, ?_, ?_⟩
    · rw [if_neg (by omega), if_neg (by omega), if_neg (by omega), if_neg (by omega)]; exact this.1
    · rw [if_neg (by omega), if_neg (by omega), if_neg (by omega), if_neg (by omega)]; exact this.2.1
    · rw [if_neg (by omega), if_neg (by omega), if_neg (by omega), if_neg (by omega)]; exact this.2.2
theorem dg_no {N : Nat → Int → Int} {f : Int → Int} {i e0 : Int} (hi : 0 ≤ i) : itI (3 * (i + 1)) (dg4 f 40) e0 = 31 * (31 * (31 * itI (3 * i) (dg4 f 40) e0 + f (40 + 3 * i)) + f (40 + 3 * i + 1)) + f (40 + 3 * i + 2) := by
  rw [show 3 * (i + 1) = 3 * i + 1 + 1 + 1 by omega, itI_s _ _ (by omega), itI_s _ _ (by omega), itI_s _ _ (by omega)]
  unfold dg4
  rw [show 40 + (3 * i + 1) = 40 + 3 * i + 1 by omega, show 40 + (3 * i + 1 + 1) = 40 + 3 * i + 2 by omega]

set_option maxHeartbeats 4000000 in
set_option maxRecDepth 20000 in
theorem kX3_addNote (g : Gt) {h : AH} {k : Nat} {F : Nat → Int → Int} {pi : Int → Int} {Fs : Int → Nat → Int → Int} {kp : Int} {N : Nat → Int → Int} {f : Int → Int} (hK : KM h k F pi Fs (f 58) (f 39) kp N) (hR : RLC F f) (hQ : PRl Fs f) (hNn : NRl N f) (hV : invN f) {k9 w9 n9 : Int} (h6 : f 39 < 6) : CnJ g mX3_addNote 1 [.ref k, .int (iI k9), .int (iI w9), .int (iI n9)] h (f 39 + 1) (QK h k kp (ntF f k9 w9 n9)) := by
  refine Cn.mk (by decide +kernel) (Nat.le_of_ble_eq_true rfl) ?_
  intro x sz hx hr
  show Zj g x (sz, 0, 0) h 0 [(0, .ref k), (1, .int (iI k9)), (2, .int (iI w9)), (3, .int (iI n9))] []
  obtain ⟨k0, k1, k2, k3, k4, k5⟩ := hK
  have hI := hV.1
  have h58 : 0 ≤ f 58 ∧ f 58 ≤ 8 := ⟨(hI.rg 58 (by decide)).1, hV.2.2.2.1⟩
  have h39 : 0 ≤ f 39 ∧ f 39 ≤ 6 := ⟨(hI.rg 39 (by decide)).1, hV.2.2.1⟩
  have hmx : ∀ i, 0 ≤ i → i < f 58 → inv (mixF f i) := fun i a b => (hV.2.2.2.2.1 i a b).1
  refine z_aload_n hx dX3_addNote_0 rfl 0 rfl ?_
  refine z_get hx dX3_addNote_1 fl_X3_35 k0 rfl ?_
  refine z_bipush hx dX3_addNote_4 (by decide) ?_
  refine z_icmp_lt (tgt := 12) hx dX3_addNote_6 (by decide) (by omega) (by decide) (fun c_1 => ?_) (fun c_1 => by exfalso; omega)
  refine z_aload_n hx dX3_addNote_12 rfl 0 rfl ?_
  refine z_get hx dX3_addNote_13 fl_X3_25 k0 rfl ?_
  refine z_aload_n hx dX3_addNote_16 rfl 0 rfl ?_
  refine z_get hx dX3_addNote_17 fl_X3_35 k0 rfl ?_
  refine z_iload_n hx dX3_addNote_20 rfl 1 rfl ?_
  refine z_iastQ hx dX3_addNote_21 k3 (by omega) (by decide) (fun h_2 hs_3 hf_4 => ?_)
  have h_5 := hf_4.at (by omega) k0
  have h_6 := CM.fr k1 hf_4 (by omega)
  have h_7 := PM.fr k2 hf_4 (by omega)
  have h_8 := hf_4.at (by omega) k4
  have h_9 := hf_4.at (by omega) k5
  have fr_10 : Fr h h_2 k 96 := hf_4.wd (by omega) (by omega)
  refine z_aload_n hx dX3_addNote_22 rfl 0 rfl ?_
  refine z_get hx dX3_addNote_23 fl_X3_29 h_5 rfl ?_
  refine z_aload_n hx dX3_addNote_26 rfl 0 rfl ?_
  refine z_get hx dX3_addNote_27 fl_X3_35 h_5 rfl ?_
  refine z_iload_n hx dX3_addNote_30 rfl 2 rfl ?_
  refine z_iastQ hx dX3_addNote_31 h_8 (by omega) (by decide) (fun h_11 hs_12 hf_13 => ?_)
  have h_14 := hf_13.at (by omega) h_5
  have h_15 := CM.fr h_6 hf_13 (by omega)
  have h_16 := PM.fr h_7 hf_13 (by omega)
  have h_17 := hf_13.at (by omega) hs_3
  have h_18 := hf_13.at (by omega) h_9
  have fr_19 := fr_10.tr (hf_13.wd (by omega) (by omega))
  refine z_aload_n hx dX3_addNote_32 rfl 0 rfl ?_
  refine z_get hx dX3_addNote_33 fl_X3_32 h_14 rfl ?_
  refine z_aload_n hx dX3_addNote_36 rfl 0 rfl ?_
  refine z_get hx dX3_addNote_37 fl_X3_35 h_14 rfl ?_
  refine z_iload_n hx dX3_addNote_40 rfl 3 rfl ?_
  refine z_iastQ hx dX3_addNote_41 h_18 (by omega) (by decide) (fun h_20 hs_21 hf_22 => ?_)
  have h_23 := hf_22.at (by omega) h_14
  have h_24 := CM.fr h_15 hf_22 (by omega)
  have h_25 := PM.fr h_16 hf_22 (by omega)
  have h_26 := hf_22.at (by omega) h_17
  have h_27 := hf_22.at (by omega) hs_12
  have fr_28 := fr_19.tr (hf_22.wd (by omega) (by omega))
  refine z_aload_n hx dX3_addNote_42 rfl 0 rfl ?_
  refine z_dup hx dX3_addNote_43 rfl ?_
  refine z_get hx dX3_addNote_44 fl_X3_35 h_23 rfl ?_
  refine z_iconst hx dX3_addNote_47 ?_
  refine z_iadd hx dX3_addNote_48 ?_
  refine z_putQ hx dX3_addNote_49 fl_X3_35 h_23 ⟨rfl, rfl⟩ (Nat.le_of_ble_eq_true rfl) (fun h_29 hs_30 hf_31 => ?_)
  have h_32 := CM.fr h_24 hf_31 (by omega)
  have h_33 := PM.fr h_25 hf_31 (by omega)
  have h_34 := hf_31.at (by omega) h_26
  have h_35 := hf_31.at (by omega) h_27
  have h_36 := hf_31.at (by omega) hs_21
  have fr_37 := fr_28.tr (hf_31.wd (by omega) (by omega))
  refine z_aload_n hx dX3_addNote_52 rfl 0 rfl ?_
  refine z_get hx dX3_addNote_53 fl_X3_35 hs_30 rfl ?_
  refine z_iret hx hr dX3_addNote_56 rfl rfl (q_j (by omega) ⟨F, pi, Fs, (fun j => if j = 0 then fup (N 0) (f 39) k9 else if j = 1 then fup (N 1) (f 39) w9 else fup (N 2) (f 39) n9), (by rw [ntF_39, ntF_n (by omega) (by omega)]; exact ⟨hs_30, h_32, h_33, h_34, h_35, h_36⟩), RLC_ext hR hI.n (fun j a b => ntF_n (by omega) (by omega)), PRl_ext hQ hmx (by omega) (fun j a => ntF_n (by omega) (by omega)), NRl_add hNn (by omega), fr_37⟩)

set_option maxHeartbeats 4000000 in
set_option maxRecDepth 20000 in
theorem kX3_digestNotesOn (g : Gt) {h : AH} {k : Nat} {F : Nat → Int → Int} {pi : Int → Int} {Fs : Int → Nat → Int → Int} {kp : Int} {N : Nat → Int → Int} {f : Int → Int} (hK : KM h k F pi Fs (f 58) (f 39) kp N) (hR : RLC F f) (hQ : PRl Fs f) (hNn : NRl N f) (hV : invN f) {e0 : Int} : CnL g mX3_digestNotesOn 1 [.ref k, .long (lI e0)] h (itI (3 * f 39) (dg4 f 40) e0) := by
  refine Cn.mk (by decide +kernel) (Nat.le_of_ble_eq_true rfl) ?_
  intro x sz hx hr
  show Zj g x (sz, 0, 0) h 0 [(0, .ref k), (1, .long (lI e0))] []
  obtain ⟨k0, k1, k2, k3, k4, k5⟩ := hK
  have hI := hV.1
  have h58 : 0 ≤ f 58 ∧ f 58 ≤ 8 := ⟨(hI.rg 58 (by decide)).1, hV.2.2.2.1⟩
  have h39 : 0 ≤ f 39 ∧ f 39 ≤ 6 := ⟨(hI.rg 39 (by decide)).1, hV.2.2.1⟩
  have hmx : ∀ i, 0 ≤ i → i < f 58 → inv (mixF f i) := fun i a b => (hV.2.2.2.2.1 i a b).1
  refine z_iconst hx dX3_digestNotesOn_0 ?_
  refine z_istore_n hx dX3_digestNotesOn_1 rfl (by decide) [1, 2, 0] (lv' := [(0, .ref k), (1, .long (lI e0)), (3, .int (iI 0))]) rfl ?_
  have hL_1 : ∀ (mm : Nat) (d1 : Int) (v3 : Int), (0 ≤ v3 ∧ v3 ≤ f 39) → (d1 = itI (3 * v3) (dg4 f 40) e0) → f 39 - v3 < (mm : Int) → Zj g x (sz, 0, 0) h 2 [(0, .ref k), (1, .long (lI d1)), (3, .int (iI v3))] [] := by
    intro mm
    induction mm with
    | zero => intro d1 v3 kv eg hm; exfalso; omega
    | succ mm ih =>
      intro d1 v3 kv eg hm
      have ih_2 := ih; clear ih
      have hno := hV.2.2.2.2.2
      refine z_iload_n hx dX3_digestNotesOn_2 rfl 2 rfl ?_
      refine z_aload_n hx dX3_digestNotesOn_3 rfl 0 rfl ?_
      refine z_get hx dX3_digestNotesOn_4 fl_X3_35 k0 rfl ?_
      refine z_icmp_ge (tgt := 58) hx dX3_digestNotesOn_7 (by decide) (by omega) (by omega) (fun c_3 => ?_) (fun c_3 => ?_)
      ·
        refine z_lload_n hx dX3_digestNotesOn_58 rfl 1 rfl ?_
        refine z_lret hx hr dX3_digestNotesOn_59 rfl (q_l (by rw [eg, show v3 = f 39 by omega]))
      ·
        refine z_ldc2 (a := 31) hx dX3_digestNotesOn_10 wq_X3_62 (by decide) ?_
        refine z_lload_n hx dX3_digestNotesOn_13 rfl 1 rfl ?_
        refine z_lmul hx dX3_digestNotesOn_14 ?_
        refine z_aload_n hx dX3_digestNotesOn_15 rfl 0 rfl ?_
        refine z_get hx dX3_digestNotesOn_16 fl_X3_25 k0 rfl ?_
        refine z_iload_n hx dX3_digestNotesOn_19 rfl 2 rfl ?_
        have r40 := hI.rg (40 + 3 * v3) (by omega)
        have r41 := hI.rg (40 + 3 * v3 + 1) (by omega)
        have r42 := hI.rg (40 + 3 * v3 + 2) (by omega)
        refine z_iald hx dX3_digestNotesOn_20 k3 (by omega) (by decide) ?_
        have nn_4 := hNn v3 (by omega) (by omega)
        refine z_i2l hx dX3_digestNotesOn_21 (by omega) ?_
        refine z_ladd hx dX3_digestNotesOn_22 ?_
        refine z_lstore_n hx dX3_digestNotesOn_23 rfl (by decide) [1, 0, 2] (lv' := [(0, .ref k), (1, .long (lI ((31 * d1) + (N 0 v3)))), (3, .int (iI v3))]) rfl ?_
        refine z_ldc2 (a := 31) hx dX3_digestNotesOn_24 wq_X3_62 (by decide) ?_
        refine z_lload_n hx dX3_digestNotesOn_27 rfl 1 rfl ?_
        refine z_lmul hx dX3_digestNotesOn_28 ?_
        refine z_aload_n hx dX3_digestNotesOn_29 rfl 0 rfl ?_
        refine z_get hx dX3_digestNotesOn_30 fl_X3_29 k0 rfl ?_
        refine z_iload_n hx dX3_digestNotesOn_33 rfl 2 rfl ?_
        refine z_iald hx dX3_digestNotesOn_34 k4 (by omega) (by decide) ?_
        have nn_5 := hNn v3 (by omega) (by omega)
        refine z_i2l hx dX3_digestNotesOn_35 (by omega) ?_
        refine z_ladd hx dX3_digestNotesOn_36 ?_
        refine z_lstore_n hx dX3_digestNotesOn_37 rfl (by decide) [1, 0, 2] (lv' := [(0, .ref k), (1, .long (lI ((31 * ((31 * d1) + (N 0 v3))) + (N 1 v3)))), (3, .int (iI v3))]) rfl ?_
        refine z_ldc2 (a := 31) hx dX3_digestNotesOn_38 wq_X3_62 (by decide) ?_
        refine z_lload_n hx dX3_digestNotesOn_41 rfl 1 rfl ?_
        refine z_lmul hx dX3_digestNotesOn_42 ?_
        refine z_aload_n hx dX3_digestNotesOn_43 rfl 0 rfl ?_
        refine z_get hx dX3_digestNotesOn_44 fl_X3_32 k0 rfl ?_
        refine z_iload_n hx dX3_digestNotesOn_47 rfl 2 rfl ?_
        refine z_iald hx dX3_digestNotesOn_48 k5 (by omega) (by decide) ?_
        have nn_6 := hNn v3 (by omega) (by omega)
        refine z_i2l hx dX3_digestNotesOn_49 (by omega) ?_
        refine z_ladd hx dX3_digestNotesOn_50 ?_
        refine z_lstore_n hx dX3_digestNotesOn_51 rfl (by decide) [1, 0, 2] (lv' := [(0, .ref k), (1, .long (lI ((31 * ((31 * ((31 * d1) + (N 0 v3))) + (N 1 v3))) + (N 2 v3)))), (3, .int (iI v3))]) rfl ?_
        refine z_iinc hx dX3_digestNotesOn_52 (by decide) 2 rfl [1, 2, 0] (lv' := [(0, .ref k), (1, .long (lI ((31 * ((31 * ((31 * d1) + (N 0 v3))) + (N 1 v3))) + (N 2 v3)))), (3, .int (iI (v3 + 1)))]) rfl ?_
        refine z_goto (tgt := 2) hx dX3_digestNotesOn_55 (by decide) ?_
        exact ih_2 _ _ (by omega) (by rw [dg_no (N := N) kv.1, ← eg, show N 0 v3 = f (40 + 3 * v3) by omega, show N 1 v3 = f (40 + 3 * v3 + 1) by omega, show N 2 v3 = f (40 + 3 * v3 + 2) by omega])  (by omega)
  exact hL_1 ((f 39 - 0) + 1 : Int).toNat _ _ (by omega) (by rfl)  (by omega)

