/-! the words' own strings: their length, their letters -/
def wLen (i : Nat) : Int := ((strLen.getD i 0 : Nat) : Int)
def wB (i : Nat) (j : Int) : Int := ((strByt.getD i []).getD j.toNat 0).toInt
theorem i5 {i : Nat} (hi : i < 5) : i = 0 ∨ i = 1 ∨ i = 2 ∨ i = 3 ∨ i = 4 := by omega
theorem wLen_rg {i : Nat} (hi : i < 5) : 4 ≤ wLen i ∧ wLen i ≤ 7 := by rcases i5 hi with rfl | rfl | rfl | rfl | rfl <;> decide
theorem wB_t : ∀ i : Fin 5, ∀ j : Fin 7, (j.val : Int) < wLen i.val → 97 ≤ wB i.val (j.val : Int) ∧ wB i.val (j.val : Int) ≤ 122 := by decide +kernel
theorem wB_rg {i : Nat} (hi : i < 5) {j : Int} (hj : 0 ≤ j ∧ j < wLen i) : 97 ≤ wB i j ∧ wB i j ≤ 122 := by
  have h7 := wLen_rg hi
  have := wB_t ⟨i, hi⟩ ⟨j.toNat, by omega⟩
  dsimp only at this
  rw [Int.toNat_of_nonneg hj.1] at this
  exact this hj.2
theorem and255_t : ∀ v : Fin 128, andI (v.val : Int) 255 = (v.val : Int) := by decide +kernel
theorem and255 {v : Int} (h : 0 ≤ v ∧ v < 128) : andI v 255 = v := by
  have := and255_t ⟨v.toNat, by omega⟩
  dsimp only at this
  rwa [Int.toNat_of_nonneg h.1] at this
section Str
variable {g : Gt} {x : Xt} {M : MM} {d cs ss idx : Nat} {u : Nat × Nat × Nat} {h : AH} {pc : Nat} {lv : List (Nat × Value)} {st : List Value} {i : Nat}
theorem z_ldcS (hi : i < 5) (hx : Ok g x M d cs ss) (hd : decode M.2.1 pc = .ok (.ldc idx, 2)) (hc : M.1.cls = RX7) (hidx : strIx.getD i 0 = idx) (k : Zj g x u h (pc + 2) lv (.ref (gK g i) :: st)) : Zj g x u h pc lv st := by
  obtain ⟨p, e, R, s, m, args, below, meth, c, nL, Q⟩ := x
  obtain ⟨hx, hb, hml, hnL, hown, hts, hK, hlk, hnm, hrt, hfr, hlo, hcs, hss⟩ := hx
  intro H locs ls hW hz hu hS hl
  subst hidx
  exact va_ldcS hx hb (own := RX7) (by rw [← hc]; exact hown) (hK.2.2.2.2.2.2.2 i hi) hd (k H locs ls hW hz hu hS hl)
theorem z_sval (hi : i < 5) (hx : Ok g x M d cs ss) (hd : decode M.2.1 pc = .ok (.getfield 9, 3)) (hc : M.1.cls = RJ0) (k : Zj g x u h (pc + 3) lv (.ref (gV g i) :: st)) : Zj g x u h pc lv (.ref (gK g i) :: st) := by
  obtain ⟨p, e, R, s, m, args, below, meth, c, nL, Q⟩ := x
  obtain ⟨hx, hb, hml, hnL, hown, hts, hK, hlk, hnm, hrt, hfr, hlo, hcs, hss⟩ := hx
  intro H locs ls hW hz hu hS hl
  exact vk_getf hx hb (hK.2.2.2.2.2.2.1.1 i hi).2.2.1 hS (own := RJ0) (by rw [← hc]; exact hown) (hts _ (mg wf_J0_9 rfl)) (fun _ q => q) hd (k H locs ls hW hz hu hS hl)
theorem z_scod (hi : i < 5) (hx : Ok g x M d cs ss) (hd : decode M.2.1 pc = .ok (.getfield 15, 3)) (hc : M.1.cls = RJ0) (k : Zj g x u h (pc + 3) lv (.int (iI 0) :: st)) : Zj g x u h pc lv (.ref (gK g i) :: st) := by
  obtain ⟨p, e, R, s, m, args, below, meth, c, nL, Q⟩ := x
  obtain ⟨hx, hb, hml, hnL, hown, hts, hK, hlk, hnm, hrt, hfr, hlo, hcs, hss⟩ := hx
  intro H locs ls hW hz hu hS hl
  exact vk_getf hx hb (v := .int (iI 0)) (by rw [← i0]; exact (hK.2.2.2.2.2.2.1.1 i hi).2.1) hS (own := RJ0) (by rw [← hc]; exact hown) (hts _ (mg wf_J0_15 rfl)) (fun _ q => q) hd (k H locs ls hW hz hu hS hl)
theorem z_sct (hx : Ok g x M d cs ss) (hd : decode M.2.1 pc = .ok (.getstatic 38, 3)) (hc : M.1.cls = RJ0) (k : Zj g x u h (pc + 3) lv (.int (iI 1) :: st)) : Zj g x u h pc lv st := by
  obtain ⟨p, e, R, s, m, args, below, meth, c, nL, Q⟩ := x
  obtain ⟨hx, hb, hml, hnL, hown, hts, hK, hlk, hnm, hrt, hfr, hlo, hcs, hss⟩ := hx
  intro H locs ls hW hz hu hS hl
  exact va_gets hx hb (v := .int (iI 1)) (by rw [show iI 1 = (1 : Int32) by decide]; exact hK.2.2.2.2.1) hS (own := RJ0) (by rw [← hc]; exact hown) (hts _ (mg wf_J0_38 rfl)) (fun _ q => q) hd (k H locs ls hW hz hu hS hl)
theorem z_sfm (hx : Ok g x M d cs ss) (hd : decode M.2.1 pc = .ok (.getstatic 1053, 3)) (hc : M.1.cls = RJ0) (k : ∀ t : Nat, Zj g x u h (pc + 3) lv (.ref t :: st)) (kn : Zj g x u h (pc + 3) lv (.null :: st)) : Zj g x u h pc lv st := by
  obtain ⟨p, e, R, s, m, args, below, meth, c, nL, Q⟩ := x
  obtain ⟨hx, hb, hml, hnL, hown, hts, hK, hlk, hnm, hrt, hfr, hlo, hcs, hss⟩ := hx
  intro H locs ls hW hz hu hS hl
  rcases hK.2.2.2.2.2.1 with ht | ⟨t, ht⟩
  · exact va_gets hx hb ht hS (own := RJ0) (by rw [← hc]; exact hown) (hts _ (mg wf_J0_1053 rfl)) (fun _ q => q) hd (kn H locs ls hW hz hu hS hl)
  · exact va_gets hx hb ht hS (own := RJ0) (by rw [← hc]; exact hown) (hts _ (mg wf_J0_1053 rfl)) (fun _ q => q) hd (k t H locs ls hW hz hu hS hl)
theorem z_slen (hi : i < 5) (hx : Ok g x M d cs ss) (hd : decode M.2.1 pc = .ok (.arraylength, 1)) (k : Zj g x u h (pc + 1) lv (.int (iI (wLen i)) :: st)) : Zj g x u h pc lv (.ref (gV g i) :: st) := by
  obtain ⟨p, e, R, s, m, args, below, meth, c, nL, Q⟩ := x
  obtain ⟨hx, hb, hml, hnL, hown, hts, hK, hlk, hnm, hrt, hfr, hlo, hcs, hss⟩ := hx
  intro H locs ls hW hz hu hS hl
  exact va_tlen hx hb (hK.2.2.2.2.2.2.1.1 i hi).2.2.2 hS (v := iI (wLen i)) (by rcases i5 hi with rfl | rfl | rfl | rfl | rfl <;> decide) hd (k H locs ls hW hz hu hS hl)
theorem z_sbal (hi : i < 5) {j : Int} (hj : 0 ≤ j ∧ j < wLen i) (hx : Ok g x M d cs ss) (hd : decode M.2.1 pc = .ok (.baload, 1)) (k : Zj g x u h (pc + 1) lv (.int (iI (wB i j)) :: st)) : Zj g x u h pc lv (.int (iI j) :: .ref (gV g i) :: st) := by
  obtain ⟨p, e, R, s, m, args, below, meth, c, nL, Q⟩ := x
  obtain ⟨hx, hb, hml, hnL, hown, hts, hK, hlk, hnm, hrt, hfr, hlo, hcs, hss⟩ := hx
  intro H locs ls hW hz hu hS hl
  have h7 := wLen_rg hi
  have e : (iI j).toNatClampNeg = j.toNat := iI_nat (n := 8) hj.1 (by omega) (by omega)
  refine va_tb hx hb (hK.2.2.2.2.2.2.1.1 i hi).2.2.2 hS (i := iI j) (iI_in hj.1 hj.2 (by omega)) (v := .int (iI (wB i j))) ?_ hd (k H locs ls hW hz hu hS hl)
  rw [e]
  unfold wB
  rw [iI_of]
theorem rcv_str (hi : i < 5) (hx : Ok g x M d cs ss) : Rcv g x h (gK g i) RJ0 := by
  obtain ⟨p, e, R, s, m, args, below, meth, c, nL, Q⟩ := x
  obtain ⟨hx, hb, hml, hnL, hown, hts, hK, hlk, hnm, hrt, hfr, hlo, hcs, hss⟩ := hx
  intro H locs hW hS
  exact vk_recv hK.2.2.2.2.2.2.1 hi hS
end Str
theorem kS_coder (g : Gt) {h : AH} {i : Nat} (hi : i < 5) : CnI g mJ0_coder_7d493 1 [.ref (gK g i)] h 0 := by
  refine Cn.mk (by decide +kernel) (Nat.le_of_ble_eq_true rfl) ?_
  intro x sz hx hr
  show Zj g x (sz, 0, 0) h 0 [(0, .ref (gK g i))] []
  refine z_sct hx dJ0_coder_7d493_0 rfl ?_
  refine z_if_eq (tgt := 13) hx dJ0_coder_7d493_3 (by decide) (by decide) (fun q => absurd q (by decide)) (fun _ => ?_)
  refine z_aload_n hx dJ0_coder_7d493_6 rfl 0 rfl ?_
  refine z_scod hi hx dJ0_coder_7d493_7 rfl ?_
  refine z_goto (tgt := 14) hx dJ0_coder_7d493_10 (by decide) ?_
  refine z_iret hx hr dJ0_coder_7d493_14 rfl rfl (q_i rfl)
theorem kS_isLatin1 (g : Gt) {h : AH} {i : Nat} (hi : i < 5) : CnI g mJ0_isLatin1_aae02 1 [.ref (gK g i)] h 1 := by
  refine Cn.mk (by decide +kernel) (Nat.le_of_ble_eq_true rfl) ?_
  intro x sz hx hr
  show Zj g x (sz, 0, 0) h 0 [(0, .ref (gK g i))] []
  refine z_sct hx dJ0_isLatin1_aae02_0 rfl ?_
  refine z_if_eq (tgt := 17) hx dJ0_isLatin1_aae02_3 (by decide) (by decide) (fun q => absurd q (by decide)) (fun _ => ?_)
  refine z_aload_n hx dJ0_isLatin1_aae02_6 rfl 0 rfl ?_
  refine z_scod hi hx dJ0_isLatin1_aae02_7 rfl ?_
  refine z_if_ne (tgt := 17) hx dJ0_isLatin1_aae02_10 (by decide) (by decide) (fun q => absurd q (by decide)) (fun _ => ?_)
  refine z_iconst hx dJ0_isLatin1_aae02_13 ?_
  refine z_goto (tgt := 18) hx dJ0_isLatin1_aae02_14 (by decide) ?_
  refine z_iret hx hr dJ0_isLatin1_aae02_18 rfl rfl (q_i rfl)
theorem kS_length (g : Gt) {h : AH} {i : Nat} (hi : i < 5) : CnI g mJ0_length_8abf5 2 [.ref (gK g i)] h (wLen i) := by
  refine Cn.mk (by decide +kernel) (Nat.le_of_ble_eq_true rfl) ?_
  intro x sz hx hr
  show Zj g x (sz, 0, 0) h 0 [(0, .ref (gK g i))] []
  refine z_aload_n hx dJ0_length_8abf5_0 rfl 0 rfl ?_
  refine z_sval hi hx dJ0_length_8abf5_1 rfl ?_
  refine z_slen hi hx dJ0_length_8abf5_4 ?_
  refine z_aload_n hx dJ0_length_8abf5_5 rfl 0 rfl ?_
  refine z_cVI (as := []) (rest := [.int (iI (wLen i))]) hx dJ0_length_8abf5_6 lk_J0_335 wm_J0_coder_7d493 wv_J0_coder_7d493 (rcv_str hi hx) mo_J0_coder_7d493 (kS_coder g hi) (by decide) rfl rfl (Nat.le_of_ble_eq_true rfl) ?_
  refine z_ishr hx dJ0_length_8abf5_9 ?_
  refine z_iret hx hr dJ0_length_8abf5_10 rfl rfl (q_i (by rcases i5 hi with rfl | rfl | rfl | rfl | rfl <;> decide))
theorem kJ3_check (g : Gt) {h : AH} {a n : Int} {t : Nat} (ha : 0 ≤ a ∧ a < n) (hn : n ≤ 1000) : CnI g mJ3_checkIndex_8e157 1 [.int (iI a), .int (iI n), .ref t] h a := by
  refine Cn.mk (by decide +kernel) (Nat.le_of_ble_eq_true rfl) ?_
  intro x sz hx hr
  show Zj g x (sz, 0, 0) h 0 [(0, .int (iI a)), (1, .int (iI n)), (2, .ref t)] []
  refine z_iload_n hx dJ3_checkIndex_8e157_0 rfl 0 rfl ?_
  refine z_if_lt (tgt := 9) hx dJ3_checkIndex_8e157_1 (by decide) (by omega) (fun q => by exfalso; omega) (fun _ => ?_)
  refine z_iload_n hx dJ3_checkIndex_8e157_4 rfl 0 rfl ?_
  refine z_iload_n hx dJ3_checkIndex_8e157_5 rfl 1 rfl ?_
  refine z_icmp_lt (tgt := 16) hx dJ3_checkIndex_8e157_6 (by decide) (by omega) (by omega) (fun _ => ?_) (fun q => by exfalso; omega)
  refine z_iload_n hx dJ3_checkIndex_8e157_16 rfl 0 rfl ?_
  refine z_iret hx hr dJ3_checkIndex_8e157_17 rfl rfl (q_i rfl)
theorem kJ3_checkN (g : Gt) {h : AH} {a n : Int} (ha : 0 ≤ a ∧ a < n) (hn : n ≤ 1000) : CnI g mJ3_checkIndex_8e157 1 [.int (iI a), .int (iI n), .null] h a := by
  refine Cn.mk (by decide +kernel) (Nat.le_of_ble_eq_true rfl) ?_
  intro x sz hx hr
  show Zj g x (sz, 0, 0) h 0 [(0, .int (iI a)), (1, .int (iI n)), (2, .null)] []
  refine z_iload_n hx dJ3_checkIndex_8e157_0 rfl 0 rfl ?_
  refine z_if_lt (tgt := 9) hx dJ3_checkIndex_8e157_1 (by decide) (by omega) (fun q => by exfalso; omega) (fun _ => ?_)
  refine z_iload_n hx dJ3_checkIndex_8e157_4 rfl 0 rfl ?_
  refine z_iload_n hx dJ3_checkIndex_8e157_5 rfl 1 rfl ?_
  refine z_icmp_lt (tgt := 16) hx dJ3_checkIndex_8e157_6 (by decide) (by omega) (by omega) (fun _ => ?_) (fun q => by exfalso; omega)
  refine z_iload_n hx dJ3_checkIndex_8e157_16 rfl 0 rfl ?_
  refine z_iret hx hr dJ3_checkIndex_8e157_17 rfl rfl (q_i rfl)
theorem kJ0_check (g : Gt) {h : AH} {a n : Int} (ha : 0 ≤ a ∧ a < n) (hn : n ≤ 1000) : CnV g mJ0_checkIndex_df160 2 [.int (iI a), .int (iI n)] h (fun h' => h' = h) := by
  refine Cn.mk (by decide +kernel) (Nat.le_of_ble_eq_true rfl) ?_
  intro x sz hx hr
  show Zj g x (sz, 0, 0) h 0 [(0, .int (iI a)), (1, .int (iI n))] []
  refine z_iload_n hx dJ0_checkIndex_df160_0 rfl 0 rfl ?_
  refine z_iload_n hx dJ0_checkIndex_df160_1 rfl 1 rfl ?_
  refine z_sfm hx dJ0_checkIndex_df160_2 rfl (fun t => ?_) ?_
  · refine z_cSI (as := [.int (iI a), .int (iI n), .ref t]) (rest := []) hx dJ0_checkIndex_df160_5 lk_J0_1059 wt_J3_checkIndex_8e157 mo_J3_checkIndex_8e157 (kJ3_check g ha hn) (by decide) rfl rfl (Nat.le_of_ble_eq_true rfl) ?_
    refine z_pop hx dJ0_checkIndex_df160_8 rfl ?_
    refine z_vret hx hr dJ0_checkIndex_df160_9 rfl (q_v (Q := fun h' => h' = h) rfl)
  · refine z_cSI (as := [.int (iI a), .int (iI n), .null]) (rest := []) hx dJ0_checkIndex_df160_5 lk_J0_1059 wt_J3_checkIndex_8e157 mo_J3_checkIndex_8e157 (kJ3_checkN g ha hn) (by decide) rfl rfl (Nat.le_of_ble_eq_true rfl) ?_
    refine z_pop hx dJ0_checkIndex_df160_8 rfl ?_
    refine z_vret hx hr dJ0_checkIndex_df160_9 rfl (q_v (Q := fun h' => h' = h) rfl)
theorem kJ1_charAt (g : Gt) {h : AH} {i : Nat} (hi : i < 5) {j : Int} (hj : 0 ≤ j ∧ j < wLen i) : CnI g mJ1_charAt_3b067 3 [.ref (gV g i), .int (iI j)] h (wB i j) := by
  have h7 := wLen_rg hi
  have hb := wB_rg hi hj
  refine Cn.mk (by decide +kernel) (Nat.le_of_ble_eq_true rfl) ?_
  intro x sz hx hr
  show Zj g x (sz, 0, 0) h 0 [(0, .ref (gV g i)), (1, .int (iI j))] []
  refine z_iload_n hx dJ1_charAt_3b067_0 rfl 1 rfl ?_
  refine z_aload_n hx dJ1_charAt_3b067_1 rfl 0 rfl ?_
  refine z_slen hi hx dJ1_charAt_3b067_2 ?_
  refine z_cSV (as := [.int (iI j), .int (iI (wLen i))]) (rest := []) hx dJ1_charAt_3b067_3 lk_J1_9 wt_J0_checkIndex_df160 mo_J0_checkIndex_df160 (kJ0_check g hj (by omega)) (by decide) rfl rfl (Nat.le_of_ble_eq_true rfl) (fun h' q => ?_)
  subst q
  refine z_aload_n hx dJ1_charAt_3b067_6 rfl 0 rfl ?_
  refine z_iload_n hx dJ1_charAt_3b067_7 rfl 1 rfl ?_
  refine z_sbal hi hj hx dJ1_charAt_3b067_8 ?_
  refine z_sipush hx dJ1_charAt_3b067_9 (by decide) ?_
  refine z_iand hx dJ1_charAt_3b067_12 ?_
  rw [and255 (by omega)]
  refine z_i2c hx dJ1_charAt_3b067_13 (by omega) ?_
  refine z_iret hx hr dJ1_charAt_3b067_14 rfl (nar_c (by omega)) (q_i rfl)
theorem kS_charAt (g : Gt) {h : AH} {i : Nat} (hi : i < 5) {j : Int} (hj : 0 ≤ j ∧ j < wLen i) : CnI g mJ0_charAt_5068e 4 [.ref (gK g i), .int (iI j)] h (wB i j) := by
  have hb := wB_rg hi hj
  refine Cn.mk (by decide +kernel) (Nat.le_of_ble_eq_true rfl) ?_
  intro x sz hx hr
  show Zj g x (sz, 0, 0) h 0 [(0, .ref (gK g i)), (1, .int (iI j))] []
  refine z_aload_n hx dJ0_charAt_5068e_0 rfl 0 rfl ?_
  refine z_cVI (as := []) (rest := []) hx dJ0_charAt_5068e_1 lk_J0_492 wm_J0_isLatin1_aae02 wv_J0_isLatin1_aae02 (rcv_str hi hx) mo_J0_isLatin1_aae02 (kS_isLatin1 g hi) (by decide) rfl rfl (Nat.le_of_ble_eq_true rfl) ?_
  refine z_if_eq (tgt := 16) hx dJ0_charAt_5068e_4 (by decide) (by decide) (fun q => absurd q (by decide)) (fun _ => ?_)
  refine z_aload_n hx dJ0_charAt_5068e_7 rfl 0 rfl ?_
  refine z_sval hi hx dJ0_charAt_5068e_8 rfl ?_
  refine z_iload_n hx dJ0_charAt_5068e_11 rfl 1 rfl ?_
  refine z_cSI (as := [.ref (gV g i), .int (iI j)]) (rest := []) hx dJ0_charAt_5068e_12 lk_J0_495 wt_J1_charAt_3b067 mo_J1_charAt_3b067 (kJ1_charAt g hi hj) (by decide) rfl rfl (Nat.le_of_ble_eq_true rfl) ?_
  refine z_iret hx hr dJ0_charAt_5068e_15 rfl (nar_c (by omega)) (q_i rfl)
