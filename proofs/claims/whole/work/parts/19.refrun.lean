/-! the reference's run -/
theorem bsd_rg {c w : Int} (hc : 0 ≤ c ∧ c < 24) (h : bsd c w ≠ -1) : 0 ≤ bsd c w ∧ bsd c w < 24 := by
  revert h
  unfold bsd
  (repeat' split) <;> intro h <;> omega
theorem inv_cho {f : Int → Int} (h : inv f) {p w : Int} (hp : 0 ≤ p ∧ p < f 37) (h0 : f (17 + p) = 0) (hv : vld f p w) : inv (cho f p w) ∧ cfx f (cho f p w) := by
  have hn := h.n
  have gr := gol_rg (f := f) (p := p) (n := f 26) hn.1.1
  have ge : goal f p = itI (f 26) (golG f p) (-1) := rfl
  rw [← ge] at gr
  unfold cho
  split
  · split
    · next c => exact ⟨inv_st h hp (by omega) (fun _ _ => ⟨by omega, c.2.symm⟩), cfx_fup (by omega)⟩
    · exact ⟨h, cfx.rf⟩
  · exact ⟨inv_ce h (by omega) (bsd_rg (h.p p (by omega)).1 hv) (Or.inl h0), cfx_fup (by omega)⟩
theorem itI_dead {α : Type} {G : Int → Int × α → Int × α} (hG : ∀ q (r : Int × α), r.1 = 0 → G q r = r) {r0 : Int × α} {T : α} {n m : Int} (hn : 0 ≤ n) (hm : n ≤ m) (h : itI n G r0 = (0, T)) : itI m G r0 = (0, T) := by
  obtain ⟨d, hd⟩ := Int.eq_ofNat_of_zero_le (a := m - n) (by omega)
  have key : ∀ e : Nat, itI (n + (e : Int)) G r0 = (0, T) := by
    intro e
    induction e with
    | zero => rw [show n + ((0 : Nat) : Int) = n by omega]; exact h
    | succ e ih => rw [show n + ((e + 1 : Nat) : Int) = (n + (e : Int)) + 1 by omega, itI_s _ _ (by omega), ih]; exact hG _ _ rfl
  rw [show m = n + (d : Int) by omega]
  exact key d
def gobG (p w : Int) : Int → Int × (Int → Int) → Int × (Int → Int) := fun q r => if r.1 = 0 then r else if q = p then (if r.2 (17 + p) = 0 ∧ vld r.2 p w then (1, cho r.2 p w) else (0, r.2)) else (1, goeG q r.2)
def gobL (T : Int → Int) (p w : Int) : Int × (Int → Int) := itI (T 37) (gobG p w) (1, T)
def gob (T : Int → Int) (p w : Int) : Int × (Int → Int) := if (gobL T p w).1 = 0 then gobL T p w else (1, endH (gobL T p w).2)
theorem gobG_d (p w q : Int) (r : Int × (Int → Int)) (h : r.1 = 0) : gobG p w q r = r := if_pos h
theorem inv_gobL {T : Int → Int} (h : inv T) {p : Int} (hp : 0 ≤ p ∧ p < T 37) (w : Int) : (inv (gobL T p w).2 ∧ cfx T (gobL T p w).2) ∧ ((gobL T p w).1 = 0 ∨ (gobL T p w).1 = 1) := by
  refine itI_ind (fun _ (r : Int × (Int → Int)) => (inv r.2 ∧ cfx T r.2) ∧ (r.1 = 0 ∨ r.1 = 1)) _ _ h.n.2.1.1 ⟨⟨h, cfx.rf⟩, Or.inr rfl⟩ (fun q r h1 h2 h3 => ?_)
  have e37 := h3.1.2 37 (by decide)
  unfold gobG
  split
  · exact h3
  · split
    · split
      · next c =>
        have := inv_cho h3.1.1 (p := p) (w := w) (by omega) c.1 c.2
        exact ⟨⟨this.1, h3.1.2.tr this.2⟩, Or.inr rfl⟩
      · exact ⟨h3.1, Or.inl rfl⟩
    · have := inv_goeG h3.1.1 (p := q) (by omega)
      exact ⟨⟨this.1, h3.1.2.tr this.2⟩, Or.inr rfl⟩
theorem inv_gob {T : Int → Int} (h : inv T) {p : Int} (hp : 0 ≤ p ∧ p < T 37) (w : Int) : (inv (gob T p w).2 ∧ cfx T (gob T p w).2) ∧ ((gob T p w).1 = 0 ∨ (gob T p w).1 = 1) := by
  have e := inv_gobL h hp w
  unfold gob
  split
  · exact e
  · have := inv_endH e.1.1
    exact ⟨⟨this.1, e.1.2.tr this.2⟩, Or.inr rfl⟩
def iubG (p : Int) (C : Int → Int) : Int → Int × (Int → Int) → Int × (Int → Int) := fun j r => if r.1 = 0 then r else gob r.2 p (C j)
theorem iubG_d (p : Int) (C : Int → Int) (q : Int) (r : Int × (Int → Int)) (h : r.1 = 0) : iubG p C q r = r := if_pos h
def iub (f : Int → Int) (p n : Int) (C T : Int → Int) : Int × (Int → Int) := itI n (iubG p C) (1, cpn f T)
abbrev iuP (f : Int → Int) (p n : Int) (C T : Int → Int) : Prop := (iub f p n C T).1 = 1 ∧ 1 ≤ (iub f p n C T).2 (17 + p) ∧ (iub f p n C T).2 (17 + p) ≤ 5
theorem inv_iub {f : Int → Int} (h : inv f) {T : Int → Int} (hT : outR T) {p n : Int} {C : Int → Int} (hp : 0 ≤ p ∧ p < f 37) (hn : 0 ≤ n) : inv (iub f p n C T).2 ∧ cfx (cpn f T) (iub f p n C T).2 := by
  have e37 : cpn f T 37 = f 37 := cpn_in (by decide)
  refine itI_ind (fun _ (r : Int × (Int → Int)) => inv r.2 ∧ cfx (cpn f T) r.2) _ _ hn ⟨inv_cpn h hT, cfx.rf⟩ (fun q r h1 h2 h3 => ?_)
  have e := h3.2 37 (by decide)
  unfold iubG
  split
  · exact h3
  · have := (inv_gob h3.1 (p := p) (by omega) (C q)).1
    exact ⟨this.1, h3.2.tr this.2⟩
def p5 (i : Int) : Int := if i ≤ 0 then 1 else if i = 1 then 5 else if i = 2 then 25 else if i = 3 then 125 else 625
def chF (n c : Int) (C : Int → Int) : Int → Int := fun j => if 0 ≤ j ∧ j < n then c / p5 (n - 1 - j) % 5 else C j
def rnI (f : Int → Int) (p n : Int) : Nat → Int → (Int → Int) → (Int → Int) → Int × (Int → Int) × (Int → Int)
  | 0, _, T, C => (-1, T, C)
  | m + 1, c, T, C => if iuP f p n (chF n c C) T then (c, (iub f p n (chF n c C) T).2, chF n c C) else rnI f p n m (c + 1) (iub f p n (chF n c C) T).2 (chF n c C)
def rnO (f : Int → Int) (p : Int) : Nat → Int → (Int → Int) → (Int → Int) → Int × Int × (Int → Int) × (Int → Int)
  | 0, _, T, C => (-1, -1, T, C)
  | m + 1, n, T, C => if (rnI f p n (p5 n).toNat 0 T C).1 = -1 then rnO f p m (n + 1) (rnI f p n (p5 n).toNat 0 T C).2.1 (rnI f p n (p5 n).toNat 0 T C).2.2 else (n, rnI f p n (p5 n).toNat 0 T C)
def rnR (S : Nat → Int → Int) (p : Int) : Int × Int × (Int → Int) × (Int → Int) := rnO (S 1) p 4 1 (S 2) (S 8)
def runV (S : Nat → Int → Int) (p k : Int) : Int := if (rnR S p).1 = -1 then -1 else if k = -1 then (rnR S p).1 else if k < (rnR S p).1 then (rnR S p).2.2.2 k else -5
def runA (S : Nat → Int → Int) (p k : Int) : Int × (Nat → Int → Int) := if 0 ≤ p ∧ p ≤ S 1 37 - 1 then if k < -1 then (-10, bdS S) else if S 1 (17 + p) = 0 then (runV S p k, sst (sst S 2 (rnR S p).2.2.1) 8 (rnR S p).2.2.2) else (-3, noS S) else (-10, bdS S)
theorem rnI_y {f : Int → Int} {p n c : Int} {T C : Int → Int} (hc : c < p5 n) (h : iuP f p n (chF n c C) T) : rnI f p n (p5 n - c).toNat c T C = (c, (iub f p n (chF n c C) T).2, chF n c C) := by
  rw [show (p5 n - c).toNat = (p5 n - (c + 1)).toNat + 1 by omega]
  exact if_pos h
theorem rnI_n {f : Int → Int} {p n c : Int} {T C : Int → Int} (hc : c < p5 n) (h : ¬ iuP f p n (chF n c C) T) : rnI f p n (p5 n - c).toNat c T C = rnI f p n (p5 n - (c + 1)).toNat (c + 1) (iub f p n (chF n c C) T).2 (chF n c C) := by
  rw [show (p5 n - c).toNat = (p5 n - (c + 1)).toNat + 1 by omega]
  exact if_neg h
theorem rnI_e {f : Int → Int} {p n c : Int} {T C : Int → Int} (hc : p5 n ≤ c) : rnI f p n (p5 n - c).toNat c T C = (-1, T, C) := by
  rw [show (p5 n - c).toNat = 0 by omega]; rfl
theorem rnO_y {f : Int → Int} {p n c : Int} {T C T' C' : Int → Int} (hn : n ≤ 4) (hc : 0 ≤ c) (h : rnI f p n (p5 n).toNat 0 T C = (c, T', C')) : rnO f p (5 - n).toNat n T C = (n, c, T', C') := by
  rw [show (5 - n).toNat = (4 - n).toNat + 1 by omega]
  show (if (rnI f p n (p5 n).toNat 0 T C).1 = -1 then _ else (n, rnI f p n (p5 n).toNat 0 T C)) = _
  rw [h, if_neg (show ¬ c = -1 by omega)]
theorem rnO_n {f : Int → Int} {p n : Int} {T C T' C' : Int → Int} (hn : n ≤ 4) (h : rnI f p n (p5 n).toNat 0 T C = (-1, T', C')) : rnO f p (5 - n).toNat n T C = rnO f p (5 - (n + 1)).toNat (n + 1) T' C' := by
  rw [show (5 - n).toNat = (5 - (n + 1)).toNat + 1 by omega]
  show (if (rnI f p n (p5 n).toNat 0 T C).1 = -1 then rnO f p _ (n + 1) (rnI f p n (p5 n).toNat 0 T C).2.1 (rnI f p n (p5 n).toNat 0 T C).2.2 else _) = _
  rw [h, if_pos rfl]
theorem rnO_e {f : Int → Int} {p n : Int} {T C : Int → Int} (hn : 5 ≤ n) : rnO f p (5 - n).toNat n T C = (-1, -1, T, C) := by
  rw [show (5 - n).toNat = 0 by omega]; rfl
theorem p5_s {i : Int} (h : 0 ≤ i ∧ i < 4) : p5 (i + 1) = 5 * p5 i := by
  have : i = 0 ∨ i = 1 ∨ i = 2 ∨ i = 3 := by omega
  rcases this with rfl | rfl | rfl | rfl <;> decide
theorem p5_rg (i : Int) : 1 ≤ p5 i ∧ p5 i ≤ 625 := by unfold p5; (repeat' split) <;> omega
theorem p5_dv {c i : Int} (h : 0 ≤ i ∧ i < 4) : c / p5 i / 5 = c / p5 (i + 1) := by
  have : i = 0 ∨ i = 1 ∨ i = 2 ∨ i = 3 := by omega
  rcases this with rfl | rfl | rfl | rfl
  · rw [show p5 0 = 1 from rfl, show p5 (0 + 1) = 5 from rfl]; omega
  · rw [show p5 1 = 5 from rfl, show p5 (1 + 1) = 25 from rfl]; omega
  · rw [show p5 2 = 25 from rfl, show p5 (2 + 1) = 125 from rfl]; omega
  · rw [show p5 3 = 125 from rfl, show p5 (3 + 1) = 625 from rfl]; omega
theorem chF_in {n c j : Int} {C : Int → Int} (h : 0 ≤ j ∧ j < n) : 0 ≤ chF n c C j ∧ chF n c C j ≤ 4 := by
  unfold chF
  rw [if_pos h]
  omega

set_option maxHeartbeats 4000000 in
set_option maxRecDepth 20000 in
theorem kX9_goesBy (g : Gt) {h : AH} {b : Nat} {S : Nat → Int → Int} {p : Int} {w : Int} (hM : RM h b S) (hI2 : inv (S 2)) (hp : 0 ≤ p ∧ p < S 2 37) (hw : 0 ≤ w ∧ w ≤ 4) : CnJ g mX9_goesBy 5 [.ref b, .int (iI p), .int (iI w)] h ((gob (S 2) p w).1) (QM h b (sst S 2 ((gob (S 2) p w).2))) := by
  refine Cn.mk (by decide +kernel) (Nat.le_of_ble_eq_true rfl) ?_
  intro x sz hx hr
  show Zj g x (sz, 0, 0) h 0 [(0, .ref b), (1, .int (iI p)), (2, .int (iI w))] []
  obtain ⟨m0, m1, m2, m3, m4, m5, m6, m7, m8⟩ := hM
  have hn2 := hI2.n
  refine z_iconst hx dX9_goesBy_0 ?_
  refine z_istore_n hx dX9_goesBy_1 rfl (by decide) [1, 2, 3, 0] (lv' := [(0, .ref b), (1, .int (iI p)), (2, .int (iI w)), (3, .int (iI 0))]) rfl ?_
  have hL_1 : ∀ (mm : Nat) (v3 : Int) (g1 : Int → Int) (h_2 : AH), (0 ≤ v3 ∧ v3 ≤ S 2 37) → (itI v3 (gobG p w) (1, S 2) = (1, g1)) → (inv g1 ∧ cfx (S 2) g1) → (h_2 b = some (.inr (.inr (7, [.ref (b + 1), .ref (b + 2), .ref (b + 3), .ref (b + 4), .ref (b + 5), .ref (b + 6), .long (lI (S 0 6)), .long (lI (S 0 7)), .int (iI (S 0 8)), .ref (b + 7), .int (iI (S 0 10)), .int (iI (S 0 11)), .int (iI (S 0 12)), .int (iI (S 0 13)), .long (lI (S 0 14)), .int (iI (S 0 15)), .ref (b + 8)])))) → (h_2 (b + 1) = some (.inl (0, 267, S 1))) → (h_2 (b + 2) = some (.inl (0, 267, g1))) → (h_2 (b + 3) = some (.inl (0, 267, S 3))) → (h_2 (b + 4) = some (.inl (0, 534, S 4))) → (h_2 (b + 5) = some (.inl (2, 2, S 5))) → (h_2 (b + 6) = some (.inl (0, 3, S 6))) → (h_2 (b + 7) = some (.inl (0, 150, S 7))) → (h_2 (b + 8) = some (.inl (0, 4, S 8))) → (Fr h h_2 b 9) → S 2 37 - v3 < (mm : Int) → Zj g x (sz, 0, 0) h_2 2 [(0, .ref b), (1, .int (iI p)), (2, .int (iI w)), (3, .int (iI v3))] [] := by
    intro mm
    induction mm with
    | zero => intro v3 g1 h_2 kv eg ig hk_4 hk_5 hg_3 hk_6 hk_7 hk_8 hk_9 hk_10 hk_11 fr_12 hm; exfalso; omega
    | succ mm ih =>
      intro v3 g1 h_2 kv eg ig hk_4 hk_5 hg_3 hk_6 hk_7 hk_8 hk_9 hk_10 hk_11 fr_12 hm
      have ih_13 := ih; clear ih
      have c37 := ig.2 37 (by decide)
      refine z_iload_n hx dX9_goesBy_2 rfl 3 rfl ?_
      refine z_aload_n hx dX9_goesBy_3 rfl 0 rfl ?_
      refine z_get hx dX9_goesBy_4 fl_X9_13 hk_4 rfl ?_
      refine z_bipush hx dX9_goesBy_7 (by decide) ?_
      refine z_iald hx dX9_goesBy_9 hg_3 (by decide) (by decide) ?_
      have rg_14 := ig.1.rg (37) (by decide)
      refine z_icmp_ge (tgt := 75) hx dX9_goesBy_10 (by decide) (by omega) (by omega) (fun c_15 => ?_) (fun c_15 => ?_)
      ·
        refine z_aload_n hx dX9_goesBy_75 rfl 0 rfl ?_
        refine z_get hx dX9_goesBy_76 fl_X9_13 hk_4 rfl ?_
        refine z_cSV (as := [.ref (b + 2)]) (rest := []) hx dX9_goesBy_79 lk_X9_181 wt_X9_endHour mo_X9_endHour (kX9_endHour g  hg_3 ig.1 ) (by decide) rfl rfl (Nat.le_of_ble_eq_true rfl) (fun h_16 q_17 => ?_)
        obtain ⟨hs_18, hf_19⟩ := q_17
        obtain ⟨f_20, ef_20⟩ : ∃ F : Int → Int, F = endH g1 := ⟨_, rfl⟩
        rw [← ef_20] at hs_18
        have iv_21 := inv_endH ig.1
        rw [← ef_20] at iv_21
        have h_22 := hf_19.at (by omega) hk_4
        have h_23 := hf_19.at (by omega) hk_5
        have h_24 := hf_19.at (by omega) hk_6
        have h_25 := hf_19.at (by omega) hk_7
        have h_26 := hf_19.at (by omega) hk_8
        have h_27 := hf_19.at (by omega) hk_9
        have h_28 := hf_19.at (by omega) hk_10
        have h_29 := hf_19.at (by omega) hk_11
        have fr_30 := fr_12.tr (hf_19.wd (by omega) (by omega))
        have eR : gob (S 2) p w = (1, f_20) := by unfold gob gobL; rw [show itI (S 2 37) (gobG p w) (1, S 2) = (1, g1) by rw [← eg, show v3 = S 2 37 by omega], ef_20]; exact if_neg (show ¬ (1 : Int) = 0 by decide)
        refine z_iconst hx dX9_goesBy_82 ?_
        refine z_iret hx hr dX9_goesBy_83 rfl rfl (q_j (by rw [eR]) (by rw [eR]; first | exact ⟨⟨h_22, h_23, hs_18, h_24, h_25, h_26, h_27, h_28, h_29⟩, fr_30⟩ | (exfalso; omega)))
      ·
        have hp3 := ig.1.p v3 (by omega)
        have hpp := ig.1.p p (by omega)
        refine z_aload_n hx dX9_goesBy_13 rfl 0 rfl ?_
        refine z_get hx dX9_goesBy_14 fl_X9_13 hk_4 rfl ?_
        refine z_bipush hx dX9_goesBy_17 (by decide) ?_
        refine z_iload_n hx dX9_goesBy_19 rfl 3 rfl ?_
        refine z_iadd hx dX9_goesBy_20 ?_
        refine z_iald hx dX9_goesBy_21 hg_3 (by omega) (by decide) ?_
        have rg_31 := ig.1.rg ((17 + v3)) (by omega)
        refine z_if_ne (tgt := 38) hx dX9_goesBy_22 (by decide) (by omega) (fun c_32 => ?_) (fun c_32 => ?_)
        ·
          refine z_iload_n hx dX9_goesBy_38 rfl 3 rfl ?_
          refine z_iload_n hx dX9_goesBy_39 rfl 1 rfl ?_
          refine z_icmp_ne (tgt := 69) hx dX9_goesBy_40 (by decide) (by omega) (by omega) (fun c_33 => ?_) (fun c_33 => ?_)
          ·
            refine z_iinc hx dX9_goesBy_69 (by decide) 3 rfl [1, 2, 3, 0] (lv' := [(0, .ref b), (1, .int (iI p)), (2, .int (iI w)), (3, .int (iI (v3 + 1)))]) rfl ?_
            refine z_goto (tgt := 2) hx dX9_goesBy_72 (by decide) ?_
            have ec : gobG p w v3 (1, g1) = (1, g1) := by unfold gobG; dsimp only; rw [if_neg (by decide)]; first | (rw [if_pos (by omega), if_pos ⟨by omega, by assumption⟩]; done) | (rw [if_neg (by omega)]; unfold goeG; first | (rw [if_neg (by omega)]; done) | (rw [if_pos (by omega)]; done) | (exfalso; omega))
            have igG : inv g1 ∧ cfx g1 g1 := by first | exact ⟨ig.1, cfx.rf⟩ | exact inv_cho ig.1 (by omega) (by omega) (by assumption) | (exfalso; omega)
            exact ih_13 _ g1 _ (by omega) (by rw [itI_s _ _ (by omega), eg]; exact ec) (by exact ⟨igG.1, ig.2.tr igG.2⟩) hk_4 hk_5 hg_3 hk_6 hk_7 hk_8 hk_9 hk_10 hk_11 fr_12 (by omega)
          ·
            refine z_aload_n hx dX9_goesBy_43 rfl 0 rfl ?_
            refine z_get hx dX9_goesBy_44 fl_X9_13 hk_4 rfl ?_
            refine z_bipush hx dX9_goesBy_47 (by decide) ?_
            refine z_iload_n hx dX9_goesBy_49 rfl 1 rfl ?_
            refine z_iadd hx dX9_goesBy_50 ?_
            refine z_iald hx dX9_goesBy_51 hg_3 (by omega) (by decide) ?_
            have rg_34 := ig.1.rg ((17 + p)) (by omega)
            refine z_if_ne (tgt := 67) hx dX9_goesBy_52 (by decide) (by omega) (fun c_35 => ?_) (fun c_35 => ?_)
            ·
              have eD : itI (v3 + 1) (gobG p w) (1, S 2) = (0, g1) := by rw [itI_s _ _ (by omega), eg]; unfold gobG; dsimp only; rw [if_neg (by decide), if_pos (by omega), if_neg (by rintro ⟨q1, q2⟩; first | omega | contradiction)]
              have eR : gob (S 2) p w = (0, g1) := by unfold gob gobL; rw [itI_dead (gobG_d p w) (by omega) (by omega) eD]; exact if_pos rfl
              refine z_iconst hx dX9_goesBy_67 ?_
              refine z_iret hx hr dX9_goesBy_68 rfl rfl (q_j (by rw [eR]) (by rw [eR]; first | exact ⟨⟨hk_4, hk_5, hg_3, hk_6, hk_7, hk_8, hk_9, hk_10, hk_11⟩, fr_12⟩ | (exfalso; omega)))
            ·
              refine z_aload_n hx dX9_goesBy_55 rfl 0 rfl ?_
              refine z_get hx dX9_goesBy_56 fl_X9_13 hk_4 rfl ?_
              refine z_iload_n hx dX9_goesBy_59 rfl 1 rfl ?_
              refine z_iload_n hx dX9_goesBy_60 rfl 2 rfl ?_
              refine z_cSJ (as := [.ref (b + 2), .int (iI p), .int (iI w)]) (rest := []) hx dX9_goesBy_61 lk_X9_221 wt_X9_chooses mo_X9_chooses (kX9_chooses g (p := p) (w := w) hg_3 ig.1 (by omega) (by omega)) (by decide) rfl rfl (Nat.le_of_ble_eq_true rfl) (fun h_36 q_37 => ?_)
              obtain ⟨hs_38, hf_39⟩ := q_37
              obtain ⟨f_40, ef_40⟩ : ∃ F : Int → Int, F = if vld g1 p w then cho g1 p w else g1 := ⟨_, rfl⟩
              rw [← ef_40] at hs_38
              have h_41 := hf_39.at (by omega) hk_4
              have h_42 := hf_39.at (by omega) hk_5
              have h_43 := hf_39.at (by omega) hk_6
              have h_44 := hf_39.at (by omega) hk_7
              have h_45 := hf_39.at (by omega) hk_8
              have h_46 := hf_39.at (by omega) hk_9
              have h_47 := hf_39.at (by omega) hk_10
              have h_48 := hf_39.at (by omega) hk_11
              have fr_49 := fr_12.tr (hf_39.wd (by omega) (by omega))
              refine z_ifne_b (tgt := 69) hx dX9_goesBy_64 (by decide)  (fun c_50 => ?_) (fun c_50 => ?_)
              ·
                have e_51 : f_40 = cho g1 p w := by first | (rw [ef_40]; exact if_pos (by assumption)) | (exfalso; omega)
                rw [e_51] at hs_38
                refine z_iinc hx dX9_goesBy_69 (by decide) 3 rfl [1, 2, 3, 0] (lv' := [(0, .ref b), (1, .int (iI p)), (2, .int (iI w)), (3, .int (iI (v3 + 1)))]) rfl ?_
                refine z_goto (tgt := 2) hx dX9_goesBy_72 (by decide) ?_
                have ec : gobG p w v3 (1, g1) = (1, (cho g1 p w)) := by unfold gobG; dsimp only; rw [if_neg (by decide)]; first | (rw [if_pos (by omega), if_pos ⟨by omega, by assumption⟩]; done) | (rw [if_neg (by omega)]; unfold goeG; first | (rw [if_neg (by omega)]; done) | (rw [if_pos (by omega)]; done) | (exfalso; omega))
                have igG : inv (cho g1 p w) ∧ cfx g1 (cho g1 p w) := by first | exact ⟨ig.1, cfx.rf⟩ | exact inv_cho ig.1 (by omega) (by omega) (by assumption) | (exfalso; omega)
                exact ih_13 _ (cho g1 p w) _ (by omega) (by rw [itI_s _ _ (by omega), eg]; exact ec) (by exact ⟨igG.1, ig.2.tr igG.2⟩) h_41 h_42 hs_38 h_43 h_44 h_45 h_46 h_47 h_48 fr_49 (by omega)
              ·
                have e_52 : f_40 = g1 := by first | (rw [ef_40]; exact if_neg (by assumption)) | (exfalso; omega)
                rw [e_52] at hs_38
                have eD : itI (v3 + 1) (gobG p w) (1, S 2) = (0, g1) := by rw [itI_s _ _ (by omega), eg]; unfold gobG; dsimp only; rw [if_neg (by decide), if_pos (by omega), if_neg (by rintro ⟨q1, q2⟩; first | omega | contradiction)]
                have eR : gob (S 2) p w = (0, g1) := by unfold gob gobL; rw [itI_dead (gobG_d p w) (by omega) (by omega) eD]; exact if_pos rfl
                refine z_iconst hx dX9_goesBy_67 ?_
                refine z_iret hx hr dX9_goesBy_68 rfl rfl (q_j (by rw [eR]) (by rw [eR]; first | exact ⟨⟨h_41, h_42, hs_38, h_43, h_44, h_45, h_46, h_47, h_48⟩, fr_49⟩ | (exfalso; omega)))
        ·
          refine z_iload_n hx dX9_goesBy_25 rfl 3 rfl ?_
          refine z_iload_n hx dX9_goesBy_26 rfl 1 rfl ?_
          refine z_icmp_eq (tgt := 38) hx dX9_goesBy_27 (by decide) (by omega) (by omega) (fun c_53 => ?_) (fun c_53 => ?_)
          ·
            refine z_iload_n hx dX9_goesBy_38 rfl 3 rfl ?_
            refine z_iload_n hx dX9_goesBy_39 rfl 1 rfl ?_
            refine z_icmp_ne (tgt := 69) hx dX9_goesBy_40 (by decide) (by omega) (by omega) (fun c_54 => ?_) (fun c_54 => ?_)
            ·
              refine z_iinc hx dX9_goesBy_69 (by decide) 3 rfl [1, 2, 3, 0] (lv' := [(0, .ref b), (1, .int (iI p)), (2, .int (iI w)), (3, .int (iI (v3 + 1)))]) rfl ?_
              refine z_goto (tgt := 2) hx dX9_goesBy_72 (by decide) ?_
              have ec : gobG p w v3 (1, g1) = (1, g1) := by unfold gobG; dsimp only; rw [if_neg (by decide)]; first | (rw [if_pos (by omega), if_pos ⟨by omega, by assumption⟩]; done) | (rw [if_neg (by omega)]; unfold goeG; first | (rw [if_neg (by omega)]; done) | (rw [if_pos (by omega)]; done) | (exfalso; omega))
              have igG : inv g1 ∧ cfx g1 g1 := by first | exact ⟨ig.1, cfx.rf⟩ | exact inv_cho ig.1 (by omega) (by omega) (by assumption) | (exfalso; omega)
              exact ih_13 _ g1 _ (by omega) (by rw [itI_s _ _ (by omega), eg]; exact ec) (by exact ⟨igG.1, ig.2.tr igG.2⟩) hk_4 hk_5 hg_3 hk_6 hk_7 hk_8 hk_9 hk_10 hk_11 fr_12 (by omega)
            ·
              refine z_aload_n hx dX9_goesBy_43 rfl 0 rfl ?_
              refine z_get hx dX9_goesBy_44 fl_X9_13 hk_4 rfl ?_
              refine z_bipush hx dX9_goesBy_47 (by decide) ?_
              refine z_iload_n hx dX9_goesBy_49 rfl 1 rfl ?_
              refine z_iadd hx dX9_goesBy_50 ?_
              refine z_iald hx dX9_goesBy_51 hg_3 (by omega) (by decide) ?_
              have rg_55 := ig.1.rg ((17 + p)) (by omega)
              refine z_if_ne (tgt := 67) hx dX9_goesBy_52 (by decide) (by omega) (fun c_56 => ?_) (fun c_56 => ?_)
              ·
                have eD : itI (v3 + 1) (gobG p w) (1, S 2) = (0, g1) := by rw [itI_s _ _ (by omega), eg]; unfold gobG; dsimp only; rw [if_neg (by decide), if_pos (by omega), if_neg (by rintro ⟨q1, q2⟩; first | omega | contradiction)]
                have eR : gob (S 2) p w = (0, g1) := by unfold gob gobL; rw [itI_dead (gobG_d p w) (by omega) (by omega) eD]; exact if_pos rfl
                refine z_iconst hx dX9_goesBy_67 ?_
                refine z_iret hx hr dX9_goesBy_68 rfl rfl (q_j (by rw [eR]) (by rw [eR]; first | exact ⟨⟨hk_4, hk_5, hg_3, hk_6, hk_7, hk_8, hk_9, hk_10, hk_11⟩, fr_12⟩ | (exfalso; omega)))
              ·
                refine z_aload_n hx dX9_goesBy_55 rfl 0 rfl ?_
                refine z_get hx dX9_goesBy_56 fl_X9_13 hk_4 rfl ?_
                refine z_iload_n hx dX9_goesBy_59 rfl 1 rfl ?_
                refine z_iload_n hx dX9_goesBy_60 rfl 2 rfl ?_
                refine z_cSJ (as := [.ref (b + 2), .int (iI p), .int (iI w)]) (rest := []) hx dX9_goesBy_61 lk_X9_221 wt_X9_chooses mo_X9_chooses (kX9_chooses g (p := p) (w := w) hg_3 ig.1 (by omega) (by omega)) (by decide) rfl rfl (Nat.le_of_ble_eq_true rfl) (fun h_57 q_58 => ?_)
                obtain ⟨hs_59, hf_60⟩ := q_58
                obtain ⟨f_61, ef_61⟩ : ∃ F : Int → Int, F = if vld g1 p w then cho g1 p w else g1 := ⟨_, rfl⟩
                rw [← ef_61] at hs_59
                have h_62 := hf_60.at (by omega) hk_4
                have h_63 := hf_60.at (by omega) hk_5
                have h_64 := hf_60.at (by omega) hk_6
                have h_65 := hf_60.at (by omega) hk_7
                have h_66 := hf_60.at (by omega) hk_8
                have h_67 := hf_60.at (by omega) hk_9
                have h_68 := hf_60.at (by omega) hk_10
                have h_69 := hf_60.at (by omega) hk_11
                have fr_70 := fr_12.tr (hf_60.wd (by omega) (by omega))
                refine z_ifne_b (tgt := 69) hx dX9_goesBy_64 (by decide)  (fun c_71 => ?_) (fun c_71 => ?_)
                ·
                  have e_72 : f_61 = cho g1 p w := by first | (rw [ef_61]; exact if_pos (by assumption)) | (exfalso; omega)
                  rw [e_72] at hs_59
                  refine z_iinc hx dX9_goesBy_69 (by decide) 3 rfl [1, 2, 3, 0] (lv' := [(0, .ref b), (1, .int (iI p)), (2, .int (iI w)), (3, .int (iI (v3 + 1)))]) rfl ?_
                  refine z_goto (tgt := 2) hx dX9_goesBy_72 (by decide) ?_
                  have ec : gobG p w v3 (1, g1) = (1, (cho g1 p w)) := by unfold gobG; dsimp only; rw [if_neg (by decide)]; first | (rw [if_pos (by omega), if_pos ⟨by omega, by assumption⟩]; done) | (rw [if_neg (by omega)]; unfold goeG; first | (rw [if_neg (by omega)]; done) | (rw [if_pos (by omega)]; done) | (exfalso; omega))
                  have igG : inv (cho g1 p w) ∧ cfx g1 (cho g1 p w) := by first | exact ⟨ig.1, cfx.rf⟩ | exact inv_cho ig.1 (by omega) (by omega) (by assumption) | (exfalso; omega)
                  exact ih_13 _ (cho g1 p w) _ (by omega) (by rw [itI_s _ _ (by omega), eg]; exact ec) (by exact ⟨igG.1, ig.2.tr igG.2⟩) h_62 h_63 hs_59 h_64 h_65 h_66 h_67 h_68 h_69 fr_70 (by omega)
                ·
                  have e_73 : f_61 = g1 := by first | (rw [ef_61]; exact if_neg (by assumption)) | (exfalso; omega)
                  rw [e_73] at hs_59
                  have eD : itI (v3 + 1) (gobG p w) (1, S 2) = (0, g1) := by rw [itI_s _ _ (by omega), eg]; unfold gobG; dsimp only; rw [if_neg (by decide), if_pos (by omega), if_neg (by rintro ⟨q1, q2⟩; first | omega | contradiction)]
                  have eR : gob (S 2) p w = (0, g1) := by unfold gob gobL; rw [itI_dead (gobG_d p w) (by omega) (by omega) eD]; exact if_pos rfl
                  refine z_iconst hx dX9_goesBy_67 ?_
                  refine z_iret hx hr dX9_goesBy_68 rfl rfl (q_j (by rw [eR]) (by rw [eR]; first | exact ⟨⟨h_62, h_63, hs_59, h_64, h_65, h_66, h_67, h_68, h_69⟩, fr_70⟩ | (exfalso; omega)))
          ·
            refine z_aload_n hx dX9_goesBy_30 rfl 0 rfl ?_
            refine z_get hx dX9_goesBy_31 fl_X9_13 hk_4 rfl ?_
            refine z_iload_n hx dX9_goesBy_34 rfl 3 rfl ?_
            refine z_cSV (as := [.ref (b + 2), .int (iI v3)]) (rest := []) hx dX9_goesBy_35 lk_X9_178 wt_X9_goes mo_X9_goes (kX9_goes g (p := v3) hg_3 ig.1 (by omega) (by omega)) (by decide) rfl rfl (Nat.le_of_ble_eq_true rfl) (fun h_74 q_75 => ?_)
            obtain ⟨hs_76, hf_77⟩ := q_75
            obtain ⟨f_78, ef_78⟩ : ∃ F : Int → Int, F = goes g1 v3 := ⟨_, rfl⟩
            rw [← ef_78] at hs_76
            have iv_79 := inv_goes ig.1 (p := v3) (by omega) (by omega)
            rw [← ef_78] at iv_79
            have h_80 := hf_77.at (by omega) hk_4
            have h_81 := hf_77.at (by omega) hk_5
            have h_82 := hf_77.at (by omega) hk_6
            have h_83 := hf_77.at (by omega) hk_7
            have h_84 := hf_77.at (by omega) hk_8
            have h_85 := hf_77.at (by omega) hk_9
            have h_86 := hf_77.at (by omega) hk_10
            have h_87 := hf_77.at (by omega) hk_11
            have fr_88 := fr_12.tr (hf_77.wd (by omega) (by omega))
            refine z_iload_n hx dX9_goesBy_38 rfl 3 rfl ?_
            refine z_iload_n hx dX9_goesBy_39 rfl 1 rfl ?_
            refine z_icmp_ne (tgt := 69) hx dX9_goesBy_40 (by decide) (by omega) (by omega) (fun c_89 => ?_) (fun c_89 => ?_)
            ·
              refine z_iinc hx dX9_goesBy_69 (by decide) 3 rfl [1, 2, 3, 0] (lv' := [(0, .ref b), (1, .int (iI p)), (2, .int (iI w)), (3, .int (iI (v3 + 1)))]) rfl ?_
              refine z_goto (tgt := 2) hx dX9_goesBy_72 (by decide) ?_
              have ec : gobG p w v3 (1, g1) = (1, f_78) := by unfold gobG; dsimp only; rw [if_neg (by decide)]; first | (rw [if_pos (by omega), if_pos ⟨by omega, by assumption⟩]; done) | (rw [if_neg (by omega)]; unfold goeG; first | (rw [if_neg (by omega)]; done) | (rw [if_pos (by omega)]; rw [ef_78]; done) | (exfalso; omega))
              have igG : inv f_78 ∧ cfx g1 f_78 := by exact ⟨iv_79.1, iv_79.2⟩
              exact ih_13 _ f_78 _ (by omega) (by rw [itI_s _ _ (by omega), eg]; exact ec) (by exact ⟨igG.1, ig.2.tr igG.2⟩) h_80 h_81 hs_76 h_82 h_83 h_84 h_85 h_86 h_87 fr_88 (by omega)
            ·
              refine z_aload_n hx dX9_goesBy_43 rfl 0 rfl ?_
              refine z_get hx dX9_goesBy_44 fl_X9_13 h_80 rfl ?_
              refine z_bipush hx dX9_goesBy_47 (by decide) ?_
              refine z_iload_n hx dX9_goesBy_49 rfl 1 rfl ?_
              refine z_iadd hx dX9_goesBy_50 ?_
              refine z_iald hx dX9_goesBy_51 hs_76 (by omega) (by decide) ?_
              have rg_90 := iv_79.1.rg ((17 + p)) (by omega)
              refine z_if_ne (tgt := 67) hx dX9_goesBy_52 (by decide) (by omega) (fun c_91 => ?_) (fun c_91 => ?_)
              ·
                have eD : itI (v3 + 1) (gobG p w) (1, S 2) = (0, g1) := by rw [itI_s _ _ (by omega), eg]; unfold gobG; dsimp only; rw [if_neg (by decide), if_pos (by omega), if_neg (by rintro ⟨q1, q2⟩; first | omega | contradiction)]
                have eR : gob (S 2) p w = (0, g1) := by unfold gob gobL; rw [itI_dead (gobG_d p w) (by omega) (by omega) eD]; exact if_pos rfl
                refine z_iconst hx dX9_goesBy_67 ?_
                refine z_iret hx hr dX9_goesBy_68 rfl rfl (q_j (by rw [eR]) (by rw [eR]; first | exact ⟨⟨h_80, h_81, hs_76, h_82, h_83, h_84, h_85, h_86, h_87⟩, fr_88⟩ | (exfalso; omega)))
              ·
                refine z_aload_n hx dX9_goesBy_55 rfl 0 rfl ?_
                refine z_get hx dX9_goesBy_56 fl_X9_13 h_80 rfl ?_
                refine z_iload_n hx dX9_goesBy_59 rfl 1 rfl ?_
                refine z_iload_n hx dX9_goesBy_60 rfl 2 rfl ?_
                refine z_cSJ (as := [.ref (b + 2), .int (iI p), .int (iI w)]) (rest := []) hx dX9_goesBy_61 lk_X9_221 wt_X9_chooses mo_X9_chooses (kX9_chooses g (p := p) (w := w) hs_76 iv_79.1 (by omega) (by omega)) (by decide) rfl rfl (Nat.le_of_ble_eq_true rfl) (fun h_92 q_93 => ?_)
                obtain ⟨hs_94, hf_95⟩ := q_93
                obtain ⟨f_96, ef_96⟩ : ∃ F : Int → Int, F = if vld f_78 p w then cho f_78 p w else f_78 := ⟨_, rfl⟩
                rw [← ef_96] at hs_94
                have h_97 := hf_95.at (by omega) h_80
                have h_98 := hf_95.at (by omega) h_81
                have h_99 := hf_95.at (by omega) h_82
                have h_100 := hf_95.at (by omega) h_83
                have h_101 := hf_95.at (by omega) h_84
                have h_102 := hf_95.at (by omega) h_85
                have h_103 := hf_95.at (by omega) h_86
                have h_104 := hf_95.at (by omega) h_87
                have fr_105 := fr_88.tr (hf_95.wd (by omega) (by omega))
                refine z_ifne_b (tgt := 69) hx dX9_goesBy_64 (by decide)  (fun c_106 => ?_) (fun c_106 => ?_)
                ·
                  have e_107 : f_96 = cho g1 p w := by first | (rw [ef_96]; exact if_pos (by assumption)) | (exfalso; omega)
                  rw [e_107] at hs_94
                  refine z_iinc hx dX9_goesBy_69 (by decide) 3 rfl [1, 2, 3, 0] (lv' := [(0, .ref b), (1, .int (iI p)), (2, .int (iI w)), (3, .int (iI (v3 + 1)))]) rfl ?_
                  refine z_goto (tgt := 2) hx dX9_goesBy_72 (by decide) ?_
                  have ec : gobG p w v3 (1, g1) = (1, (cho g1 p w)) := by unfold gobG; dsimp only; rw [if_neg (by decide)]; first | (rw [if_pos (by omega), if_pos ⟨by omega, by assumption⟩]; done) | (rw [if_neg (by omega)]; unfold goeG; first | (rw [if_neg (by omega)]; done) | (rw [if_pos (by omega)]; done) | (exfalso; omega))
                  have igG : inv (cho g1 p w) ∧ cfx g1 (cho g1 p w) := by first | exact ⟨ig.1, cfx.rf⟩ | exact inv_cho ig.1 (by omega) (by omega) (by assumption) | (exfalso; omega)
                  exact ih_13 _ (cho g1 p w) _ (by omega) (by rw [itI_s _ _ (by omega), eg]; exact ec) (by exact ⟨igG.1, ig.2.tr igG.2⟩) h_97 h_98 hs_94 h_99 h_100 h_101 h_102 h_103 h_104 fr_105 (by omega)
                ·
                  have e_108 : f_96 = g1 := by first | (rw [ef_96]; exact if_neg (by assumption)) | (exfalso; omega)
                  rw [e_108] at hs_94
                  have eD : itI (v3 + 1) (gobG p w) (1, S 2) = (0, g1) := by rw [itI_s _ _ (by omega), eg]; unfold gobG; dsimp only; rw [if_neg (by decide), if_pos (by omega), if_neg (by rintro ⟨q1, q2⟩; first | omega | contradiction)]
                  have eR : gob (S 2) p w = (0, g1) := by unfold gob gobL; rw [itI_dead (gobG_d p w) (by omega) (by omega) eD]; exact if_pos rfl
                  refine z_iconst hx dX9_goesBy_67 ?_
                  refine z_iret hx hr dX9_goesBy_68 rfl rfl (q_j (by rw [eR]) (by rw [eR]; first | exact ⟨⟨h_97, h_98, hs_94, h_99, h_100, h_101, h_102, h_103, h_104⟩, fr_105⟩ | (exfalso; omega)))
  exact hL_1 ((S 2 37 - 0) + 1 : Int).toNat _ (S 2) _ (by omega) (by rfl) (by exact ⟨hI2, cfx.rf⟩) m0 m1 m2 m3 m4 m5 m6 m7 m8 Fr.rf (by omega)

set_option maxHeartbeats 4000000 in
set_option maxRecDepth 20000 in
theorem kX9_isUnderBy (g : Gt) {h : AH} {b : Nat} {S : Nat → Int → Int} {p : Int} {n : Int} (hM : RM h b S) (hI : inv (S 1)) (hTo : outR (S 2)) (hp : 0 ≤ p ∧ p < S 1 37) (hnn : 0 ≤ n ∧ n ≤ 4) (hC : ∀ j, 0 ≤ j → j < n → 0 ≤ S 8 j ∧ S 8 j ≤ 4) : CnJ g mX9_isUnderBy 6 [.ref b, .int (iI p), .int (iI n)] h (b2i (iuP (S 1) p n (S 8) (S 2))) (QM h b (sst S 2 ((iub (S 1) p n (S 8) (S 2)).2))) := by
  refine Cn.mk (by decide +kernel) (Nat.le_of_ble_eq_true rfl) ?_
  intro x sz hx hr
  show Zj g x (sz, 0, 0) h 0 [(0, .ref b), (1, .int (iI p)), (2, .int (iI n))] []
  obtain ⟨m0, m1, m2, m3, m4, m5, m6, m7, m8⟩ := hM
  have hn := hI.n
  refine z_aload_n hx dX9_isUnderBy_0 rfl 0 rfl ?_
  refine z_cVV (as := []) (rest := []) hx dX9_isUnderBy_1 lk_X9_211 wm_X9_copyNow wv_X9_copyNow (rcv_obj hx m0 rfl) mo_X9_copyNow (kX9_copyNow g (S := S)  ⟨m0, m1, m2, m3, m4, m5, m6, m7, m8⟩ ) (by decide) rfl rfl (Nat.le_of_ble_eq_true rfl) (fun h_1 q_2 => ?_)
  obtain ⟨⟨p_3, p_4, p_5, p_6, p_7, p_8, p_9, p_10, p_11⟩, hf_12⟩ := q_2
  have m_13 : h_1 b = some (.inr (.inr (7, [.ref (b + 1), .ref (b + 2), .ref (b + 3), .ref (b + 4), .ref (b + 5), .ref (b + 6), .long (lI (S 0 6)), .long (lI (S 0 7)), .int (iI (S 0 8)), .ref (b + 7), .int (iI (S 0 10)), .int (iI (S 0 11)), .int (iI (S 0 12)), .int (iI (S 0 13)), .long (lI (S 0 14)), .int (iI (S 0 15)), .ref (b + 8)]))) := p_3
  have m_14 : h_1 (b + 1) = some (.inl (0, 267, S 1)) := p_4
  have m_15 : h_1 (b + 2) = some (.inl (0, 267, cpn ((S 1)) ((S 2)))) := p_5
  have m_16 : h_1 (b + 3) = some (.inl (0, 267, S 3)) := p_6
  have m_17 : h_1 (b + 4) = some (.inl (0, 534, S 4)) := p_7
  have m_18 : h_1 (b + 5) = some (.inl (2, 2, S 5)) := p_8
  have m_19 : h_1 (b + 6) = some (.inl (0, 3, S 6)) := p_9
  have m_20 : h_1 (b + 7) = some (.inl (0, 150, S 7)) := p_10
  have m_21 : h_1 (b + 8) = some (.inl (0, 4, S 8)) := p_11
  obtain ⟨f_22, ef_22⟩ : ∃ F : Int → Int, F = cpn ((S 1)) ((S 2)) := ⟨_, rfl⟩
  rw [← ef_22] at m_15
  have fr_23 : Fr h h_1 b 9 := hf_12.wd (by omega) (by omega)
  have icp : inv f_22 := by rw [ef_22]; exact inv_cpn hI hTo
  have c37 : f_22 37 = S 1 37 := by rw [ef_22]; exact cpn_in (by decide)
  have ecp : f_22 = cpn (S 1) (S 2) := ef_22
  refine z_iconst hx dX9_isUnderBy_4 ?_
  refine z_istore_n hx dX9_isUnderBy_5 rfl (by decide) [1, 2, 3, 0] (lv' := [(0, .ref b), (1, .int (iI p)), (2, .int (iI n)), (3, .int (iI 0))]) rfl ?_
  have hL_24 : ∀ (mm : Nat) (v3 : Int) (g1 : Int → Int) (h_25 : AH), (0 ≤ v3 ∧ v3 ≤ n) → (itI v3 (iubG p (S 8)) (1, cpn (S 1) (S 2)) = (1, g1)) → (inv g1 ∧ cfx (cpn (S 1) (S 2)) g1) → (h_25 b = some (.inr (.inr (7, [.ref (b + 1), .ref (b + 2), .ref (b + 3), .ref (b + 4), .ref (b + 5), .ref (b + 6), .long (lI (S 0 6)), .long (lI (S 0 7)), .int (iI (S 0 8)), .ref (b + 7), .int (iI (S 0 10)), .int (iI (S 0 11)), .int (iI (S 0 12)), .int (iI (S 0 13)), .long (lI (S 0 14)), .int (iI (S 0 15)), .ref (b + 8)])))) → (h_25 (b + 1) = some (.inl (0, 267, S 1))) → (h_25 (b + 2) = some (.inl (0, 267, g1))) → (h_25 (b + 3) = some (.inl (0, 267, S 3))) → (h_25 (b + 4) = some (.inl (0, 534, S 4))) → (h_25 (b + 5) = some (.inl (2, 2, S 5))) → (h_25 (b + 6) = some (.inl (0, 3, S 6))) → (h_25 (b + 7) = some (.inl (0, 150, S 7))) → (h_25 (b + 8) = some (.inl (0, 4, S 8))) → (Fr h h_25 b 9) → n - v3 < (mm : Int) → Zj g x (sz, 0, 0) h_25 6 [(0, .ref b), (1, .int (iI p)), (2, .int (iI n)), (3, .int (iI v3))] [] := by
    intro mm
    induction mm with
    | zero => intro v3 g1 h_25 kv eg ig hk_27 hk_28 hg_26 hk_29 hk_30 hk_31 hk_32 hk_33 hk_34 fr_35 hm; exfalso; omega
    | succ mm ih =>
      intro v3 g1 h_25 kv eg ig hk_27 hk_28 hg_26 hk_29 hk_30 hk_31 hk_32 hk_33 hk_34 fr_35 hm
      have ih_36 := ih; clear ih
      have d37 := ig.2 37 (by decide)
      rw [← ecp] at d37
      have hc8 : v3 < n → 0 ≤ S 8 v3 ∧ S 8 v3 ≤ 4 := fun q => hC v3 kv.1 q
      have hpp := ig.1.p p (by omega)
      refine z_iload_n hx dX9_isUnderBy_6 rfl 3 rfl ?_
      refine z_iload_n hx dX9_isUnderBy_7 rfl 2 rfl ?_
      refine z_icmp_ge (tgt := 33) hx dX9_isUnderBy_8 (by decide) (by omega) (by omega) (fun c_37 => ?_) (fun c_37 => ?_)
      ·
        have eR : iub (S 1) p n (S 8) (S 2) = (1, g1) := by unfold iub; rw [← eg, show v3 = n by omega]
        refine z_aload_n hx dX9_isUnderBy_33 rfl 0 rfl ?_
        refine z_get hx dX9_isUnderBy_34 fl_X9_13 hk_27 rfl ?_
        refine z_bipush hx dX9_isUnderBy_37 (by decide) ?_
        refine z_iload_n hx dX9_isUnderBy_39 rfl 1 rfl ?_
        refine z_iadd hx dX9_isUnderBy_40 ?_
        refine z_iald hx dX9_isUnderBy_41 hg_26 (by omega) (by decide) ?_
        have rg_38 := ig.1.rg ((17 + p)) (by omega)
        refine z_iconst hx dX9_isUnderBy_42 ?_
        refine z_iconst hx dX9_isUnderBy_43 ?_
        refine z_cSI (as := [.int (iI (g1 (17 + p))), .int (iI 1), .int (iI 5)]) (rest := []) hx dX9_isUnderBy_44 lk_X9_43 wt_X9_in mo_X9_in (kX9_in g (a := (g1 (17 + p))) (b := 1) (c := 5) (by omega) (by omega) (by omega)) (by decide) rfl rfl (Nat.le_of_ble_eq_true rfl) ?_
        refine z_iret hx hr dX9_isUnderBy_47 rfl (nar_b (b2i_01 _)) (q_j (by unfold iuP; rw [eR]; first | (exact (if_neg (fun qq => absurd (show (0 : Int) = 1 from qq.1) (by decide))).symm) | (unfold b2i; dsimp only; by_cases qq : 1 ≤ g1 (17 + p) ∧ g1 (17 + p) ≤ 5; (rw [if_pos qq, if_pos ⟨rfl, qq⟩]); (rw [if_neg qq, if_neg (fun w => qq w.2)]))) (by rw [eR]; exact ⟨⟨hk_27, hk_28, hg_26, hk_29, hk_30, hk_31, hk_32, hk_33, hk_34⟩, fr_35⟩))
      ·
        refine z_aload_n hx dX9_isUnderBy_11 rfl 0 rfl ?_
        refine z_iload_n hx dX9_isUnderBy_12 rfl 1 rfl ?_
        refine z_aload_n hx dX9_isUnderBy_13 rfl 0 rfl ?_
        refine z_get hx dX9_isUnderBy_14 fl_X9_36 hk_27 rfl ?_
        refine z_iload_n hx dX9_isUnderBy_17 rfl 3 rfl ?_
        refine z_iald hx dX9_isUnderBy_18 hk_34 (by omega) (by decide) ?_
        refine z_cVJ (as := [.int (iI p), .int (iI (S 8 v3))]) (rest := []) hx dX9_isUnderBy_19 lk_X9_225 wm_X9_goesBy wv_X9_goesBy (rcv_obj hx hk_27 rfl) mo_X9_goesBy (kX9_goesBy g (S := (sst S 2 g1)) (p := p) (w := (S 8 v3)) ⟨hk_27, hk_28, hg_26, hk_29, hk_30, hk_31, hk_32, hk_33, hk_34⟩ (show inv (g1) by exact ig.1) (show 0 ≤ p ∧ p < g1 37 by omega) (show 0 ≤ (S 8 v3) ∧ (S 8 v3) ≤ 4 by omega)) (by decide) rfl rfl (Nat.le_of_ble_eq_true rfl) (fun h_39 q_40 => ?_)
        show Zj g x (sz, 0, 0) h_39 22 [(0, .ref b), (1, .int (iI p)), (2, .int (iI n)), (3, .int (iI v3))] [.int (iI ((gob (g1) p (S 8 v3)).1))]
        obtain ⟨⟨p_41, p_42, p_43, p_44, p_45, p_46, p_47, p_48, p_49⟩, hf_50⟩ := q_40
        have m_51 : h_39 b = some (.inr (.inr (7, [.ref (b + 1), .ref (b + 2), .ref (b + 3), .ref (b + 4), .ref (b + 5), .ref (b + 6), .long (lI (S 0 6)), .long (lI (S 0 7)), .int (iI (S 0 8)), .ref (b + 7), .int (iI (S 0 10)), .int (iI (S 0 11)), .int (iI (S 0 12)), .int (iI (S 0 13)), .long (lI (S 0 14)), .int (iI (S 0 15)), .ref (b + 8)]))) := p_41
        have m_52 : h_39 (b + 1) = some (.inl (0, 267, S 1)) := p_42
        have m_53 : h_39 (b + 2) = some (.inl (0, 267, (gob (g1) p (S 8 v3)).2)) := p_43
        have m_54 : h_39 (b + 3) = some (.inl (0, 267, S 3)) := p_44
        have m_55 : h_39 (b + 4) = some (.inl (0, 534, S 4)) := p_45
        have m_56 : h_39 (b + 5) = some (.inl (2, 2, S 5)) := p_46
        have m_57 : h_39 (b + 6) = some (.inl (0, 3, S 6)) := p_47
        have m_58 : h_39 (b + 7) = some (.inl (0, 150, S 7)) := p_48
        have m_59 : h_39 (b + 8) = some (.inl (0, 4, S 8)) := p_49
        obtain ⟨f_60, ef_60⟩ : ∃ F : Int → Int, F = (gob (g1) p (S 8 v3)).2 := ⟨_, rfl⟩
        rw [← ef_60] at m_53
        have iv_61 := (inv_gob ig.1 (p := p) (by omega) (S 8 v3)).1
        rw [← ef_60] at iv_61
        have fr_62 := fr_35.tr (hf_50.wd (by omega) (by omega))
        have f_63 := (inv_gob ig.1 (p := p) (by omega) (S 8 v3)).2
        refine z_if_ne (tgt := 27) hx dX9_isUnderBy_22 (by decide) (by omega) (fun c_64 => ?_) (fun c_64 => ?_)
        ·
          refine z_iinc hx dX9_isUnderBy_27 (by decide) 3 rfl [1, 2, 3, 0] (lv' := [(0, .ref b), (1, .int (iI p)), (2, .int (iI n)), (3, .int (iI (v3 + 1)))]) rfl ?_
          refine z_goto (tgt := 6) hx dX9_isUnderBy_30 (by decide) ?_
          have ec : iubG p (S 8) v3 (1, g1) = (1, f_60) := by unfold iubG; dsimp only; rw [if_neg (by decide)]; exact Prod.ext (by dsimp only; omega) (by dsimp only; exact ef_60.symm)
          have igG : inv f_60 ∧ cfx g1 f_60 := ⟨iv_61.1, iv_61.2⟩
          exact ih_36 _ f_60 _ (by omega) (by rw [itI_s _ _ (by omega), eg]; exact ec) (by exact ⟨igG.1, ig.2.tr igG.2⟩) m_51 m_52 m_53 m_54 m_55 m_56 m_57 m_58 m_59 fr_62 (by omega)
        ·
          have eD : itI (v3 + 1) (iubG p (S 8)) (1, cpn (S 1) (S 2)) = (0, f_60) := by rw [itI_s _ _ (by omega), eg]; unfold iubG; dsimp only; rw [if_neg (by decide)]; exact Prod.ext (by dsimp only; omega) (by dsimp only; exact ef_60.symm)
          have eR : iub (S 1) p n (S 8) (S 2) = (0, f_60) := itI_dead (iubG_d p (S 8)) (by omega) (by omega) eD
          refine z_iconst hx dX9_isUnderBy_25 ?_
          refine z_iret hx hr dX9_isUnderBy_26 rfl rfl (q_j (by unfold iuP; rw [eR]; first | (exact (if_neg (fun qq => absurd (show (0 : Int) = 1 from qq.1) (by decide))).symm) | (unfold b2i; dsimp only; by_cases qq : 1 ≤ g1 (17 + p) ∧ g1 (17 + p) ≤ 5; (rw [if_pos qq, if_pos ⟨rfl, qq⟩]); (rw [if_neg qq, if_neg (fun w => qq w.2)]))) (by rw [eR]; exact ⟨⟨m_51, m_52, m_53, m_54, m_55, m_56, m_57, m_58, m_59⟩, fr_62⟩))
  exact hL_24 ((n - 0) + 1 : Int).toNat _ f_22 _ (by omega) (by rw [ecp]; rfl) (by rw [ecp]; exact ⟨inv_cpn hI hTo, cfx.rf⟩) m_13 m_14 m_15 m_16 m_17 m_18 m_19 m_20 m_21 fr_23 (by omega)

def dgF (n c i : Int) (C : Int → Int) : Int → Int := fun j => if i < j ∧ j < n then c / p5 (n - 1 - j) % 5 else C j
theorem dgF_0 (n c : Int) (C : Int → Int) {i : Int} (h : i = n - 1) : dgF n c i C = C := by
  funext j
  exact if_neg (by omega)
theorem dgF_s {n c i : Int} {C : Int → Int} (h : i < n) : fup (dgF n c i C) i (c / p5 (n - 1 - i) % 5) = dgF n c (i + (-1)) C := by
  funext j
  unfold fup dgF
  by_cases h1 : j = i
  · rw [if_pos h1, if_pos (by omega), h1]
  · rw [if_neg h1]
    by_cases h2 : i < j ∧ j < n
    · rw [if_pos h2, if_pos (by omega)]
    · rw [if_neg h2, if_neg (by omega)]
theorem dgF_e {n c i : Int} {C : Int → Int} (h : i = -1) : dgF n c i C = chF n c C := by
  funext j
  unfold dgF chF
  by_cases h2 : 0 ≤ j ∧ j < n
  · rw [if_pos h2, if_pos (by omega)]
  · rw [if_neg h2, if_neg (by omega)]
theorem dv_rg {c : Int} (i : Int) (h : 0 ≤ c) : 0 ≤ c / p5 i ∧ c / p5 i ≤ c := by
  have := p5_rg i
  exact ⟨Int.ediv_nonneg h (by omega), Int.ediv_le_self _ h⟩

set_option maxHeartbeats 4000000 in
set_option maxRecDepth 20000 in
theorem kX9_run (g : Gt) {h : AH} {b : Nat} {S : Nat → Int → Int} {p : Int} {k : Int} (hM : RM h b S) (hV : invM S) (g_p : rgI p) (g_k : rgI k) : CnJ g mX9_run 7 [.ref b, .int (iI p), .int (iI k)] h (runA S p k).1 (QM h b (runA S p k).2) := by
  refine Cn.mk (by decide +kernel) (Nat.le_of_ble_eq_true rfl) ?_
  intro x sz hx hr
  show Zj g x (sz, 0, 0) h 0 [(0, .ref b), (1, .int (iI p)), (2, .int (iI k))] []
  obtain ⟨m0, m1, m2, m3, m4, m5, m6, m7, m8⟩ := hM
  have hN := hV.1
  have hI := hN.1
  have hn := hI.n
  refine z_aload_n hx dX9_run_0 rfl 0 rfl ?_
  refine z_iload_n hx dX9_run_1 rfl 1 rfl ?_
  refine z_cVI (as := [.int (iI p)]) (rest := []) hx dX9_run_2 lk_X9_204 wm_X9_isHunted wv_X9_isHunted (rcv_obj hx m0 rfl) mo_X9_isHunted (kX9_isHunted g (S := S) ⟨m0, m1, m2, m3, m4, m5, m6, m7, m8⟩ hI (by first | exact g_p | omega)) (by decide) rfl rfl (Nat.le_of_ble_eq_true rfl) ?_
  refine z_ifeq_b (tgt := 13) hx dX9_run_5 (by decide)  (fun c_1 => ?_) (fun c_1 => ?_)
  ·
    refine z_aload_n hx dX9_run_13 rfl 0 rfl ?_
    refine z_bipush hx dX9_run_14 (by decide) ?_
    refine z_cVJ (as := [.int (iI (-10))]) (rest := []) hx dX9_run_16 lk_X9_39 wm_X9_badBy wv_X9_badBy (rcv_obj hx m0 rfl) mo_X9_badBy (kX9_badBy g (v := (-10)) ⟨m0, m1, m2, m3, m4, m5, m6, m7, m8⟩) (by decide) rfl rfl (Nat.le_of_ble_eq_true rfl) (fun h_2 q_3 => ?_)
    have fr_4 : Fr h h_2 b 9 := q_3.2.wd (by omega) (by omega)
    refine z_iret hx hr dX9_run_19 rfl rfl (q_j (by unfold runA; (repeat (first | rw [if_pos (by omega)] | rw [if_neg (by omega)])); (try unfold runV); (try rw [eR]); (try dsimp only); (repeat (first | rw [if_pos (by omega)] | rw [if_neg (by omega)])); (try rfl)) (by unfold runA; (repeat (first | rw [if_pos (by omega)] | rw [if_neg (by omega)])); (try rw [eR]); exact ⟨q_3.1, fr_4⟩))
  ·
    refine z_iload_n hx dX9_run_8 rfl 2 rfl ?_
    refine z_iconst hx dX9_run_9 ?_
    refine z_icmp_ge (tgt := 20) hx dX9_run_10 (by decide) (by omega) (by decide) (fun c_5 => ?_) (fun c_5 => ?_)
    ·
      refine z_aload_n hx dX9_run_20 rfl 0 rfl ?_
      refine z_get hx dX9_run_21 fl_X9_7 m0 rfl ?_
      refine z_bipush hx dX9_run_24 (by decide) ?_
      refine z_iload_n hx dX9_run_26 rfl 1 rfl ?_
      refine z_iadd hx dX9_run_27 ?_
      refine z_iald hx dX9_run_28 m1 (by omega) (by decide) ?_
      have rg_6 := hI.rg ((17 + p)) (by omega)
      refine z_if_eq (tgt := 37) hx dX9_run_29 (by decide) (by omega) (fun c_7 => ?_) (fun c_7 => ?_)
      ·
        refine z_iconst hx dX9_run_37 ?_
        refine z_istore_n hx dX9_run_38 rfl (by decide) [1, 2, 3, 0] (lv' := [(0, .ref b), (1, .int (iI p)), (2, .int (iI k)), (3, .int (iI 1))]) rfl ?_
        refine z_iconst hx dX9_run_39 ?_
        refine z_istore hx dX9_run_40 (by decide) [1, 2, 3, 4, 0] (lv' := [(0, .ref b), (1, .int (iI p)), (2, .int (iI k)), (3, .int (iI 1)), (4, .int (iI 1))]) rfl ?_
        have hL_8 : ∀ (mm : Nat) (v3 : Int) (v4 : Int) (g1 : Int → Int) (g2 : Int → Int) (h_9 : AH), (1 ≤ v4 ∧ v4 ≤ 5) → (v3 = p5 (v4 - 1)) → (rnO (S 1) p (5 - v4).toNat v4 g1 g2 = rnR S p) → (outR g1) → (h_9 b = some (.inr (.inr (7, [.ref (b + 1), .ref (b + 2), .ref (b + 3), .ref (b + 4), .ref (b + 5), .ref (b + 6), .long (lI (S 0 6)), .long (lI (S 0 7)), .int (iI (S 0 8)), .ref (b + 7), .int (iI (S 0 10)), .int (iI (S 0 11)), .int (iI (S 0 12)), .int (iI (S 0 13)), .long (lI (S 0 14)), .int (iI (S 0 15)), .ref (b + 8)])))) → (h_9 (b + 1) = some (.inl (0, 267, S 1))) → (h_9 (b + 2) = some (.inl (0, 267, g1))) → (h_9 (b + 3) = some (.inl (0, 267, S 3))) → (h_9 (b + 4) = some (.inl (0, 534, S 4))) → (h_9 (b + 5) = some (.inl (2, 2, S 5))) → (h_9 (b + 6) = some (.inl (0, 3, S 6))) → (h_9 (b + 7) = some (.inl (0, 150, S 7))) → (h_9 (b + 8) = some (.inl (0, 4, g2))) → (Fr h h_9 b 9) → (5 : Int) - v4 < (mm : Int) → Zj g x (sz, 0, 0) h_9 42 [(0, .ref b), (1, .int (iI p)), (2, .int (iI k)), (3, .int (iI v3)), (4, .int (iI v4))] [] := by
          intro mm
          induction mm with
          | zero => intro v3 v4 g1 g2 h_9 kv e3 eg hoTo hk_10 hk_11 hg_12 hk_13 hk_14 hk_15 hk_16 hk_17 hg_18 fr_19 hm; exfalso; omega
          | succ mm ih =>
            intro v3 v4 g1 g2 h_9 kv e3 eg hoTo hk_10 hk_11 hg_12 hk_13 hk_14 hk_15 hk_16 hk_17 hg_18 fr_19 hm
            have ih_20 := ih; clear ih
            have hp3 := p5_rg (v4 - 1)
            have hp4 := p5_rg v4
            refine z_iload hx dX9_run_42 4 rfl ?_
            refine z_iconst hx dX9_run_44 ?_
            refine z_icmp_gt (tgt := 149) hx dX9_run_45 (by decide) (by omega) (by decide) (fun c_21 => ?_) (fun c_21 => ?_)
            ·
              have eR : rnR S p = (-1, -1, g1, g2) := by rw [← eg]; exact rnO_e (by omega)
              refine z_iconst hx dX9_run_149 ?_
              refine z_iret hx hr dX9_run_150 rfl rfl (q_j (by unfold runA; (repeat (first | rw [if_pos (by omega)] | rw [if_neg (by omega)])); (try unfold runV); (try rw [eR]); (try dsimp only); (repeat (first | rw [if_pos (by omega)] | rw [if_neg (by omega)])); (try rfl)) (by unfold runA; (repeat (first | rw [if_pos (by omega)] | rw [if_neg (by omega)])); (try rw [eR]); exact ⟨⟨hk_10, hk_11, hg_12, hk_13, hk_14, hk_15, hk_16, hk_17, hg_18⟩, fr_19⟩))
            ·
              refine z_iload_n hx dX9_run_48 rfl 3 rfl ?_
              refine z_iconst hx dX9_run_49 ?_
              refine z_imul hx dX9_run_50 ?_
              refine z_istore_n hx dX9_run_51 rfl (by decide) [1, 2, 3, 0, 4] (lv' := [(0, .ref b), (1, .int (iI p)), (2, .int (iI k)), (3, .int (iI (v3 * 5))), (4, .int (iI v4))]) rfl ?_
              have e5 : v3 * 5 = p5 v4 := by rw [e3]; have := p5_s (i := v4 - 1) (by omega); rw [show v4 - 1 + 1 = v4 by omega] at this; omega
              refine z_iconst hx dX9_run_52 ?_
              refine z_istore hx dX9_run_53 (by decide) [1, 2, 3, 4, 5, 0] (lv' := [(0, .ref b), (1, .int (iI p)), (2, .int (iI k)), (3, .int (iI (v3 * 5))), (4, .int (iI v4)), (5, .int (iI 0))]) rfl ?_
              have hL_22 : ∀ (mm : Nat) (v5 : Int) (g3 : Int → Int) (g4 : Int → Int) (h_23 : AH), (0 ≤ v5 ∧ v5 ≤ p5 v4) → (rnI (S 1) p v4 (p5 v4 - v5).toNat v5 g3 g4 = rnI (S 1) p v4 (p5 v4).toNat 0 g1 g2) → (outR g3) → (h_23 b = some (.inr (.inr (7, [.ref (b + 1), .ref (b + 2), .ref (b + 3), .ref (b + 4), .ref (b + 5), .ref (b + 6), .long (lI (S 0 6)), .long (lI (S 0 7)), .int (iI (S 0 8)), .ref (b + 7), .int (iI (S 0 10)), .int (iI (S 0 11)), .int (iI (S 0 12)), .int (iI (S 0 13)), .long (lI (S 0 14)), .int (iI (S 0 15)), .ref (b + 8)])))) → (h_23 (b + 1) = some (.inl (0, 267, S 1))) → (h_23 (b + 2) = some (.inl (0, 267, g3))) → (h_23 (b + 3) = some (.inl (0, 267, S 3))) → (h_23 (b + 4) = some (.inl (0, 534, S 4))) → (h_23 (b + 5) = some (.inl (2, 2, S 5))) → (h_23 (b + 6) = some (.inl (0, 3, S 6))) → (h_23 (b + 7) = some (.inl (0, 150, S 7))) → (h_23 (b + 8) = some (.inl (0, 4, g4))) → (Fr h h_23 b 9) → p5 v4 - v5 < (mm : Int) → Zj g x (sz, 0, 0) h_23 55 [(0, .ref b), (1, .int (iI p)), (2, .int (iI k)), (3, .int (iI (v3 * 5))), (4, .int (iI v4)), (5, .int (iI v5))] [] := by
                intro mm
                induction mm with
                | zero => intro v5 g3 g4 h_23 kx ei hoT hk_24 hk_25 hg_26 hk_27 hk_28 hk_29 hk_30 hk_31 hg_32 fr_33 hm; exfalso; omega
                | succ mm ih =>
                  intro v5 g3 g4 h_23 kx ei hoT hk_24 hk_25 hg_26 hk_27 hk_28 hk_29 hk_30 hk_31 hg_32 fr_33 hm
                  have ih_34 := ih; clear ih
                  refine z_iload hx dX9_run_55 5 rfl ?_
                  refine z_iload_n hx dX9_run_57 rfl 3 rfl ?_
                  refine z_icmp_ge (tgt := 143) hx dX9_run_58 (by decide) (by omega) (by omega) (fun c_35 => ?_) (fun c_35 => ?_)
                  ·
                    have eN : rnI (S 1) p v4 (p5 v4).toNat 0 g1 g2 = (-1, g3, g4) := by rw [← ei]; exact rnI_e (by omega)
                    refine z_iinc hx dX9_run_143 (by decide) 4 rfl [1, 2, 3, 4, 0, 5] (lv' := [(0, .ref b), (1, .int (iI p)), (2, .int (iI k)), (3, .int (iI (v3 * 5))), (4, .int (iI (v4 + 1))), (5, .int (iI v5))]) rfl ?_
                    refine z_goto (tgt := 42) hx dX9_run_146 (by decide) ?_
                    refine z_sub [0, 1, 2, 3, 4] (lv' := [(0, .ref b), (1, .int (iI p)), (2, .int (iI k)), (3, .int (iI (v3 * 5))), (4, .int (iI (v4 + 1)))]) rfl ?_
                    exact ih_20 _ _ g3 g4 _ (by omega) (by rw [show v4 + 1 - 1 = v4 by omega]; exact e5) (by rw [← eg]; exact (rnO_n (by omega) eN).symm) (by exact hoT) hk_24 hk_25 hg_26 hk_27 hk_28 hk_29 hk_30 hk_31 hg_32 fr_33 (by omega)
                  ·
                    refine z_iload hx dX9_run_61 5 rfl ?_
                    refine z_istore hx dX9_run_63 (by decide) [1, 2, 3, 4, 5, 6, 0] (lv' := [(0, .ref b), (1, .int (iI p)), (2, .int (iI k)), (3, .int (iI (v3 * 5))), (4, .int (iI v4)), (5, .int (iI v5)), (6, .int (iI v5))]) rfl ?_
                    refine z_iload hx dX9_run_65 4 rfl ?_
                    refine z_iconst hx dX9_run_67 ?_
                    refine z_isub hx dX9_run_68 ?_
                    refine z_istore hx dX9_run_69 (by decide) [1, 2, 3, 4, 5, 6, 7, 0] (lv' := [(0, .ref b), (1, .int (iI p)), (2, .int (iI k)), (3, .int (iI (v3 * 5))), (4, .int (iI v4)), (5, .int (iI v5)), (6, .int (iI v5)), (7, .int (iI (v4 - 1)))]) rfl ?_
                    have hL_36 : ∀ (mm : Nat) (v6 : Int) (v7 : Int) (g5 : Int → Int) (h_37 : AH), (-1 ≤ v7 ∧ v7 < v4) → (v6 = v5 / p5 (v4 - 1 - v7)) → (g5 = dgF v4 v5 v7 g4) → (h_37 b = some (.inr (.inr (7, [.ref (b + 1), .ref (b + 2), .ref (b + 3), .ref (b + 4), .ref (b + 5), .ref (b + 6), .long (lI (S 0 6)), .long (lI (S 0 7)), .int (iI (S 0 8)), .ref (b + 7), .int (iI (S 0 10)), .int (iI (S 0 11)), .int (iI (S 0 12)), .int (iI (S 0 13)), .long (lI (S 0 14)), .int (iI (S 0 15)), .ref (b + 8)])))) → (h_37 (b + 1) = some (.inl (0, 267, S 1))) → (h_37 (b + 2) = some (.inl (0, 267, g3))) → (h_37 (b + 3) = some (.inl (0, 267, S 3))) → (h_37 (b + 4) = some (.inl (0, 534, S 4))) → (h_37 (b + 5) = some (.inl (2, 2, S 5))) → (h_37 (b + 6) = some (.inl (0, 3, S 6))) → (h_37 (b + 7) = some (.inl (0, 150, S 7))) → (h_37 (b + 8) = some (.inl (0, 4, g5))) → (Fr h h_37 b 9) → v7 + 1 < (mm : Int) → Zj g x (sz, 0, 0) h_37 71 [(0, .ref b), (1, .int (iI p)), (2, .int (iI k)), (3, .int (iI (v3 * 5))), (4, .int (iI v4)), (5, .int (iI v5)), (6, .int (iI v6)), (7, .int (iI v7))] [] := by
                      intro mm
                      induction mm with
                      | zero => intro v6 v7 g5 h_37 ky e6 eC hk_38 hk_39 hk_40 hk_41 hk_42 hk_43 hk_44 hk_45 hg_46 fr_47 hm; exfalso; omega
                      | succ mm ih =>
                        intro v6 v7 g5 h_37 ky e6 eC hk_38 hk_39 hk_40 hk_41 hk_42 hk_43 hk_44 hk_45 hg_46 fr_47 hm
                        have ih_48 := ih; clear ih
                        have h6r := dv_rg (v4 - 1 - v7) kx.1
                        rw [← e6] at h6r
                        refine z_iload hx dX9_run_71 7 rfl ?_
                        refine z_if_lt (tgt := 99) hx dX9_run_73 (by decide) (by omega) (fun c_49 => ?_) (fun c_49 => ?_)
                        ·
                          have eF : g5 = chF v4 v5 g4 := by rw [eC]; exact dgF_e (by omega)
                          rw [eF] at hg_46
                          refine z_aload_n hx dX9_run_99 rfl 0 rfl ?_
                          refine z_iload_n hx dX9_run_100 rfl 1 rfl ?_
                          refine z_iload hx dX9_run_101 4 rfl ?_
                          refine z_cVJ (as := [.int (iI p), .int (iI v4)]) (rest := []) hx dX9_run_103 lk_X9_228 wm_X9_isUnderBy wv_X9_isUnderBy (rcv_obj hx hk_38 rfl) mo_X9_isUnderBy (kX9_isUnderBy g (S := (sst (sst S 2 g3) 8 (chF v4 v5 g4))) (p := p) (n := v4) ⟨hk_38, hk_39, hk_40, hk_41, hk_42, hk_43, hk_44, hk_45, hg_46⟩ (show inv ((S 1)) by exact hI) (show outR (g3) by exact hoT) (show 0 ≤ p ∧ p < (S 1) 37 by omega) (show 0 ≤ v4 ∧ v4 ≤ 4 by omega) (show ∀ j, 0 ≤ j → j < v4 → 0 ≤ (chF v4 v5 g4) j ∧ (chF v4 v5 g4) j ≤ 4 by exact fun j h1 h2 => chF_in ⟨h1, h2⟩)) (by decide) rfl rfl (Nat.le_of_ble_eq_true rfl) (fun h_50 q_51 => ?_)
                          show Zj g x (sz, 0, 0) h_50 106 [(0, .ref b), (1, .int (iI p)), (2, .int (iI k)), (3, .int (iI (v3 * 5))), (4, .int (iI v4)), (5, .int (iI v5)), (6, .int (iI v6)), (7, .int (iI v7))] [.int (iI (b2i (iuP ((S 1)) p v4 ((chF v4 v5 g4)) (g3))))]
                          obtain ⟨⟨p_52, p_53, p_54, p_55, p_56, p_57, p_58, p_59, p_60⟩, hf_61⟩ := q_51
                          have m_62 : h_50 b = some (.inr (.inr (7, [.ref (b + 1), .ref (b + 2), .ref (b + 3), .ref (b + 4), .ref (b + 5), .ref (b + 6), .long (lI (S 0 6)), .long (lI (S 0 7)), .int (iI (S 0 8)), .ref (b + 7), .int (iI (S 0 10)), .int (iI (S 0 11)), .int (iI (S 0 12)), .int (iI (S 0 13)), .long (lI (S 0 14)), .int (iI (S 0 15)), .ref (b + 8)]))) := p_52
                          have m_63 : h_50 (b + 1) = some (.inl (0, 267, S 1)) := p_53
                          have m_64 : h_50 (b + 2) = some (.inl (0, 267, (iub ((S 1)) p v4 ((chF v4 v5 g4)) (g3)).2)) := p_54
                          have m_65 : h_50 (b + 3) = some (.inl (0, 267, S 3)) := p_55
                          have m_66 : h_50 (b + 4) = some (.inl (0, 534, S 4)) := p_56
                          have m_67 : h_50 (b + 5) = some (.inl (2, 2, S 5)) := p_57
                          have m_68 : h_50 (b + 6) = some (.inl (0, 3, S 6)) := p_58
                          have m_69 : h_50 (b + 7) = some (.inl (0, 150, S 7)) := p_59
                          have m_70 : h_50 (b + 8) = some (.inl (0, 4, (chF v4 v5 g4))) := p_60
                          obtain ⟨f_71, ef_71⟩ : ∃ F : Int → Int, F = (iub ((S 1)) p v4 ((chF v4 v5 g4)) (g3)).2 := ⟨_, rfl⟩
                          rw [← ef_71] at m_64
                          have iv_72 := inv_iub hI (p := p) (n := v4) (T := g3) (C := (chF v4 v5 g4)) hoT (by omega) (by omega)
                          rw [← ef_71] at iv_72
                          have fr_73 := fr_47.tr (hf_61.wd (by omega) (by omega))
                          refine z_ifeq_b (tgt := 137) hx dX9_run_106 (by decide)  (fun c_74 => ?_) (fun c_74 => ?_)
                          ·
                            refine z_iinc hx dX9_run_137 (by decide) 5 rfl [1, 2, 3, 4, 5, 0, 6, 7] (lv' := [(0, .ref b), (1, .int (iI p)), (2, .int (iI k)), (3, .int (iI (v3 * 5))), (4, .int (iI v4)), (5, .int (iI (v5 + 1))), (6, .int (iI v6)), (7, .int (iI v7))]) rfl ?_
                            refine z_goto (tgt := 55) hx dX9_run_140 (by decide) ?_
                            refine z_sub [0, 1, 2, 3, 4, 5] (lv' := [(0, .ref b), (1, .int (iI p)), (2, .int (iI k)), (3, .int (iI (v3 * 5))), (4, .int (iI v4)), (5, .int (iI (v5 + 1)))]) rfl ?_
                            have ec : rnI (S 1) p v4 (p5 v4 - (v5 + 1)).toNat (v5 + 1) f_71 (chF v4 v5 g4) = rnI (S 1) p v4 (p5 v4).toNat 0 g1 g2 := by rw [← ei, rnI_n (T := g3) (C := g4) (c := v5) (by omega) (by assumption), ← ef_71]
                            have oT : outR f_71 := outR_cfx hoT iv_72.1
                            exact ih_34 _ f_71 (chF v4 v5 g4) _ (by omega) (by exact ec) (by exact oT) m_62 m_63 m_64 m_65 m_66 m_67 m_68 m_69 m_70 fr_73 (by omega)
                          ·
                            have eY : rnI (S 1) p v4 (p5 v4).toNat 0 g1 g2 = (v5, f_71, chF v4 v5 g4) := by rw [← ei, rnI_y (T := g3) (C := g4) (c := v5) (by omega) (by assumption), ← ef_71]
                            have eR : rnR S p = (v4, v5, f_71, chF v4 v5 g4) := by rw [← eg]; exact rnO_y (by omega) (by omega) eY
                            have hck : 0 ≤ k → k < v4 → 0 ≤ chF v4 v5 g4 k ∧ chF v4 v5 g4 k ≤ 4 := fun q1 q2 => chF_in ⟨q1, q2⟩
                            refine z_iload_n hx dX9_run_109 rfl 2 rfl ?_
                            refine z_iconst hx dX9_run_110 ?_
                            refine z_icmp_ne (tgt := 119) hx dX9_run_111 (by decide) (by omega) (by decide) (fun c_75 => ?_) (fun c_75 => ?_)
                            ·
                              refine z_iload_n hx dX9_run_119 rfl 2 rfl ?_
                              refine z_iload hx dX9_run_120 4 rfl ?_
                              refine z_icmp_ge (tgt := 134) hx dX9_run_122 (by decide) (by omega) (by omega) (fun c_76 => ?_) (fun c_76 => ?_)
                              ·
                                refine z_bipush hx dX9_run_134 (by decide) ?_
                                refine z_iret hx hr dX9_run_136 rfl rfl (q_j (by unfold runA; (repeat (first | rw [if_pos (by omega)] | rw [if_neg (by omega)])); (try unfold runV); (try rw [eR]); (try dsimp only); (repeat (first | rw [if_pos (by omega)] | rw [if_neg (by omega)])); (try rfl)) (by unfold runA; (repeat (first | rw [if_pos (by omega)] | rw [if_neg (by omega)])); (try rw [eR]); exact ⟨⟨m_62, m_63, m_64, m_65, m_66, m_67, m_68, m_69, m_70⟩, fr_73⟩))
                              ·
                                refine z_aload_n hx dX9_run_125 rfl 0 rfl ?_
                                refine z_get hx dX9_run_126 fl_X9_36 m_62 rfl ?_
                                refine z_iload_n hx dX9_run_129 rfl 2 rfl ?_
                                refine z_iald hx dX9_run_130 m_70 (by omega) (by decide) ?_
                                refine z_goto (tgt := 136) hx dX9_run_131 (by decide) ?_
                                refine z_iret hx hr dX9_run_136 rfl rfl (q_j (by unfold runA; (repeat (first | rw [if_pos (by omega)] | rw [if_neg (by omega)])); (try unfold runV); (try rw [eR]); (try dsimp only); (repeat (first | rw [if_pos (by omega)] | rw [if_neg (by omega)])); (try rfl)) (by unfold runA; (repeat (first | rw [if_pos (by omega)] | rw [if_neg (by omega)])); (try rw [eR]); exact ⟨⟨m_62, m_63, m_64, m_65, m_66, m_67, m_68, m_69, m_70⟩, fr_73⟩))
                            ·
                              refine z_iload hx dX9_run_114 4 rfl ?_
                              refine z_goto (tgt := 136) hx dX9_run_116 (by decide) ?_
                              refine z_iret hx hr dX9_run_136 rfl rfl (q_j (by unfold runA; (repeat (first | rw [if_pos (by omega)] | rw [if_neg (by omega)])); (try unfold runV); (try rw [eR]); (try dsimp only); (repeat (first | rw [if_pos (by omega)] | rw [if_neg (by omega)])); (try rfl)) (by unfold runA; (repeat (first | rw [if_pos (by omega)] | rw [if_neg (by omega)])); (try rw [eR]); exact ⟨⟨m_62, m_63, m_64, m_65, m_66, m_67, m_68, m_69, m_70⟩, fr_73⟩))
                        ·
                          refine z_aload_n hx dX9_run_76 rfl 0 rfl ?_
                          refine z_get hx dX9_run_77 fl_X9_36 hk_38 rfl ?_
                          refine z_iload hx dX9_run_80 7 rfl ?_
                          refine z_iload hx dX9_run_82 6 rfl ?_
                          refine z_iconst hx dX9_run_84 ?_
                          refine z_irem hx dX9_run_85 (by omega) (by decide) ?_
                          refine z_iastQ hx dX9_run_86 hg_46 (by omega) (by decide) (fun h_77 hs_78 hf_79 => ?_)
                          have h_80 := hf_79.at (by omega) hk_38
                          have h_81 := hf_79.at (by omega) hk_39
                          have h_82 := hf_79.at (by omega) hk_40
                          have h_83 := hf_79.at (by omega) hk_41
                          have h_84 := hf_79.at (by omega) hk_42
                          have h_85 := hf_79.at (by omega) hk_43
                          have h_86 := hf_79.at (by omega) hk_44
                          have h_87 := hf_79.at (by omega) hk_45
                          have fr_88 := fr_47.tr (hf_79.wd (by omega) (by omega))
                          refine z_iload hx dX9_run_87 6 rfl ?_
                          refine z_iconst hx dX9_run_89 ?_
                          refine z_idiv hx dX9_run_90 (by omega) (by decide) ?_
                          refine z_istore hx dX9_run_91 (by decide) [1, 2, 3, 4, 5, 6, 0, 7] (lv' := [(0, .ref b), (1, .int (iI p)), (2, .int (iI k)), (3, .int (iI (v3 * 5))), (4, .int (iI v4)), (5, .int (iI v5)), (6, .int (iI (v6 / 5))), (7, .int (iI v7))]) rfl ?_
                          refine z_iinc hx dX9_run_93 (by decide) 7 rfl [1, 2, 3, 4, 5, 6, 7, 0] (lv' := [(0, .ref b), (1, .int (iI p)), (2, .int (iI k)), (3, .int (iI (v3 * 5))), (4, .int (iI v4)), (5, .int (iI v5)), (6, .int (iI (v6 / 5))), (7, .int (iI (v7 + (-1))))]) rfl ?_
                          refine z_goto (tgt := 71) hx dX9_run_96 (by decide) ?_
                          have ec : (fup g5 v7 (v6 % 5)) = dgF v4 v5 (v7 + (-1)) g4 := by rw [← dgF_s (by omega), ← eC, ← e6]
                          exact ih_48 _ _ (fup g5 v7 (v6 % 5)) _ (by omega) (by rw [e6, p5_dv (by omega), show v4 - 1 - v7 + 1 = v4 - 1 - (v7 + (-1)) by omega]) (by exact ec) h_80 h_81 h_82 h_83 h_84 h_85 h_86 h_87 hs_78 fr_88 (by omega)
                    exact hL_36 (((v4 - 1) + 1) + 1 : Int).toNat _ _ g4 _ (by omega) (by rw [show v4 - 1 - (v4 - 1) = 0 by omega, show p5 0 = 1 from rfl]; omega) (by exact (dgF_0 _ _ _ rfl).symm) hk_24 hk_25 hg_26 hk_27 hk_28 hk_29 hk_30 hk_31 hg_32 fr_33 (by omega)
              exact hL_22 ((p5 v4 - 0) + 1 : Int).toNat _ g1 g2 _ (by omega) (by rw [show p5 v4 - 0 = p5 v4 by omega]) (by exact hoTo) hk_10 hk_11 hg_12 hk_13 hk_14 hk_15 hk_16 hk_17 hg_18 fr_19 (by omega)
        exact hL_8 (((5 : Int) - 1) + 1 : Int).toNat _ _ (S 2) (S 8) _ (by omega) (by rfl) (by rfl) (by exact hV.2.1) m0 m1 m2 m3 m4 m5 m6 m7 m8 Fr.rf (by omega)
      ·
        refine z_aload_n hx dX9_run_32 rfl 0 rfl ?_
        refine z_cVJ (as := []) (rest := []) hx dX9_run_33 lk_X9_201 wm_X9_no wv_X9_no (rcv_obj hx m0 rfl) mo_X9_no (kX9_no g  ⟨m0, m1, m2, m3, m4, m5, m6, m7, m8⟩) (by decide) rfl rfl (Nat.le_of_ble_eq_true rfl) (fun h_89 q_90 => ?_)
        have fr_91 : Fr h h_89 b 9 := q_90.2.wd (by omega) (by omega)
        refine z_iret hx hr dX9_run_36 rfl rfl (q_j (by unfold runA; (repeat (first | rw [if_pos (by omega)] | rw [if_neg (by omega)])); (try unfold runV); (try rw [eR]); (try dsimp only); (repeat (first | rw [if_pos (by omega)] | rw [if_neg (by omega)])); (try rfl)) (by unfold runA; (repeat (first | rw [if_pos (by omega)] | rw [if_neg (by omega)])); (try rw [eR]); exact ⟨q_90.1, fr_91⟩))
    ·
      refine z_aload_n hx dX9_run_13 rfl 0 rfl ?_
      refine z_bipush hx dX9_run_14 (by decide) ?_
      refine z_cVJ (as := [.int (iI (-10))]) (rest := []) hx dX9_run_16 lk_X9_39 wm_X9_badBy wv_X9_badBy (rcv_obj hx m0 rfl) mo_X9_badBy (kX9_badBy g (v := (-10)) ⟨m0, m1, m2, m3, m4, m5, m6, m7, m8⟩) (by decide) rfl rfl (Nat.le_of_ble_eq_true rfl) (fun h_92 q_93 => ?_)
      have fr_94 : Fr h h_92 b 9 := q_93.2.wd (by omega) (by omega)
      refine z_iret hx hr dX9_run_19 rfl rfl (q_j (by unfold runA; (repeat (first | rw [if_pos (by omega)] | rw [if_neg (by omega)])); (try unfold runV); (try rw [eR]); (try dsimp only); (repeat (first | rw [if_pos (by omega)] | rw [if_neg (by omega)])); (try rfl)) (by unfold runA; (repeat (first | rw [if_pos (by omega)] | rw [if_neg (by omega)])); (try rw [eR]); exact ⟨q_93.1, fr_94⟩))

