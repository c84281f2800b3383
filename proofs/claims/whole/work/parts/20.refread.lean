/-! the reference's reader: its tokens -/
def kd (L : Int) (t : Int → Int) (i : Int) : Int := if i < L then (if 97 ≤ t i ∧ t i ≤ 122 then 1 else if 48 ≤ t i ∧ t i ≤ 57 then 2 else 0) else 0
def skN (L : Int) (t : Int → Int) : Nat → Int → Int
  | 0, p => p
  | m + 1, p => if p < L ∧ t p = 32 then skN L t m (p + 1) else p
def skp (L : Int) (t : Int → Int) (p : Int) : Int := skN L t (L - p).toNat p
def tkN (L : Int) (t : Int → Int) (a k : Int) : Nat → Int × Int × Int → Int × Int × Int
  | 0, s => s
  | m + 1, s => if kd L t s.1 = k then tkN L t a k m (s.1 + 1, if s.1 - a < 7 then 256 * s.2.1 + t s.1 else -1, if s.1 - a < 2 then 10 * s.2.2 + t s.1 - 48 else s.2.2) else s
def tkR (L : Int) (t : Int → Int) (a : Int) : Int × Int × Int := tkN L t a (kd L t a) (L - a).toNat (a, 0, 0)
def nx5 (Z : Int → Int) (p a k n w : Int) : Int → Int := fup (fup (fup (fup (fup Z 10 p) 11 a) 12 k) 13 n) 14 w
def nxA (L : Int) (t : Int → Int) (a : Int) (Z : Int → Int) : Int → Int :=
  if a = L then nx5 Z a a 0 0 0 else if kd L t a = 0 then nx5 Z (a + 1) a (if t a = 59 then 3 else 4) 0 0 else
    nx5 Z (tkR L t a).1 a (if kd L t a = 2 ∧ 2 < (tkR L t a).1 - a then 4 else kd L t a) (tkR L t a).2.2 (tkR L t a).2.1
def nxZ (Z t : Int → Int) : Int → Int := nxA (Z 8) t (skp (Z 8) t (Z 10)) Z
theorem skN_s {L : Int} {t : Int → Int} {p : Int} (h : p < L) (h2 : t p = 32) : skN L t (L - p).toNat p = skN L t (L - (p + 1)).toNat (p + 1) := by
  rw [show (L - p).toNat = (L - (p + 1)).toNat + 1 by omega]
  exact if_pos ⟨h, h2⟩
theorem skN_e {L : Int} {t : Int → Int} {p : Int} (m : Nat) (h : L ≤ p ∨ t p ≠ 32) : skN L t m p = p := by
  cases m with
  | zero => rfl
  | succ m => exact if_neg (by omega)
theorem skN_rg {L : Int} {t : Int → Int} (m : Nat) : ∀ p : Int, p ≤ L → p ≤ skN L t m p ∧ skN L t m p ≤ L := by
  induction m with
  | zero => intro p h; exact ⟨Int.le_refl _, h⟩
  | succ m ih =>
    intro p h
    show p ≤ (if p < L ∧ t p = 32 then skN L t m (p + 1) else p) ∧ (if p < L ∧ t p = 32 then skN L t m (p + 1) else p) ≤ L
    split
    · next c => have := ih (p + 1) (by omega); omega
    · omega
theorem skp_rg {L : Int} {t : Int → Int} {p : Int} (h : p ≤ L) : p ≤ skp L t p ∧ skp L t p ≤ L := skN_rg _ p h
theorem kd_rg (L : Int) (t : Int → Int) (i : Int) : 0 ≤ kd L t i ∧ kd L t i ≤ 2 ∧ (L ≤ i → kd L t i = 0) ∧ (kd L t i ≠ 0 → 48 ≤ t i ∧ t i ≤ 122) ∧ (kd L t i = 2 → t i ≤ 57) := by unfold kd; (repeat' split) <;> omega
theorem tkN_s {L : Int} {t : Int → Int} {a k p w n : Int} (h : p < L) (h2 : kd L t p = k) : tkN L t a k (L - p).toNat (p, w, n) = tkN L t a k (L - (p + 1)).toNat (p + 1, if p - a < 7 then 256 * w + t p else -1, if p - a < 2 then 10 * n + t p - 48 else n) := by
  rw [show (L - p).toNat = (L - (p + 1)).toNat + 1 by omega]
  exact if_pos h2
theorem tkN_e {L : Int} {t : Int → Int} {a k p w n : Int} (m : Nat) (h2 : kd L t p ≠ k) : tkN L t a k m (p, w, n) = (p, w, n) := by
  cases m with
  | zero => rfl
  | succ m => exact if_neg h2
def p256 (d : Int) : Int := if d ≤ 0 then 1 else if d = 1 then 256 else if d = 2 then 65536 else if d = 3 then 16777216 else if d = 4 then 4294967296 else if d = 5 then 1099511627776 else if d = 6 then 281474976710656 else 72057594037927936
theorem p256_s {d w c : Int} (h : 0 ≤ d ∧ d < 7) (hw : 0 ≤ w ∧ w < p256 d) (hc : 0 ≤ c ∧ c < 256) : 0 ≤ 256 * w + c ∧ 256 * w + c < p256 (d + 1) := by
  have : d = 0 ∨ d = 1 ∨ d = 2 ∨ d = 3 ∨ d = 4 ∨ d = 5 ∨ d = 6 := by omega
  rcases this with rfl | rfl | rfl | rfl | rfl | rfl | rfl
  · rw [show p256 0 = 1 from rfl] at hw; rw [show p256 (0 + 1) = 256 from rfl]; omega
  · rw [show p256 1 = 256 from rfl] at hw; rw [show p256 (1 + 1) = 65536 from rfl]; omega
  · rw [show p256 2 = 65536 from rfl] at hw; rw [show p256 (2 + 1) = 16777216 from rfl]; omega
  · rw [show p256 3 = 16777216 from rfl] at hw; rw [show p256 (3 + 1) = 4294967296 from rfl]; omega
  · rw [show p256 4 = 4294967296 from rfl] at hw; rw [show p256 (4 + 1) = 1099511627776 from rfl]; omega
  · rw [show p256 5 = 1099511627776 from rfl] at hw; rw [show p256 (5 + 1) = 281474976710656 from rfl]; omega
  · rw [show p256 6 = 281474976710656 from rfl] at hw; rw [show p256 (6 + 1) = 72057594037927936 from rfl]; omega
/-- what holds while a token is taken -/
def tkP (L a : Int) (s : Int × Int × Int) : Prop := (a ≤ s.1 ∧ s.1 ≤ L) ∧ ((s.1 - a ≤ 7 ∧ 0 ≤ s.2.1 ∧ s.2.1 < p256 (s.1 - a)) ∨ (7 < s.1 - a ∧ s.2.1 = -1)) ∧ (0 ≤ s.2.2 ∧ s.2.2 ≤ 900 ∧ (s.1 = a → s.2.2 = 0) ∧ (s.1 - a ≤ 1 → s.2.2 ≤ 74))
theorem tkP_s {L : Int} {t : Int → Int} {a : Int} {s : Int × Int × Int} (hk : kd L t s.1 ≠ 0) (h : tkP L a s) : tkP L a (s.1 + 1, if s.1 - a < 7 then 256 * s.2.1 + t s.1 else -1, if s.1 - a < 2 then 10 * s.2.2 + t s.1 - 48 else s.2.2) := by
  obtain ⟨p, w, n⟩ := s
  have e := kd_rg L t p
  obtain ⟨h1, h2, h3⟩ := h
  dsimp only at hk h1 h2 h3 ⊢
  have hL : p < L := by
    rcases Int.lt_or_le p L with q | q
    · exact q
    · exact absurd (e.2.2.1 q) hk
  have hc := e.2.2.2.1 hk
  refine ⟨⟨by dsimp only; omega, by dsimp only; omega⟩, ?_, ?_⟩
  · dsimp only
    by_cases q : p - a < 7
    · rw [if_pos q]
      rcases h2 with h2 | h2
      · have := p256_s (d := p - a) (w := w) (c := t p) (by omega) h2.2 (by omega)
        rw [show p + 1 - a = p - a + 1 by omega]
        exact Or.inl ⟨by omega, this⟩
      · omega
    · rw [if_neg q]
      exact Or.inr ⟨by omega, rfl⟩
  · dsimp only
    split <;> omega
theorem tkN_P {L : Int} {t : Int → Int} {a k : Int} (hk : k ≠ 0) : ∀ (m : Nat) (s : Int × Int × Int), tkP L a s → tkP L a (tkN L t a k m s) := by
  intro m
  induction m with
  | zero => intro s h; exact h
  | succ m ih =>
    intro s h
    show tkP L a (if kd L t s.1 = k then tkN L t a k m _ else s)
    split
    · next c => exact ih _ (tkP_s (by omega) h)
    · exact h
theorem tkN_lt {L : Int} {t : Int → Int} {a k : Int} : ∀ (m : Nat) (s : Int × Int × Int), s.1 ≤ (tkN L t a k m s).1 := by
  intro m
  induction m with
  | zero => intro s; exact Int.le_refl _
  | succ m ih =>
    intro s
    show s.1 ≤ (if kd L t s.1 = k then tkN L t a k m _ else s).1
    split
    · have := ih (s.1 + 1, if s.1 - a < 7 then 256 * s.2.1 + t s.1 else -1, if s.1 - a < 2 then 10 * s.2.2 + t s.1 - 48 else s.2.2)
      dsimp only at this ⊢
      omega
    · omega
theorem nx5_n {Z : Int → Int} {p a k n w j : Int} (h : j < 10 ∨ 14 < j) : nx5 Z p a k n w j = Z j := by
  unfold nx5
  rw [fup_n (by omega), fup_n (by omega), fup_n (by omega), fup_n (by omega), fup_n (by omega)]
theorem nxZ_n {Z t : Int → Int} {j : Int} (h : j < 10 ∨ 14 < j) : nxZ Z t j = Z j := by
  unfold nxZ nxA
  (repeat' split) <;> exact nx5_n h
theorem tkR_rg {L : Int} {t : Int → Int} {a : Int} (ha : a < L) (hk : kd L t a ≠ 0) : tkP L a (tkR L t a) ∧ a < (tkR L t a).1 := by
  have h0 : tkP L a (a, 0, 0) := ⟨⟨Int.le_refl _, by omega⟩, Or.inl ⟨by dsimp only; omega, Int.le_refl _, by dsimp only; rw [Int.sub_self]; decide⟩, Int.le_refl _, show (0 : Int) ≤ 900 by decide, fun _ => rfl, fun _ => show (0 : Int) ≤ 74 by decide⟩
  refine ⟨tkN_P hk _ _ h0, ?_⟩
  unfold tkR
  rw [tkN_s ha rfl]
  have := tkN_lt (L := L) (t := t) (a := a) (k := kd L t a) (L - (a + 1)).toNat (a + 1, if a - a < 7 then 256 * 0 + t a else -1, if a - a < 2 then 10 * 0 + t a - 48 else 0)
  dsimp only at this
  omega
/-- a token taken: where it ends, what it may be -/
theorem nxZ_rg {Z t : Int → Int} (h : 0 ≤ Z 10 ∧ Z 10 ≤ Z 8) : (Z 10 ≤ nxZ Z t 10 ∧ nxZ Z t 10 ≤ Z 8) ∧ (nxZ Z t 12 ≠ 0 → Z 10 < nxZ Z t 10) ∧ (0 ≤ nxZ Z t 12 ∧ nxZ Z t 12 ≤ 4) ∧ (0 ≤ nxZ Z t 13 ∧ nxZ Z t 13 ≤ 900) ∧ (-1 ≤ nxZ Z t 14 ∧ nxZ Z t 14 < 72057594037927936) ∧ (Z 10 ≤ nxZ Z t 11 ∧ nxZ Z t 11 ≤ Z 8) := by
  have ha := skp_rg (L := Z 8) (t := t) (p := Z 10) h.2
  unfold nxZ
  generalize skp (Z 8) t (Z 10) = a at ha
  have hk := kd_rg (Z 8) t a
  have v : ∀ p a k n w : Int, nx5 Z p a k n w 10 = p ∧ nx5 Z p a k n w 11 = a ∧ nx5 Z p a k n w 12 = k ∧ nx5 Z p a k n w 13 = n ∧ nx5 Z p a k n w 14 = w := fun p a k n w => ⟨rfl, rfl, rfl, rfl, rfl⟩
  unfold nxA
  split
  · have e := v a a 0 0 0
    omega
  · split
    · split
      · have e := v (a + 1) a 3 0 0
        omega
      · have e := v (a + 1) a 4 0 0
        omega
    · next c1 c2 =>
      have r := tkR_rg (L := Z 8) (t := t) (a := a) (by omega) c2
      obtain ⟨⟨r1, r2, r3⟩, r4⟩ := r
      have hw : -1 ≤ (tkR (Z 8) t a).2.1 ∧ (tkR (Z 8) t a).2.1 < 72057594037927936 := by
        have : p256 ((tkR (Z 8) t a).1 - a) ≤ 72057594037927936 := by unfold p256; (repeat' split) <;> decide
        omega
      split
      · have e := v (tkR (Z 8) t a).1 a 4 (tkR (Z 8) t a).2.2 (tkR (Z 8) t a).2.1
        omega
      · have e := v (tkR (Z 8) t a).1 a (kd (Z 8) t a) (tkR (Z 8) t a).2.2 (tkR (Z 8) t a).2.1
        omega

set_option maxHeartbeats 4000000 in
set_option maxRecDepth 20000 in
theorem kX9_kindAt (g : Gt) {h : AH} {b : Nat} {S : Nat → Int → Int} {i : Int} (hM : RM h b S) (hL : 0 ≤ S 0 8 ∧ S 0 8 ≤ 150) (hT : ∀ j, 0 ≤ j → j < S 0 8 → 0 ≤ S 7 j ∧ S 7 j ≤ 127) (hi : 0 ≤ i ∧ i ≤ 150) : CnI g mX9_kindAt 2 [.ref b, .int (iI i)] h (kd (S 0 8) (S 7) i) := by
  refine Cn.mk (by decide +kernel) (Nat.le_of_ble_eq_true rfl) ?_
  intro x sz hx hr
  show Zj g x (sz, 0, 0) h 0 [(0, .ref b), (1, .int (iI i))] []
  obtain ⟨m0, m1, m2, m3, m4, m5, m6, m7, m8⟩ := hM
  refine z_iload_n hx dX9_kindAt_0 rfl 1 rfl ?_
  refine z_aload_n hx dX9_kindAt_1 rfl 0 rfl ?_
  refine z_get hx dX9_kindAt_2 fl_X9_73 m0 rfl ?_
  refine z_icmp_ge (tgt := 17) hx dX9_kindAt_5 (by decide) (by omega) (by omega) (fun c_1 => ?_) (fun c_1 => ?_)
  ·
    refine z_iconst hx dX9_kindAt_17 ?_
    refine z_istore_n hx dX9_kindAt_18 rfl (by decide) [1, 2, 0] (lv' := [(0, .ref b), (1, .int (iI i)), (2, .int (iI 0))]) rfl ?_
    refine z_iload_n hx dX9_kindAt_19 rfl 2 rfl ?_
    refine z_bipush hx dX9_kindAt_20 (by decide) ?_
    refine z_bipush hx dX9_kindAt_22 (by decide) ?_
    refine z_cSI (as := [.int (iI 0), .int (iI 97), .int (iI 122)]) (rest := []) hx dX9_kindAt_24 lk_X9_43 wt_X9_in mo_X9_in (kX9_in g (a := 0) (b := 97) (c := 122) (by omega) (by omega) (by omega)) (by decide) rfl rfl (Nat.le_of_ble_eq_true rfl) ?_
    refine z_ifeq_b (tgt := 34) hx dX9_kindAt_27 (by decide)  (fun c_2 => ?_) (fun c_2 => ?_)
    ·
      refine z_iload_n hx dX9_kindAt_34 rfl 2 rfl ?_
      refine z_bipush hx dX9_kindAt_35 (by decide) ?_
      refine z_bipush hx dX9_kindAt_37 (by decide) ?_
      refine z_cSI (as := [.int (iI 0), .int (iI 48), .int (iI 57)]) (rest := []) hx dX9_kindAt_39 lk_X9_43 wt_X9_in mo_X9_in (kX9_in g (a := 0) (b := 48) (c := 57) (by omega) (by omega) (by omega)) (by decide) rfl rfl (Nat.le_of_ble_eq_true rfl) ?_
      refine z_ifeq_b (tgt := 49) hx dX9_kindAt_42 (by decide)  (fun c_3 => ?_) (fun c_3 => ?_)
      ·
        refine z_iconst hx dX9_kindAt_49 ?_
        refine z_iret hx hr dX9_kindAt_50 rfl rfl (q_i (by unfold kd; (repeat (first | rw [if_pos (by omega)] | rw [if_neg (by omega)])); first | done | rfl | (exfalso; omega)))
      ·
        refine z_iconst hx dX9_kindAt_45 ?_
        refine z_goto (tgt := 50) hx dX9_kindAt_46 (by decide) ?_
        refine z_iret hx hr dX9_kindAt_50 rfl rfl (q_i (by unfold kd; (repeat (first | rw [if_pos (by omega)] | rw [if_neg (by omega)])); first | done | rfl | (exfalso; omega)))
    ·
      refine z_iconst hx dX9_kindAt_30 ?_
      refine z_goto (tgt := 50) hx dX9_kindAt_31 (by decide) ?_
      refine z_iret hx hr dX9_kindAt_50 rfl rfl (q_i (by unfold kd; (repeat (first | rw [if_pos (by omega)] | rw [if_neg (by omega)])); first | done | rfl | (exfalso; omega)))
  ·
    refine z_aload_n hx dX9_kindAt_8 rfl 0 rfl ?_
    refine z_get hx dX9_kindAt_9 fl_X9_33 m0 rfl ?_
    refine z_iload_n hx dX9_kindAt_12 rfl 1 rfl ?_
    have hti := hT i (by omega) (by omega)
    refine z_iald hx dX9_kindAt_13 m7 (by omega) (by decide) ?_
    refine z_goto (tgt := 18) hx dX9_kindAt_14 (by decide) ?_
    refine z_istore_n hx dX9_kindAt_18 rfl (by decide) [1, 2, 0] (lv' := [(0, .ref b), (1, .int (iI i)), (2, .int (iI (S 7 i)))]) rfl ?_
    refine z_iload_n hx dX9_kindAt_19 rfl 2 rfl ?_
    refine z_bipush hx dX9_kindAt_20 (by decide) ?_
    refine z_bipush hx dX9_kindAt_22 (by decide) ?_
    refine z_cSI (as := [.int (iI (S 7 i)), .int (iI 97), .int (iI 122)]) (rest := []) hx dX9_kindAt_24 lk_X9_43 wt_X9_in mo_X9_in (kX9_in g (a := (S 7 i)) (b := 97) (c := 122) (by omega) (by omega) (by omega)) (by decide) rfl rfl (Nat.le_of_ble_eq_true rfl) ?_
    refine z_ifeq_b (tgt := 34) hx dX9_kindAt_27 (by decide)  (fun c_4 => ?_) (fun c_4 => ?_)
    ·
      refine z_iload_n hx dX9_kindAt_34 rfl 2 rfl ?_
      refine z_bipush hx dX9_kindAt_35 (by decide) ?_
      refine z_bipush hx dX9_kindAt_37 (by decide) ?_
      refine z_cSI (as := [.int (iI (S 7 i)), .int (iI 48), .int (iI 57)]) (rest := []) hx dX9_kindAt_39 lk_X9_43 wt_X9_in mo_X9_in (kX9_in g (a := (S 7 i)) (b := 48) (c := 57) (by omega) (by omega) (by omega)) (by decide) rfl rfl (Nat.le_of_ble_eq_true rfl) ?_
      refine z_ifeq_b (tgt := 49) hx dX9_kindAt_42 (by decide)  (fun c_5 => ?_) (fun c_5 => ?_)
      ·
        refine z_iconst hx dX9_kindAt_49 ?_
        refine z_iret hx hr dX9_kindAt_50 rfl rfl (q_i (by unfold kd; (repeat (first | rw [if_pos (by omega)] | rw [if_neg (by omega)])); first | done | rfl | (exfalso; omega)))
      ·
        refine z_iconst hx dX9_kindAt_45 ?_
        refine z_goto (tgt := 50) hx dX9_kindAt_46 (by decide) ?_
        refine z_iret hx hr dX9_kindAt_50 rfl rfl (q_i (by unfold kd; (repeat (first | rw [if_pos (by omega)] | rw [if_neg (by omega)])); first | done | rfl | (exfalso; omega)))
    ·
      refine z_iconst hx dX9_kindAt_30 ?_
      refine z_goto (tgt := 50) hx dX9_kindAt_31 (by decide) ?_
      refine z_iret hx hr dX9_kindAt_50 rfl rfl (q_i (by unfold kd; (repeat (first | rw [if_pos (by omega)] | rw [if_neg (by omega)])); first | done | rfl | (exfalso; omega)))

set_option maxHeartbeats 4000000 in
set_option maxRecDepth 20000 in
theorem kX9_nextToken (g : Gt) {h : AH} {b : Nat} {S : Nat → Int → Int} (hM : RM h b S) (hL : 0 ≤ S 0 8 ∧ S 0 8 ≤ 150) (hT : ∀ j, 0 ≤ j → j < S 0 8 → 0 ≤ S 7 j ∧ S 7 j ≤ 127) (hP : 0 ≤ S 0 10 ∧ S 0 10 ≤ S 0 8) : CnV g mX9_nextToken 3 [.ref b] h (QM h b (sst S 0 (nxZ (S 0) (S 7)))) := by
  refine Cn.mk (by decide +kernel) (Nat.le_of_ble_eq_true rfl) ?_
  intro x sz hx hr
  show Zj g x (sz, 0, 0) h 0 [(0, .ref b)] []
  obtain ⟨m0, m1, m2, m3, m4, m5, m6, m7, m8⟩ := hM
  have hL_1 : ∀ (mm : Nat) (q : Int) (h_2 : AH), (0 ≤ q ∧ q ≤ S 0 8) → (skN (S 0 8) (S 7) (S 0 8 - q).toNat q = skp (S 0 8) (S 7) (S 0 10)) → (h_2 b = some (.inr (.inr (7, [.ref (b + 1), .ref (b + 2), .ref (b + 3), .ref (b + 4), .ref (b + 5), .ref (b + 6), .long (lI (S 0 6)), .long (lI (S 0 7)), .int (iI (S 0 8)), .ref (b + 7), .int (iI q), .int (iI (S 0 11)), .int (iI (S 0 12)), .int (iI (S 0 13)), .long (lI (S 0 14)), .int (iI (S 0 15)), .ref (b + 8)])))) → (h_2 (b + 1) = some (.inl (0, 267, S 1))) → (h_2 (b + 2) = some (.inl (0, 267, S 2))) → (h_2 (b + 3) = some (.inl (0, 267, S 3))) → (h_2 (b + 4) = some (.inl (0, 534, S 4))) → (h_2 (b + 5) = some (.inl (2, 2, S 5))) → (h_2 (b + 6) = some (.inl (0, 3, S 6))) → (h_2 (b + 7) = some (.inl (0, 150, S 7))) → (h_2 (b + 8) = some (.inl (0, 4, S 8))) → (Fr h h_2 b 9) → S 0 8 - q < (mm : Int) → Zj g x (sz, 0, 0) h_2 0 [(0, .ref b)] [] := by
    intro mm
    induction mm with
    | zero => intro q h_2 kq eq hk_3 hk_4 hk_5 hk_6 hk_7 hk_8 hk_9 hk_10 hk_11 fr_12 hm; exfalso; omega
    | succ mm ih =>
      intro q h_2 kq eq hk_3 hk_4 hk_5 hk_6 hk_7 hk_8 hk_9 hk_10 hk_11 fr_12 hm
      have ih_13 := ih; clear ih
      refine z_aload_n hx dX9_nextToken_0 rfl 0 rfl ?_
      refine z_get hx dX9_nextToken_1 fl_X9_77 hk_3 rfl ?_
      refine z_aload_n hx dX9_nextToken_4 rfl 0 rfl ?_
      refine z_get hx dX9_nextToken_5 fl_X9_73 hk_3 rfl ?_
      refine z_icmp_ge (tgt := 38) hx dX9_nextToken_8 (by decide) (by omega) (by omega) (fun c_14 => ?_) (fun c_14 => ?_)
      ·
        have ea : skp (S 0 8) (S 7) (S 0 10) = q := by rw [← eq]; exact skN_e _ (by omega)
        refine z_aload_n hx dX9_nextToken_38 rfl 0 rfl ?_
        refine z_aload_n hx dX9_nextToken_39 rfl 0 rfl ?_
        refine z_get hx dX9_nextToken_40 fl_X9_77 hk_3 rfl ?_
        refine z_putQ hx dX9_nextToken_43 fl_X9_80 hk_3 ⟨rfl, rfl⟩ (Nat.le_of_ble_eq_true rfl) (fun h_15 hs_16 hf_17 => ?_)
        have h_18 := hf_17.at (by omega) hk_4
        have h_19 := hf_17.at (by omega) hk_5
        have h_20 := hf_17.at (by omega) hk_6
        have h_21 := hf_17.at (by omega) hk_7
        have h_22 := hf_17.at (by omega) hk_8
        have h_23 := hf_17.at (by omega) hk_9
        have h_24 := hf_17.at (by omega) hk_10
        have h_25 := hf_17.at (by omega) hk_11
        have fr_26 := fr_12.tr (hf_17.wd (by omega) (by omega))
        refine z_aload_n hx dX9_nextToken_46 rfl 0 rfl ?_
        refine z_lconst (a := 0) hx dX9_nextToken_47 (by decide) ?_
        refine z_putQ hx dX9_nextToken_48 fl_X9_83 hs_16 ⟨rfl, rfl⟩ (Nat.le_of_ble_eq_true rfl) (fun h_27 hs_28 hf_29 => ?_)
        have h_30 := hf_29.at (by omega) h_18
        have h_31 := hf_29.at (by omega) h_19
        have h_32 := hf_29.at (by omega) h_20
        have h_33 := hf_29.at (by omega) h_21
        have h_34 := hf_29.at (by omega) h_22
        have h_35 := hf_29.at (by omega) h_23
        have h_36 := hf_29.at (by omega) h_24
        have h_37 := hf_29.at (by omega) h_25
        have fr_38 := fr_26.tr (hf_29.wd (by omega) (by omega))
        refine z_aload_n hx dX9_nextToken_51 rfl 0 rfl ?_
        refine z_iconst hx dX9_nextToken_52 ?_
        refine z_putQ hx dX9_nextToken_53 fl_X9_86 hs_28 ⟨rfl, rfl⟩ (Nat.le_of_ble_eq_true rfl) (fun h_39 hs_40 hf_41 => ?_)
        have h_42 := hf_41.at (by omega) h_30
        have h_43 := hf_41.at (by omega) h_31
        have h_44 := hf_41.at (by omega) h_32
        have h_45 := hf_41.at (by omega) h_33
        have h_46 := hf_41.at (by omega) h_34
        have h_47 := hf_41.at (by omega) h_35
        have h_48 := hf_41.at (by omega) h_36
        have h_49 := hf_41.at (by omega) h_37
        have fr_50 := fr_38.tr (hf_41.wd (by omega) (by omega))
        refine z_aload_n hx dX9_nextToken_56 rfl 0 rfl ?_
        refine z_get hx dX9_nextToken_57 fl_X9_77 hs_40 rfl ?_
        refine z_aload_n hx dX9_nextToken_60 rfl 0 rfl ?_
        refine z_get hx dX9_nextToken_61 fl_X9_73 hs_40 rfl ?_
        refine z_icmp_ne (tgt := 73) hx dX9_nextToken_64 (by decide) (by omega) (by omega) (fun c_51 => ?_) (fun c_51 => ?_)
        ·
          have htq2 := hT q (by omega) (by omega)
          refine z_aload_n hx dX9_nextToken_73 rfl 0 rfl ?_
          refine z_aload_n hx dX9_nextToken_74 rfl 0 rfl ?_
          refine z_aload_n hx dX9_nextToken_75 rfl 0 rfl ?_
          refine z_get hx dX9_nextToken_76 fl_X9_77 hs_40 rfl ?_
          refine z_cVI (as := [.int (iI q)]) (rest := [.ref b]) hx dX9_nextToken_79 lk_X9_92 wm_X9_kindAt wv_X9_kindAt (rcv_obj hx hs_40 rfl) mo_X9_kindAt (kX9_kindAt g (S := (sst S 0 (fup (fup (fup (fup (S 0) 10 q) 11 q) 13 0) 14 0))) (i := q) ⟨hs_40, h_42, h_43, h_44, h_45, h_46, h_47, h_48, h_49⟩ (show _ by exact hL) (show _ by exact hT) (by omega)) (by decide) rfl rfl (Nat.le_of_ble_eq_true rfl) ?_
          show Zj g x (sz, 0, 0) h_39 82 [(0, .ref b)] [.int (iI (kd (S 0 8) (S 7) q)), .ref b]
          have f_52 := kd_rg (S 0 8) (S 7) q
          refine z_putQ hx dX9_nextToken_82 fl_X9_89 hs_40 ⟨rfl, rfl⟩ (Nat.le_of_ble_eq_true rfl) (fun h_53 hs_54 hf_55 => ?_)
          have h_56 := hf_55.at (by omega) h_42
          have h_57 := hf_55.at (by omega) h_43
          have h_58 := hf_55.at (by omega) h_44
          have h_59 := hf_55.at (by omega) h_45
          have h_60 := hf_55.at (by omega) h_46
          have h_61 := hf_55.at (by omega) h_47
          have h_62 := hf_55.at (by omega) h_48
          have h_63 := hf_55.at (by omega) h_49
          have fr_64 := fr_50.tr (hf_55.wd (by omega) (by omega))
          refine z_aload_n hx dX9_nextToken_85 rfl 0 rfl ?_
          refine z_get hx dX9_nextToken_86 fl_X9_89 hs_54 rfl ?_
          refine z_if_ne (tgt := 126) hx dX9_nextToken_89 (by decide) (by omega) (fun c_65 => ?_) (fun c_65 => ?_)
          ·
            have hL_66 : ∀ (mm : Nat) (p : Int) (w : Int) (n : Int) (h_67 : AH), (q ≤ p ∧ p ≤ S 0 8) → (tkN (S 0 8) (S 7) q (kd (S 0 8) (S 7) q) (S 0 8 - p).toNat (p, w, n) = tkR (S 0 8) (S 7) q) → (h_67 b = some (.inr (.inr (7, [.ref (b + 1), .ref (b + 2), .ref (b + 3), .ref (b + 4), .ref (b + 5), .ref (b + 6), .long (lI (S 0 6)), .long (lI (S 0 7)), .int (iI (S 0 8)), .ref (b + 7), .int (iI p), .int (iI q), .int (iI (kd (S 0 8) (S 7) q)), .int (iI n), .long (lI w), .int (iI (S 0 15)), .ref (b + 8)])))) → (h_67 (b + 1) = some (.inl (0, 267, S 1))) → (h_67 (b + 2) = some (.inl (0, 267, S 2))) → (h_67 (b + 3) = some (.inl (0, 267, S 3))) → (h_67 (b + 4) = some (.inl (0, 534, S 4))) → (h_67 (b + 5) = some (.inl (2, 2, S 5))) → (h_67 (b + 6) = some (.inl (0, 3, S 6))) → (h_67 (b + 7) = some (.inl (0, 150, S 7))) → (h_67 (b + 8) = some (.inl (0, 4, S 8))) → (Fr h h_67 b 9) → S 0 8 - p < (mm : Int) → Zj g x (sz, 0, 0) h_67 126 [(0, .ref b)] [] := by
              intro mm
              induction mm with
              | zero => intro p w n h_67 kp ep hk_68 hk_69 hk_70 hk_71 hk_72 hk_73 hk_74 hk_75 hk_76 fr_77 hm; exfalso; omega
              | succ mm ih =>
                intro p w n h_67 kp ep hk_68 hk_69 hk_70 hk_71 hk_72 hk_73 hk_74 hk_75 hk_76 fr_77 hm
                have ih_78 := ih; clear ih
                have hkp := kd_rg (S 0 8) (S 7) p
                have htp : p < S 0 8 → 0 ≤ S 7 p ∧ S 7 p ≤ 127 := fun z => hT p (by omega) z
                refine z_aload_n hx dX9_nextToken_126 rfl 0 rfl ?_
                refine z_aload_n hx dX9_nextToken_127 rfl 0 rfl ?_
                refine z_get hx dX9_nextToken_128 fl_X9_77 hk_68 rfl ?_
                refine z_cVI (as := [.int (iI p)]) (rest := []) hx dX9_nextToken_131 lk_X9_92 wm_X9_kindAt wv_X9_kindAt (rcv_obj hx hk_68 rfl) mo_X9_kindAt (kX9_kindAt g (S := (sst S 0 (fup (fup (fup (fup (fup (S 0) 10 p) 11 q) 12 (kd (S 0 8) (S 7) q)) 13 n) 14 w))) (i := p) ⟨hk_68, hk_69, hk_70, hk_71, hk_72, hk_73, hk_74, hk_75, hk_76⟩ (show _ by exact hL) (show _ by exact hT) (by omega)) (by decide) rfl rfl (Nat.le_of_ble_eq_true rfl) ?_
                show Zj g x (sz, 0, 0) h_67 134 [(0, .ref b)] [.int (iI (kd (S 0 8) (S 7) p))]
                have f_79 := kd_rg (S 0 8) (S 7) p
                refine z_aload_n hx dX9_nextToken_134 rfl 0 rfl ?_
                refine z_get hx dX9_nextToken_135 fl_X9_89 hk_68 rfl ?_
                refine z_icmp_ne (tgt := 235) hx dX9_nextToken_138 (by decide) (by omega) (by omega) (fun c_80 => ?_) (fun c_80 => ?_)
                ·
                  have eR : tkR (S 0 8) (S 7) q = (p, w, n) := by rw [← ep]; exact tkN_e _ (by omega)
                  refine z_aload_n hx dX9_nextToken_235 rfl 0 rfl ?_
                  refine z_aload_n hx dX9_nextToken_236 rfl 0 rfl ?_
                  refine z_get hx dX9_nextToken_237 fl_X9_89 hk_68 rfl ?_
                  refine z_iconst hx dX9_nextToken_240 ?_
                  refine z_icmp_ne (tgt := 261) hx dX9_nextToken_241 (by decide) (by omega) (by decide) (fun c_81 => ?_) (fun c_81 => ?_)
                  ·
                    refine z_aload_n hx dX9_nextToken_261 rfl 0 rfl ?_
                    refine z_get hx dX9_nextToken_262 fl_X9_89 hk_68 rfl ?_
                    refine z_putQ hx dX9_nextToken_265 fl_X9_89 hk_68 ⟨rfl, rfl⟩ (Nat.le_of_ble_eq_true rfl) (fun h_82 hs_83 hf_84 => ?_)
                    have h_85 := hf_84.at (by omega) hk_69
                    have h_86 := hf_84.at (by omega) hk_70
                    have h_87 := hf_84.at (by omega) hk_71
                    have h_88 := hf_84.at (by omega) hk_72
                    have h_89 := hf_84.at (by omega) hk_73
                    have h_90 := hf_84.at (by omega) hk_74
                    have h_91 := hf_84.at (by omega) hk_75
                    have h_92 := hf_84.at (by omega) hk_76
                    have fr_93 := fr_77.tr (hf_84.wd (by omega) (by omega))
                    refine z_vret hx hr dX9_nextToken_268 rfl (q_v (by first | (unfold nxZ; show QM h b (sst S 0 (nxA (S 0 8) (S 7) (skp (S 0 8) (S 7) (S 0 10)) (S 0))) _; rw [ea]; unfold nxA; (repeat (first | rw [if_pos (by omega)] | rw [if_neg (by omega)])); (try rw [eR]); (try dsimp only); (repeat (first | rw [if_pos (by omega)] | rw [if_neg (by omega)])); exact ⟨⟨hs_83, h_85, h_86, h_87, h_88, h_89, h_90, h_91, h_92⟩, fr_93⟩) | (exfalso; omega)))
                  ·
                    refine z_aload_n hx dX9_nextToken_244 rfl 0 rfl ?_
                    refine z_get hx dX9_nextToken_245 fl_X9_77 hk_68 rfl ?_
                    refine z_aload_n hx dX9_nextToken_248 rfl 0 rfl ?_
                    refine z_get hx dX9_nextToken_249 fl_X9_80 hk_68 rfl ?_
                    refine z_isub hx dX9_nextToken_252 ?_
                    refine z_iconst hx dX9_nextToken_253 ?_
                    refine z_icmp_le (tgt := 261) hx dX9_nextToken_254 (by decide) (by omega) (by decide) (fun c_94 => ?_) (fun c_94 => ?_)
                    ·
                      refine z_aload_n hx dX9_nextToken_261 rfl 0 rfl ?_
                      refine z_get hx dX9_nextToken_262 fl_X9_89 hk_68 rfl ?_
                      refine z_putQ hx dX9_nextToken_265 fl_X9_89 hk_68 ⟨rfl, rfl⟩ (Nat.le_of_ble_eq_true rfl) (fun h_95 hs_96 hf_97 => ?_)
                      have h_98 := hf_97.at (by omega) hk_69
                      have h_99 := hf_97.at (by omega) hk_70
                      have h_100 := hf_97.at (by omega) hk_71
                      have h_101 := hf_97.at (by omega) hk_72
                      have h_102 := hf_97.at (by omega) hk_73
                      have h_103 := hf_97.at (by omega) hk_74
                      have h_104 := hf_97.at (by omega) hk_75
                      have h_105 := hf_97.at (by omega) hk_76
                      have fr_106 := fr_77.tr (hf_97.wd (by omega) (by omega))
                      refine z_vret hx hr dX9_nextToken_268 rfl (q_v (by first | (unfold nxZ; show QM h b (sst S 0 (nxA (S 0 8) (S 7) (skp (S 0 8) (S 7) (S 0 10)) (S 0))) _; rw [ea]; unfold nxA; (repeat (first | rw [if_pos (by omega)] | rw [if_neg (by omega)])); (try rw [eR]); (try dsimp only); (repeat (first | rw [if_pos (by omega)] | rw [if_neg (by omega)])); exact ⟨⟨hs_96, h_98, h_99, h_100, h_101, h_102, h_103, h_104, h_105⟩, fr_106⟩) | (exfalso; omega)))
                    ·
                      refine z_iconst hx dX9_nextToken_257 ?_
                      refine z_goto (tgt := 265) hx dX9_nextToken_258 (by decide) ?_
                      refine z_putQ hx dX9_nextToken_265 fl_X9_89 hk_68 ⟨rfl, rfl⟩ (Nat.le_of_ble_eq_true rfl) (fun h_107 hs_108 hf_109 => ?_)
                      have h_110 := hf_109.at (by omega) hk_69
                      have h_111 := hf_109.at (by omega) hk_70
                      have h_112 := hf_109.at (by omega) hk_71
                      have h_113 := hf_109.at (by omega) hk_72
                      have h_114 := hf_109.at (by omega) hk_73
                      have h_115 := hf_109.at (by omega) hk_74
                      have h_116 := hf_109.at (by omega) hk_75
                      have h_117 := hf_109.at (by omega) hk_76
                      have fr_118 := fr_77.tr (hf_109.wd (by omega) (by omega))
                      refine z_vret hx hr dX9_nextToken_268 rfl (q_v (by first | (unfold nxZ; show QM h b (sst S 0 (nxA (S 0 8) (S 7) (skp (S 0 8) (S 7) (S 0 10)) (S 0))) _; rw [ea]; unfold nxA; (repeat (first | rw [if_pos (by omega)] | rw [if_neg (by omega)])); (try rw [eR]); (try dsimp only); (repeat (first | rw [if_pos (by omega)] | rw [if_neg (by omega)])); exact ⟨⟨hs_108, h_110, h_111, h_112, h_113, h_114, h_115, h_116, h_117⟩, fr_118⟩) | (exfalso; omega)))
                ·
                  refine z_aload_n hx dX9_nextToken_141 rfl 0 rfl ?_
                  refine z_get hx dX9_nextToken_142 fl_X9_77 hk_68 rfl ?_
                  refine z_aload_n hx dX9_nextToken_145 rfl 0 rfl ?_
                  refine z_get hx dX9_nextToken_146 fl_X9_80 hk_68 rfl ?_
                  refine z_isub hx dX9_nextToken_149 ?_
                  refine z_istore_n hx dX9_nextToken_150 rfl (by decide) [1, 0] (lv' := [(0, .ref b), (1, .int (iI (p - q)))]) rfl ?_
                  refine z_aload_n hx dX9_nextToken_151 rfl 0 rfl ?_
                  refine z_iload_n hx dX9_nextToken_152 rfl 1 rfl ?_
                  refine z_bipush hx dX9_nextToken_153 (by decide) ?_
                  refine z_icmp_ge (tgt := 180) hx dX9_nextToken_155 (by decide) (by omega) (by decide) (fun c_119 => ?_) (fun c_119 => ?_)
                  ·
                    refine z_ldc2 (a := (-1)) hx dX9_nextToken_180 wq_X9_97 (by decide) ?_
                    refine z_putQ hx dX9_nextToken_183 fl_X9_83 hk_68 ⟨rfl, rfl⟩ (Nat.le_of_ble_eq_true rfl) (fun h_120 hs_121 hf_122 => ?_)
                    have h_123 := hf_122.at (by omega) hk_69
                    have h_124 := hf_122.at (by omega) hk_70
                    have h_125 := hf_122.at (by omega) hk_71
                    have h_126 := hf_122.at (by omega) hk_72
                    have h_127 := hf_122.at (by omega) hk_73
                    have h_128 := hf_122.at (by omega) hk_74
                    have h_129 := hf_122.at (by omega) hk_75
                    have h_130 := hf_122.at (by omega) hk_76
                    have fr_131 := fr_77.tr (hf_122.wd (by omega) (by omega))
                    refine z_aload_n hx dX9_nextToken_186 rfl 0 rfl ?_
                    refine z_iload_n hx dX9_nextToken_187 rfl 1 rfl ?_
                    refine z_iconst hx dX9_nextToken_188 ?_
                    refine z_icmp_ge (tgt := 215) hx dX9_nextToken_189 (by decide) (by omega) (by decide) (fun c_132 => ?_) (fun c_132 => ?_)
                    ·
                      refine z_aload_n hx dX9_nextToken_215 rfl 0 rfl ?_
                      refine z_get hx dX9_nextToken_216 fl_X9_86 hs_121 rfl ?_
                      refine z_putQ hx dX9_nextToken_219 fl_X9_86 hs_121 ⟨rfl, rfl⟩ (Nat.le_of_ble_eq_true rfl) (fun h_133 hs_134 hf_135 => ?_)
                      have h_136 := hf_135.at (by omega) h_123
                      have h_137 := hf_135.at (by omega) h_124
                      have h_138 := hf_135.at (by omega) h_125
                      have h_139 := hf_135.at (by omega) h_126
                      have h_140 := hf_135.at (by omega) h_127
                      have h_141 := hf_135.at (by omega) h_128
                      have h_142 := hf_135.at (by omega) h_129
                      have h_143 := hf_135.at (by omega) h_130
                      have fr_144 := fr_131.tr (hf_135.wd (by omega) (by omega))
                      refine z_aload_n hx dX9_nextToken_222 rfl 0 rfl ?_
                      refine z_dup hx dX9_nextToken_223 rfl ?_
                      refine z_get hx dX9_nextToken_224 fl_X9_77 hs_134 rfl ?_
                      refine z_iconst hx dX9_nextToken_227 ?_
                      refine z_iadd hx dX9_nextToken_228 ?_
                      refine z_putQ hx dX9_nextToken_229 fl_X9_77 hs_134 ⟨rfl, rfl⟩ (Nat.le_of_ble_eq_true rfl) (fun h_145 hs_146 hf_147 => ?_)
                      have h_148 := hf_147.at (by omega) h_136
                      have h_149 := hf_147.at (by omega) h_137
                      have h_150 := hf_147.at (by omega) h_138
                      have h_151 := hf_147.at (by omega) h_139
                      have h_152 := hf_147.at (by omega) h_140
                      have h_153 := hf_147.at (by omega) h_141
                      have h_154 := hf_147.at (by omega) h_142
                      have h_155 := hf_147.at (by omega) h_143
                      have fr_156 := fr_144.tr (hf_147.wd (by omega) (by omega))
                      refine z_goto (tgt := 126) hx dX9_nextToken_232 (by decide) ?_
                      refine z_sub [0] (lv' := [(0, .ref b)]) rfl ?_
                      exact ih_78 (p + 1) (-1) n _ (by omega) (by first | (rw [← ep, tkN_s (p := p) (w := w) (n := n) (by omega) (by omega)]; (first | rw [if_pos (show p - q < 7 by omega)] | rw [if_neg (show ¬ p - q < 7 by omega)]); (first | rw [if_pos (show p - q < 2 by omega)] | rw [if_neg (show ¬ p - q < 2 by omega)]); done) | (exfalso; omega)) hs_146 h_148 h_149 h_150 h_151 h_152 h_153 h_154 h_155 fr_156 (by omega)
                    ·
                      refine z_bipush hx dX9_nextToken_192 (by decide) ?_
                      refine z_aload_n hx dX9_nextToken_194 rfl 0 rfl ?_
                      refine z_get hx dX9_nextToken_195 fl_X9_86 hs_121 rfl ?_
                      refine z_imul hx dX9_nextToken_198 ?_
                      refine z_aload_n hx dX9_nextToken_199 rfl 0 rfl ?_
                      refine z_get hx dX9_nextToken_200 fl_X9_33 hs_121 rfl ?_
                      refine z_aload_n hx dX9_nextToken_203 rfl 0 rfl ?_
                      refine z_get hx dX9_nextToken_204 fl_X9_77 hs_121 rfl ?_
                      refine z_iald hx dX9_nextToken_207 h_129 (by omega) (by decide) ?_
                      refine z_iadd hx dX9_nextToken_208 ?_
                      refine z_bipush hx dX9_nextToken_209 (by decide) ?_
                      refine z_isub hx dX9_nextToken_211 ?_
                      refine z_goto (tgt := 219) hx dX9_nextToken_212 (by decide) ?_
                      refine z_putQ hx dX9_nextToken_219 fl_X9_86 hs_121 ⟨rfl, rfl⟩ (Nat.le_of_ble_eq_true rfl) (fun h_157 hs_158 hf_159 => ?_)
                      have h_160 := hf_159.at (by omega) h_123
                      have h_161 := hf_159.at (by omega) h_124
                      have h_162 := hf_159.at (by omega) h_125
                      have h_163 := hf_159.at (by omega) h_126
                      have h_164 := hf_159.at (by omega) h_127
                      have h_165 := hf_159.at (by omega) h_128
                      have h_166 := hf_159.at (by omega) h_129
                      have h_167 := hf_159.at (by omega) h_130
                      have fr_168 := fr_131.tr (hf_159.wd (by omega) (by omega))
                      refine z_aload_n hx dX9_nextToken_222 rfl 0 rfl ?_
                      refine z_dup hx dX9_nextToken_223 rfl ?_
                      refine z_get hx dX9_nextToken_224 fl_X9_77 hs_158 rfl ?_
                      refine z_iconst hx dX9_nextToken_227 ?_
                      refine z_iadd hx dX9_nextToken_228 ?_
                      refine z_putQ hx dX9_nextToken_229 fl_X9_77 hs_158 ⟨rfl, rfl⟩ (Nat.le_of_ble_eq_true rfl) (fun h_169 hs_170 hf_171 => ?_)
                      have h_172 := hf_171.at (by omega) h_160
                      have h_173 := hf_171.at (by omega) h_161
                      have h_174 := hf_171.at (by omega) h_162
                      have h_175 := hf_171.at (by omega) h_163
                      have h_176 := hf_171.at (by omega) h_164
                      have h_177 := hf_171.at (by omega) h_165
                      have h_178 := hf_171.at (by omega) h_166
                      have h_179 := hf_171.at (by omega) h_167
                      have fr_180 := fr_168.tr (hf_171.wd (by omega) (by omega))
                      refine z_goto (tgt := 126) hx dX9_nextToken_232 (by decide) ?_
                      refine z_sub [0] (lv' := [(0, .ref b)]) rfl ?_
                      exact ih_78 (p + 1) (-1) (((10 * n) + (S 7 p)) - 48) _ (by omega) (by first | (rw [← ep, tkN_s (p := p) (w := w) (n := n) (by omega) (by omega)]; (first | rw [if_pos (show p - q < 7 by omega)] | rw [if_neg (show ¬ p - q < 7 by omega)]); (first | rw [if_pos (show p - q < 2 by omega)] | rw [if_neg (show ¬ p - q < 2 by omega)]); done) | (exfalso; omega)) hs_170 h_172 h_173 h_174 h_175 h_176 h_177 h_178 h_179 fr_180 (by omega)
                  ·
                    refine z_ldc2 (a := 256) hx dX9_nextToken_158 wq_X9_95 (by decide) ?_
                    refine z_aload_n hx dX9_nextToken_161 rfl 0 rfl ?_
                    refine z_get hx dX9_nextToken_162 fl_X9_83 hk_68 rfl ?_
                    refine z_lmul hx dX9_nextToken_165 ?_
                    refine z_aload_n hx dX9_nextToken_166 rfl 0 rfl ?_
                    refine z_get hx dX9_nextToken_167 fl_X9_33 hk_68 rfl ?_
                    refine z_aload_n hx dX9_nextToken_170 rfl 0 rfl ?_
                    refine z_get hx dX9_nextToken_171 fl_X9_77 hk_68 rfl ?_
                    refine z_iald hx dX9_nextToken_174 hk_75 (by omega) (by decide) ?_
                    refine z_i2l hx dX9_nextToken_175 (by omega) ?_
                    refine z_ladd hx dX9_nextToken_176 ?_
                    refine z_goto (tgt := 183) hx dX9_nextToken_177 (by decide) ?_
                    refine z_putQ hx dX9_nextToken_183 fl_X9_83 hk_68 ⟨rfl, rfl⟩ (Nat.le_of_ble_eq_true rfl) (fun h_181 hs_182 hf_183 => ?_)
                    have h_184 := hf_183.at (by omega) hk_69
                    have h_185 := hf_183.at (by omega) hk_70
                    have h_186 := hf_183.at (by omega) hk_71
                    have h_187 := hf_183.at (by omega) hk_72
                    have h_188 := hf_183.at (by omega) hk_73
                    have h_189 := hf_183.at (by omega) hk_74
                    have h_190 := hf_183.at (by omega) hk_75
                    have h_191 := hf_183.at (by omega) hk_76
                    have fr_192 := fr_77.tr (hf_183.wd (by omega) (by omega))
                    refine z_aload_n hx dX9_nextToken_186 rfl 0 rfl ?_
                    refine z_iload_n hx dX9_nextToken_187 rfl 1 rfl ?_
                    refine z_iconst hx dX9_nextToken_188 ?_
                    refine z_icmp_ge (tgt := 215) hx dX9_nextToken_189 (by decide) (by omega) (by decide) (fun c_193 => ?_) (fun c_193 => ?_)
                    ·
                      refine z_aload_n hx dX9_nextToken_215 rfl 0 rfl ?_
                      refine z_get hx dX9_nextToken_216 fl_X9_86 hs_182 rfl ?_
                      refine z_putQ hx dX9_nextToken_219 fl_X9_86 hs_182 ⟨rfl, rfl⟩ (Nat.le_of_ble_eq_true rfl) (fun h_194 hs_195 hf_196 => ?_)
                      have h_197 := hf_196.at (by omega) h_184
                      have h_198 := hf_196.at (by omega) h_185
                      have h_199 := hf_196.at (by omega) h_186
                      have h_200 := hf_196.at (by omega) h_187
                      have h_201 := hf_196.at (by omega) h_188
                      have h_202 := hf_196.at (by omega) h_189
                      have h_203 := hf_196.at (by omega) h_190
                      have h_204 := hf_196.at (by omega) h_191
                      have fr_205 := fr_192.tr (hf_196.wd (by omega) (by omega))
                      refine z_aload_n hx dX9_nextToken_222 rfl 0 rfl ?_
                      refine z_dup hx dX9_nextToken_223 rfl ?_
                      refine z_get hx dX9_nextToken_224 fl_X9_77 hs_195 rfl ?_
                      refine z_iconst hx dX9_nextToken_227 ?_
                      refine z_iadd hx dX9_nextToken_228 ?_
                      refine z_putQ hx dX9_nextToken_229 fl_X9_77 hs_195 ⟨rfl, rfl⟩ (Nat.le_of_ble_eq_true rfl) (fun h_206 hs_207 hf_208 => ?_)
                      have h_209 := hf_208.at (by omega) h_197
                      have h_210 := hf_208.at (by omega) h_198
                      have h_211 := hf_208.at (by omega) h_199
                      have h_212 := hf_208.at (by omega) h_200
                      have h_213 := hf_208.at (by omega) h_201
                      have h_214 := hf_208.at (by omega) h_202
                      have h_215 := hf_208.at (by omega) h_203
                      have h_216 := hf_208.at (by omega) h_204
                      have fr_217 := fr_205.tr (hf_208.wd (by omega) (by omega))
                      refine z_goto (tgt := 126) hx dX9_nextToken_232 (by decide) ?_
                      refine z_sub [0] (lv' := [(0, .ref b)]) rfl ?_
                      exact ih_78 (p + 1) ((256 * w) + (S 7 p)) n _ (by omega) (by first | (rw [← ep, tkN_s (p := p) (w := w) (n := n) (by omega) (by omega)]; (first | rw [if_pos (show p - q < 7 by omega)] | rw [if_neg (show ¬ p - q < 7 by omega)]); (first | rw [if_pos (show p - q < 2 by omega)] | rw [if_neg (show ¬ p - q < 2 by omega)]); done) | (exfalso; omega)) hs_207 h_209 h_210 h_211 h_212 h_213 h_214 h_215 h_216 fr_217 (by omega)
                    ·
                      refine z_bipush hx dX9_nextToken_192 (by decide) ?_
                      refine z_aload_n hx dX9_nextToken_194 rfl 0 rfl ?_
                      refine z_get hx dX9_nextToken_195 fl_X9_86 hs_182 rfl ?_
                      refine z_imul hx dX9_nextToken_198 ?_
                      refine z_aload_n hx dX9_nextToken_199 rfl 0 rfl ?_
                      refine z_get hx dX9_nextToken_200 fl_X9_33 hs_182 rfl ?_
                      refine z_aload_n hx dX9_nextToken_203 rfl 0 rfl ?_
                      refine z_get hx dX9_nextToken_204 fl_X9_77 hs_182 rfl ?_
                      refine z_iald hx dX9_nextToken_207 h_190 (by omega) (by decide) ?_
                      refine z_iadd hx dX9_nextToken_208 ?_
                      refine z_bipush hx dX9_nextToken_209 (by decide) ?_
                      refine z_isub hx dX9_nextToken_211 ?_
                      refine z_goto (tgt := 219) hx dX9_nextToken_212 (by decide) ?_
                      refine z_putQ hx dX9_nextToken_219 fl_X9_86 hs_182 ⟨rfl, rfl⟩ (Nat.le_of_ble_eq_true rfl) (fun h_218 hs_219 hf_220 => ?_)
                      have h_221 := hf_220.at (by omega) h_184
                      have h_222 := hf_220.at (by omega) h_185
                      have h_223 := hf_220.at (by omega) h_186
                      have h_224 := hf_220.at (by omega) h_187
                      have h_225 := hf_220.at (by omega) h_188
                      have h_226 := hf_220.at (by omega) h_189
                      have h_227 := hf_220.at (by omega) h_190
                      have h_228 := hf_220.at (by omega) h_191
                      have fr_229 := fr_192.tr (hf_220.wd (by omega) (by omega))
                      refine z_aload_n hx dX9_nextToken_222 rfl 0 rfl ?_
                      refine z_dup hx dX9_nextToken_223 rfl ?_
                      refine z_get hx dX9_nextToken_224 fl_X9_77 hs_219 rfl ?_
                      refine z_iconst hx dX9_nextToken_227 ?_
                      refine z_iadd hx dX9_nextToken_228 ?_
                      refine z_putQ hx dX9_nextToken_229 fl_X9_77 hs_219 ⟨rfl, rfl⟩ (Nat.le_of_ble_eq_true rfl) (fun h_230 hs_231 hf_232 => ?_)
                      have h_233 := hf_232.at (by omega) h_221
                      have h_234 := hf_232.at (by omega) h_222
                      have h_235 := hf_232.at (by omega) h_223
                      have h_236 := hf_232.at (by omega) h_224
                      have h_237 := hf_232.at (by omega) h_225
                      have h_238 := hf_232.at (by omega) h_226
                      have h_239 := hf_232.at (by omega) h_227
                      have h_240 := hf_232.at (by omega) h_228
                      have fr_241 := fr_229.tr (hf_232.wd (by omega) (by omega))
                      refine z_goto (tgt := 126) hx dX9_nextToken_232 (by decide) ?_
                      refine z_sub [0] (lv' := [(0, .ref b)]) rfl ?_
                      exact ih_78 (p + 1) ((256 * w) + (S 7 p)) (((10 * n) + (S 7 p)) - 48) _ (by omega) (by first | (rw [← ep, tkN_s (p := p) (w := w) (n := n) (by omega) (by omega)]; (first | rw [if_pos (show p - q < 7 by omega)] | rw [if_neg (show ¬ p - q < 7 by omega)]); (first | rw [if_pos (show p - q < 2 by omega)] | rw [if_neg (show ¬ p - q < 2 by omega)]); done) | (exfalso; omega)) hs_231 h_233 h_234 h_235 h_236 h_237 h_238 h_239 h_240 fr_241 (by omega)
            exact hL_66 ((S 0 8 - q) + 1 : Int).toNat q 0 0 _ (by omega) (by rfl) hs_54 h_56 h_57 h_58 h_59 h_60 h_61 h_62 h_63 fr_64 (by omega)
          ·
            refine z_aload_n hx dX9_nextToken_92 rfl 0 rfl ?_
            refine z_aload_n hx dX9_nextToken_93 rfl 0 rfl ?_
            refine z_get hx dX9_nextToken_94 fl_X9_33 hs_54 rfl ?_
            refine z_aload_n hx dX9_nextToken_97 rfl 0 rfl ?_
            refine z_get hx dX9_nextToken_98 fl_X9_77 hs_54 rfl ?_
            refine z_iald hx dX9_nextToken_101 h_62 (by omega) (by decide) ?_
            refine z_bipush hx dX9_nextToken_102 (by decide) ?_
            refine z_icmp_ne (tgt := 111) hx dX9_nextToken_104 (by decide) (by omega) (by decide) (fun c_242 => ?_) (fun c_242 => ?_)
            ·
              refine z_iconst hx dX9_nextToken_111 ?_
              refine z_putQ hx dX9_nextToken_112 fl_X9_89 hs_54 ⟨rfl, rfl⟩ (Nat.le_of_ble_eq_true rfl) (fun h_243 hs_244 hf_245 => ?_)
              have h_246 := hf_245.at (by omega) h_56
              have h_247 := hf_245.at (by omega) h_57
              have h_248 := hf_245.at (by omega) h_58
              have h_249 := hf_245.at (by omega) h_59
              have h_250 := hf_245.at (by omega) h_60
              have h_251 := hf_245.at (by omega) h_61
              have h_252 := hf_245.at (by omega) h_62
              have h_253 := hf_245.at (by omega) h_63
              have fr_254 := fr_64.tr (hf_245.wd (by omega) (by omega))
              refine z_aload_n hx dX9_nextToken_115 rfl 0 rfl ?_
              refine z_dup hx dX9_nextToken_116 rfl ?_
              refine z_get hx dX9_nextToken_117 fl_X9_77 hs_244 rfl ?_
              refine z_iconst hx dX9_nextToken_120 ?_
              refine z_iadd hx dX9_nextToken_121 ?_
              refine z_putQ hx dX9_nextToken_122 fl_X9_77 hs_244 ⟨rfl, rfl⟩ (Nat.le_of_ble_eq_true rfl) (fun h_255 hs_256 hf_257 => ?_)
              have h_258 := hf_257.at (by omega) h_246
              have h_259 := hf_257.at (by omega) h_247
              have h_260 := hf_257.at (by omega) h_248
              have h_261 := hf_257.at (by omega) h_249
              have h_262 := hf_257.at (by omega) h_250
              have h_263 := hf_257.at (by omega) h_251
              have h_264 := hf_257.at (by omega) h_252
              have h_265 := hf_257.at (by omega) h_253
              have fr_266 := fr_254.tr (hf_257.wd (by omega) (by omega))
              refine z_vret hx hr dX9_nextToken_125 rfl (q_v (by first | (unfold nxZ; show QM h b (sst S 0 (nxA (S 0 8) (S 7) (skp (S 0 8) (S 7) (S 0 10)) (S 0))) _; rw [ea]; unfold nxA; (repeat (first | rw [if_pos (by omega)] | rw [if_neg (by omega)])); (try rw [eR]); (try dsimp only); (repeat (first | rw [if_pos (by omega)] | rw [if_neg (by omega)])); exact ⟨⟨hs_256, h_258, h_259, h_260, h_261, h_262, h_263, h_264, h_265⟩, fr_266⟩) | (exfalso; omega)))
            ·
              refine z_iconst hx dX9_nextToken_107 ?_
              refine z_goto (tgt := 112) hx dX9_nextToken_108 (by decide) ?_
              refine z_putQ hx dX9_nextToken_112 fl_X9_89 hs_54 ⟨rfl, rfl⟩ (Nat.le_of_ble_eq_true rfl) (fun h_267 hs_268 hf_269 => ?_)
              have h_270 := hf_269.at (by omega) h_56
              have h_271 := hf_269.at (by omega) h_57
              have h_272 := hf_269.at (by omega) h_58
              have h_273 := hf_269.at (by omega) h_59
              have h_274 := hf_269.at (by omega) h_60
              have h_275 := hf_269.at (by omega) h_61
              have h_276 := hf_269.at (by omega) h_62
              have h_277 := hf_269.at (by omega) h_63
              have fr_278 := fr_64.tr (hf_269.wd (by omega) (by omega))
              refine z_aload_n hx dX9_nextToken_115 rfl 0 rfl ?_
              refine z_dup hx dX9_nextToken_116 rfl ?_
              refine z_get hx dX9_nextToken_117 fl_X9_77 hs_268 rfl ?_
              refine z_iconst hx dX9_nextToken_120 ?_
              refine z_iadd hx dX9_nextToken_121 ?_
              refine z_putQ hx dX9_nextToken_122 fl_X9_77 hs_268 ⟨rfl, rfl⟩ (Nat.le_of_ble_eq_true rfl) (fun h_279 hs_280 hf_281 => ?_)
              have h_282 := hf_281.at (by omega) h_270
              have h_283 := hf_281.at (by omega) h_271
              have h_284 := hf_281.at (by omega) h_272
              have h_285 := hf_281.at (by omega) h_273
              have h_286 := hf_281.at (by omega) h_274
              have h_287 := hf_281.at (by omega) h_275
              have h_288 := hf_281.at (by omega) h_276
              have h_289 := hf_281.at (by omega) h_277
              have fr_290 := fr_278.tr (hf_281.wd (by omega) (by omega))
              refine z_vret hx hr dX9_nextToken_125 rfl (q_v (by first | (unfold nxZ; show QM h b (sst S 0 (nxA (S 0 8) (S 7) (skp (S 0 8) (S 7) (S 0 10)) (S 0))) _; rw [ea]; unfold nxA; (repeat (first | rw [if_pos (by omega)] | rw [if_neg (by omega)])); (try rw [eR]); (try dsimp only); (repeat (first | rw [if_pos (by omega)] | rw [if_neg (by omega)])); exact ⟨⟨hs_280, h_282, h_283, h_284, h_285, h_286, h_287, h_288, h_289⟩, fr_290⟩) | (exfalso; omega)))
        ·
          refine z_aload_n hx dX9_nextToken_67 rfl 0 rfl ?_
          refine z_iconst hx dX9_nextToken_68 ?_
          refine z_putQ hx dX9_nextToken_69 fl_X9_89 hs_40 ⟨rfl, rfl⟩ (Nat.le_of_ble_eq_true rfl) (fun h_291 hs_292 hf_293 => ?_)
          have h_294 := hf_293.at (by omega) h_42
          have h_295 := hf_293.at (by omega) h_43
          have h_296 := hf_293.at (by omega) h_44
          have h_297 := hf_293.at (by omega) h_45
          have h_298 := hf_293.at (by omega) h_46
          have h_299 := hf_293.at (by omega) h_47
          have h_300 := hf_293.at (by omega) h_48
          have h_301 := hf_293.at (by omega) h_49
          have fr_302 := fr_50.tr (hf_293.wd (by omega) (by omega))
          refine z_vret hx hr dX9_nextToken_72 rfl (q_v (by first | (unfold nxZ; show QM h b (sst S 0 (nxA (S 0 8) (S 7) (skp (S 0 8) (S 7) (S 0 10)) (S 0))) _; rw [ea]; unfold nxA; (repeat (first | rw [if_pos (by omega)] | rw [if_neg (by omega)])); (try rw [eR]); (try dsimp only); (repeat (first | rw [if_pos (by omega)] | rw [if_neg (by omega)])); exact ⟨⟨hs_292, h_294, h_295, h_296, h_297, h_298, h_299, h_300, h_301⟩, fr_302⟩) | (exfalso; omega)))
      ·
        refine z_aload_n hx dX9_nextToken_11 rfl 0 rfl ?_
        refine z_get hx dX9_nextToken_12 fl_X9_33 hk_3 rfl ?_
        have htq := hT q (by omega) (by omega)
        refine z_aload_n hx dX9_nextToken_15 rfl 0 rfl ?_
        refine z_get hx dX9_nextToken_16 fl_X9_77 hk_3 rfl ?_
        refine z_iald hx dX9_nextToken_19 hk_10 (by omega) (by decide) ?_
        refine z_bipush hx dX9_nextToken_20 (by decide) ?_
        refine z_icmp_ne (tgt := 38) hx dX9_nextToken_22 (by decide) (by omega) (by decide) (fun c_303 => ?_) (fun c_303 => ?_)
        ·
          have ea : skp (S 0 8) (S 7) (S 0 10) = q := by rw [← eq]; exact skN_e _ (by omega)
          refine z_aload_n hx dX9_nextToken_38 rfl 0 rfl ?_
          refine z_aload_n hx dX9_nextToken_39 rfl 0 rfl ?_
          refine z_get hx dX9_nextToken_40 fl_X9_77 hk_3 rfl ?_
          refine z_putQ hx dX9_nextToken_43 fl_X9_80 hk_3 ⟨rfl, rfl⟩ (Nat.le_of_ble_eq_true rfl) (fun h_304 hs_305 hf_306 => ?_)
          have h_307 := hf_306.at (by omega) hk_4
          have h_308 := hf_306.at (by omega) hk_5
          have h_309 := hf_306.at (by omega) hk_6
          have h_310 := hf_306.at (by omega) hk_7
          have h_311 := hf_306.at (by omega) hk_8
          have h_312 := hf_306.at (by omega) hk_9
          have h_313 := hf_306.at (by omega) hk_10
          have h_314 := hf_306.at (by omega) hk_11
          have fr_315 := fr_12.tr (hf_306.wd (by omega) (by omega))
          refine z_aload_n hx dX9_nextToken_46 rfl 0 rfl ?_
          refine z_lconst (a := 0) hx dX9_nextToken_47 (by decide) ?_
          refine z_putQ hx dX9_nextToken_48 fl_X9_83 hs_305 ⟨rfl, rfl⟩ (Nat.le_of_ble_eq_true rfl) (fun h_316 hs_317 hf_318 => ?_)
          have h_319 := hf_318.at (by omega) h_307
          have h_320 := hf_318.at (by omega) h_308
          have h_321 := hf_318.at (by omega) h_309
          have h_322 := hf_318.at (by omega) h_310
          have h_323 := hf_318.at (by omega) h_311
          have h_324 := hf_318.at (by omega) h_312
          have h_325 := hf_318.at (by omega) h_313
          have h_326 := hf_318.at (by omega) h_314
          have fr_327 := fr_315.tr (hf_318.wd (by omega) (by omega))
          refine z_aload_n hx dX9_nextToken_51 rfl 0 rfl ?_
          refine z_iconst hx dX9_nextToken_52 ?_
          refine z_putQ hx dX9_nextToken_53 fl_X9_86 hs_317 ⟨rfl, rfl⟩ (Nat.le_of_ble_eq_true rfl) (fun h_328 hs_329 hf_330 => ?_)
          have h_331 := hf_330.at (by omega) h_319
          have h_332 := hf_330.at (by omega) h_320
          have h_333 := hf_330.at (by omega) h_321
          have h_334 := hf_330.at (by omega) h_322
          have h_335 := hf_330.at (by omega) h_323
          have h_336 := hf_330.at (by omega) h_324
          have h_337 := hf_330.at (by omega) h_325
          have h_338 := hf_330.at (by omega) h_326
          have fr_339 := fr_327.tr (hf_330.wd (by omega) (by omega))
          refine z_aload_n hx dX9_nextToken_56 rfl 0 rfl ?_
          refine z_get hx dX9_nextToken_57 fl_X9_77 hs_329 rfl ?_
          refine z_aload_n hx dX9_nextToken_60 rfl 0 rfl ?_
          refine z_get hx dX9_nextToken_61 fl_X9_73 hs_329 rfl ?_
          refine z_icmp_ne (tgt := 73) hx dX9_nextToken_64 (by decide) (by omega) (by omega) (fun c_340 => ?_) (fun c_340 => ?_)
          ·
            have htq2 := hT q (by omega) (by omega)
            refine z_aload_n hx dX9_nextToken_73 rfl 0 rfl ?_
            refine z_aload_n hx dX9_nextToken_74 rfl 0 rfl ?_
            refine z_aload_n hx dX9_nextToken_75 rfl 0 rfl ?_
            refine z_get hx dX9_nextToken_76 fl_X9_77 hs_329 rfl ?_
            refine z_cVI (as := [.int (iI q)]) (rest := [.ref b]) hx dX9_nextToken_79 lk_X9_92 wm_X9_kindAt wv_X9_kindAt (rcv_obj hx hs_329 rfl) mo_X9_kindAt (kX9_kindAt g (S := (sst S 0 (fup (fup (fup (fup (S 0) 10 q) 11 q) 13 0) 14 0))) (i := q) ⟨hs_329, h_331, h_332, h_333, h_334, h_335, h_336, h_337, h_338⟩ (show _ by exact hL) (show _ by exact hT) (by omega)) (by decide) rfl rfl (Nat.le_of_ble_eq_true rfl) ?_
            show Zj g x (sz, 0, 0) h_328 82 [(0, .ref b)] [.int (iI (kd (S 0 8) (S 7) q)), .ref b]
            have f_341 := kd_rg (S 0 8) (S 7) q
            refine z_putQ hx dX9_nextToken_82 fl_X9_89 hs_329 ⟨rfl, rfl⟩ (Nat.le_of_ble_eq_true rfl) (fun h_342 hs_343 hf_344 => ?_)
            have h_345 := hf_344.at (by omega) h_331
            have h_346 := hf_344.at (by omega) h_332
            have h_347 := hf_344.at (by omega) h_333
            have h_348 := hf_344.at (by omega) h_334
            have h_349 := hf_344.at (by omega) h_335
            have h_350 := hf_344.at (by omega) h_336
            have h_351 := hf_344.at (by omega) h_337
            have h_352 := hf_344.at (by omega) h_338
            have fr_353 := fr_339.tr (hf_344.wd (by omega) (by omega))
            refine z_aload_n hx dX9_nextToken_85 rfl 0 rfl ?_
            refine z_get hx dX9_nextToken_86 fl_X9_89 hs_343 rfl ?_
            refine z_if_ne (tgt := 126) hx dX9_nextToken_89 (by decide) (by omega) (fun c_354 => ?_) (fun c_354 => ?_)
            ·
              have hL_355 : ∀ (mm : Nat) (p : Int) (w : Int) (n : Int) (h_356 : AH), (q ≤ p ∧ p ≤ S 0 8) → (tkN (S 0 8) (S 7) q (kd (S 0 8) (S 7) q) (S 0 8 - p).toNat (p, w, n) = tkR (S 0 8) (S 7) q) → (h_356 b = some (.inr (.inr (7, [.ref (b + 1), .ref (b + 2), .ref (b + 3), .ref (b + 4), .ref (b + 5), .ref (b + 6), .long (lI (S 0 6)), .long (lI (S 0 7)), .int (iI (S 0 8)), .ref (b + 7), .int (iI p), .int (iI q), .int (iI (kd (S 0 8) (S 7) q)), .int (iI n), .long (lI w), .int (iI (S 0 15)), .ref (b + 8)])))) → (h_356 (b + 1) = some (.inl (0, 267, S 1))) → (h_356 (b + 2) = some (.inl (0, 267, S 2))) → (h_356 (b + 3) = some (.inl (0, 267, S 3))) → (h_356 (b + 4) = some (.inl (0, 534, S 4))) → (h_356 (b + 5) = some (.inl (2, 2, S 5))) → (h_356 (b + 6) = some (.inl (0, 3, S 6))) → (h_356 (b + 7) = some (.inl (0, 150, S 7))) → (h_356 (b + 8) = some (.inl (0, 4, S 8))) → (Fr h h_356 b 9) → S 0 8 - p < (mm : Int) → Zj g x (sz, 0, 0) h_356 126 [(0, .ref b)] [] := by
                intro mm
                induction mm with
                | zero => intro p w n h_356 kp ep hk_357 hk_358 hk_359 hk_360 hk_361 hk_362 hk_363 hk_364 hk_365 fr_366 hm; exfalso; omega
                | succ mm ih =>
                  intro p w n h_356 kp ep hk_357 hk_358 hk_359 hk_360 hk_361 hk_362 hk_363 hk_364 hk_365 fr_366 hm
                  have ih_367 := ih; clear ih
                  have hkp := kd_rg (S 0 8) (S 7) p
                  have htp : p < S 0 8 → 0 ≤ S 7 p ∧ S 7 p ≤ 127 := fun z => hT p (by omega) z
                  refine z_aload_n hx dX9_nextToken_126 rfl 0 rfl ?_
                  refine z_aload_n hx dX9_nextToken_127 rfl 0 rfl ?_
                  refine z_get hx dX9_nextToken_128 fl_X9_77 hk_357 rfl ?_
                  refine z_cVI (as := [.int (iI p)]) (rest := []) hx dX9_nextToken_131 lk_X9_92 wm_X9_kindAt wv_X9_kindAt (rcv_obj hx hk_357 rfl) mo_X9_kindAt (kX9_kindAt g (S := (sst S 0 (fup (fup (fup (fup (fup (S 0) 10 p) 11 q) 12 (kd (S 0 8) (S 7) q)) 13 n) 14 w))) (i := p) ⟨hk_357, hk_358, hk_359, hk_360, hk_361, hk_362, hk_363, hk_364, hk_365⟩ (show _ by exact hL) (show _ by exact hT) (by omega)) (by decide) rfl rfl (Nat.le_of_ble_eq_true rfl) ?_
                  show Zj g x (sz, 0, 0) h_356 134 [(0, .ref b)] [.int (iI (kd (S 0 8) (S 7) p))]
                  have f_368 := kd_rg (S 0 8) (S 7) p
                  refine z_aload_n hx dX9_nextToken_134 rfl 0 rfl ?_
                  refine z_get hx dX9_nextToken_135 fl_X9_89 hk_357 rfl ?_
                  refine z_icmp_ne (tgt := 235) hx dX9_nextToken_138 (by decide) (by omega) (by omega) (fun c_369 => ?_) (fun c_369 => ?_)
                  ·
                    have eR : tkR (S 0 8) (S 7) q = (p, w, n) := by rw [← ep]; exact tkN_e _ (by omega)
                    refine z_aload_n hx dX9_nextToken_235 rfl 0 rfl ?_
                    refine z_aload_n hx dX9_nextToken_236 rfl 0 rfl ?_
                    refine z_get hx dX9_nextToken_237 fl_X9_89 hk_357 rfl ?_
                    refine z_iconst hx dX9_nextToken_240 ?_
                    refine z_icmp_ne (tgt := 261) hx dX9_nextToken_241 (by decide) (by omega) (by decide) (fun c_370 => ?_) (fun c_370 => ?_)
                    ·
                      refine z_aload_n hx dX9_nextToken_261 rfl 0 rfl ?_
                      refine z_get hx dX9_nextToken_262 fl_X9_89 hk_357 rfl ?_
                      refine z_putQ hx dX9_nextToken_265 fl_X9_89 hk_357 ⟨rfl, rfl⟩ (Nat.le_of_ble_eq_true rfl) (fun h_371 hs_372 hf_373 => ?_)
                      have h_374 := hf_373.at (by omega) hk_358
                      have h_375 := hf_373.at (by omega) hk_359
                      have h_376 := hf_373.at (by omega) hk_360
                      have h_377 := hf_373.at (by omega) hk_361
                      have h_378 := hf_373.at (by omega) hk_362
                      have h_379 := hf_373.at (by omega) hk_363
                      have h_380 := hf_373.at (by omega) hk_364
                      have h_381 := hf_373.at (by omega) hk_365
                      have fr_382 := fr_366.tr (hf_373.wd (by omega) (by omega))
                      refine z_vret hx hr dX9_nextToken_268 rfl (q_v (by first | (unfold nxZ; show QM h b (sst S 0 (nxA (S 0 8) (S 7) (skp (S 0 8) (S 7) (S 0 10)) (S 0))) _; rw [ea]; unfold nxA; (repeat (first | rw [if_pos (by omega)] | rw [if_neg (by omega)])); (try rw [eR]); (try dsimp only); (repeat (first | rw [if_pos (by omega)] | rw [if_neg (by omega)])); exact ⟨⟨hs_372, h_374, h_375, h_376, h_377, h_378, h_379, h_380, h_381⟩, fr_382⟩) | (exfalso; omega)))
                    ·
                      refine z_aload_n hx dX9_nextToken_244 rfl 0 rfl ?_
                      refine z_get hx dX9_nextToken_245 fl_X9_77 hk_357 rfl ?_
                      refine z_aload_n hx dX9_nextToken_248 rfl 0 rfl ?_
                      refine z_get hx dX9_nextToken_249 fl_X9_80 hk_357 rfl ?_
                      refine z_isub hx dX9_nextToken_252 ?_
                      refine z_iconst hx dX9_nextToken_253 ?_
                      refine z_icmp_le (tgt := 261) hx dX9_nextToken_254 (by decide) (by omega) (by decide) (fun c_383 => ?_) (fun c_383 => ?_)
                      ·
                        refine z_aload_n hx dX9_nextToken_261 rfl 0 rfl ?_
                        refine z_get hx dX9_nextToken_262 fl_X9_89 hk_357 rfl ?_
                        refine z_putQ hx dX9_nextToken_265 fl_X9_89 hk_357 ⟨rfl, rfl⟩ (Nat.le_of_ble_eq_true rfl) (fun h_384 hs_385 hf_386 => ?_)
                        have h_387 := hf_386.at (by omega) hk_358
                        have h_388 := hf_386.at (by omega) hk_359
                        have h_389 := hf_386.at (by omega) hk_360
                        have h_390 := hf_386.at (by omega) hk_361
                        have h_391 := hf_386.at (by omega) hk_362
                        have h_392 := hf_386.at (by omega) hk_363
                        have h_393 := hf_386.at (by omega) hk_364
                        have h_394 := hf_386.at (by omega) hk_365
                        have fr_395 := fr_366.tr (hf_386.wd (by omega) (by omega))
                        refine z_vret hx hr dX9_nextToken_268 rfl (q_v (by first | (unfold nxZ; show QM h b (sst S 0 (nxA (S 0 8) (S 7) (skp (S 0 8) (S 7) (S 0 10)) (S 0))) _; rw [ea]; unfold nxA; (repeat (first | rw [if_pos (by omega)] | rw [if_neg (by omega)])); (try rw [eR]); (try dsimp only); (repeat (first | rw [if_pos (by omega)] | rw [if_neg (by omega)])); exact ⟨⟨hs_385, h_387, h_388, h_389, h_390, h_391, h_392, h_393, h_394⟩, fr_395⟩) | (exfalso; omega)))
                      ·
                        refine z_iconst hx dX9_nextToken_257 ?_
                        refine z_goto (tgt := 265) hx dX9_nextToken_258 (by decide) ?_
                        refine z_putQ hx dX9_nextToken_265 fl_X9_89 hk_357 ⟨rfl, rfl⟩ (Nat.le_of_ble_eq_true rfl) (fun h_396 hs_397 hf_398 => ?_)
                        have h_399 := hf_398.at (by omega) hk_358
                        have h_400 := hf_398.at (by omega) hk_359
                        have h_401 := hf_398.at (by omega) hk_360
                        have h_402 := hf_398.at (by omega) hk_361
                        have h_403 := hf_398.at (by omega) hk_362
                        have h_404 := hf_398.at (by omega) hk_363
                        have h_405 := hf_398.at (by omega) hk_364
                        have h_406 := hf_398.at (by omega) hk_365
                        have fr_407 := fr_366.tr (hf_398.wd (by omega) (by omega))
                        refine z_vret hx hr dX9_nextToken_268 rfl (q_v (by first | (unfold nxZ; show QM h b (sst S 0 (nxA (S 0 8) (S 7) (skp (S 0 8) (S 7) (S 0 10)) (S 0))) _; rw [ea]; unfold nxA; (repeat (first | rw [if_pos (by omega)] | rw [if_neg (by omega)])); (try rw [eR]); (try dsimp only); (repeat (first | rw [if_pos (by omega)] | rw [if_neg (by omega)])); exact ⟨⟨hs_397, h_399, h_400, h_401, h_402, h_403, h_404, h_405, h_406⟩, fr_407⟩) | (exfalso; omega)))
                  ·
                    refine z_aload_n hx dX9_nextToken_141 rfl 0 rfl ?_
                    refine z_get hx dX9_nextToken_142 fl_X9_77 hk_357 rfl ?_
                    refine z_aload_n hx dX9_nextToken_145 rfl 0 rfl ?_
                    refine z_get hx dX9_nextToken_146 fl_X9_80 hk_357 rfl ?_
                    refine z_isub hx dX9_nextToken_149 ?_
                    refine z_istore_n hx dX9_nextToken_150 rfl (by decide) [1, 0] (lv' := [(0, .ref b), (1, .int (iI (p - q)))]) rfl ?_
                    refine z_aload_n hx dX9_nextToken_151 rfl 0 rfl ?_
                    refine z_iload_n hx dX9_nextToken_152 rfl 1 rfl ?_
                    refine z_bipush hx dX9_nextToken_153 (by decide) ?_
                    refine z_icmp_ge (tgt := 180) hx dX9_nextToken_155 (by decide) (by omega) (by decide) (fun c_408 => ?_) (fun c_408 => ?_)
                    ·
                      refine z_ldc2 (a := (-1)) hx dX9_nextToken_180 wq_X9_97 (by decide) ?_
                      refine z_putQ hx dX9_nextToken_183 fl_X9_83 hk_357 ⟨rfl, rfl⟩ (Nat.le_of_ble_eq_true rfl) (fun h_409 hs_410 hf_411 => ?_)
                      have h_412 := hf_411.at (by omega) hk_358
                      have h_413 := hf_411.at (by omega) hk_359
                      have h_414 := hf_411.at (by omega) hk_360
                      have h_415 := hf_411.at (by omega) hk_361
                      have h_416 := hf_411.at (by omega) hk_362
                      have h_417 := hf_411.at (by omega) hk_363
                      have h_418 := hf_411.at (by omega) hk_364
                      have h_419 := hf_411.at (by omega) hk_365
                      have fr_420 := fr_366.tr (hf_411.wd (by omega) (by omega))
                      refine z_aload_n hx dX9_nextToken_186 rfl 0 rfl ?_
                      refine z_iload_n hx dX9_nextToken_187 rfl 1 rfl ?_
                      refine z_iconst hx dX9_nextToken_188 ?_
                      refine z_icmp_ge (tgt := 215) hx dX9_nextToken_189 (by decide) (by omega) (by decide) (fun c_421 => ?_) (fun c_421 => ?_)
                      ·
                        refine z_aload_n hx dX9_nextToken_215 rfl 0 rfl ?_
                        refine z_get hx dX9_nextToken_216 fl_X9_86 hs_410 rfl ?_
                        refine z_putQ hx dX9_nextToken_219 fl_X9_86 hs_410 ⟨rfl, rfl⟩ (Nat.le_of_ble_eq_true rfl) (fun h_422 hs_423 hf_424 => ?_)
                        have h_425 := hf_424.at (by omega) h_412
                        have h_426 := hf_424.at (by omega) h_413
                        have h_427 := hf_424.at (by omega) h_414
                        have h_428 := hf_424.at (by omega) h_415
                        have h_429 := hf_424.at (by omega) h_416
                        have h_430 := hf_424.at (by omega) h_417
                        have h_431 := hf_424.at (by omega) h_418
                        have h_432 := hf_424.at (by omega) h_419
                        have fr_433 := fr_420.tr (hf_424.wd (by omega) (by omega))
                        refine z_aload_n hx dX9_nextToken_222 rfl 0 rfl ?_
                        refine z_dup hx dX9_nextToken_223 rfl ?_
                        refine z_get hx dX9_nextToken_224 fl_X9_77 hs_423 rfl ?_
                        refine z_iconst hx dX9_nextToken_227 ?_
                        refine z_iadd hx dX9_nextToken_228 ?_
                        refine z_putQ hx dX9_nextToken_229 fl_X9_77 hs_423 ⟨rfl, rfl⟩ (Nat.le_of_ble_eq_true rfl) (fun h_434 hs_435 hf_436 => ?_)
                        have h_437 := hf_436.at (by omega) h_425
                        have h_438 := hf_436.at (by omega) h_426
                        have h_439 := hf_436.at (by omega) h_427
                        have h_440 := hf_436.at (by omega) h_428
                        have h_441 := hf_436.at (by omega) h_429
                        have h_442 := hf_436.at (by omega) h_430
                        have h_443 := hf_436.at (by omega) h_431
                        have h_444 := hf_436.at (by omega) h_432
                        have fr_445 := fr_433.tr (hf_436.wd (by omega) (by omega))
                        refine z_goto (tgt := 126) hx dX9_nextToken_232 (by decide) ?_
                        refine z_sub [0] (lv' := [(0, .ref b)]) rfl ?_
                        exact ih_367 (p + 1) (-1) n _ (by omega) (by first | (rw [← ep, tkN_s (p := p) (w := w) (n := n) (by omega) (by omega)]; (first | rw [if_pos (show p - q < 7 by omega)] | rw [if_neg (show ¬ p - q < 7 by omega)]); (first | rw [if_pos (show p - q < 2 by omega)] | rw [if_neg (show ¬ p - q < 2 by omega)]); done) | (exfalso; omega)) hs_435 h_437 h_438 h_439 h_440 h_441 h_442 h_443 h_444 fr_445 (by omega)
                      ·
                        refine z_bipush hx dX9_nextToken_192 (by decide) ?_
                        refine z_aload_n hx dX9_nextToken_194 rfl 0 rfl ?_
                        refine z_get hx dX9_nextToken_195 fl_X9_86 hs_410 rfl ?_
                        refine z_imul hx dX9_nextToken_198 ?_
                        refine z_aload_n hx dX9_nextToken_199 rfl 0 rfl ?_
                        refine z_get hx dX9_nextToken_200 fl_X9_33 hs_410 rfl ?_
                        refine z_aload_n hx dX9_nextToken_203 rfl 0 rfl ?_
                        refine z_get hx dX9_nextToken_204 fl_X9_77 hs_410 rfl ?_
                        refine z_iald hx dX9_nextToken_207 h_418 (by omega) (by decide) ?_
                        refine z_iadd hx dX9_nextToken_208 ?_
                        refine z_bipush hx dX9_nextToken_209 (by decide) ?_
                        refine z_isub hx dX9_nextToken_211 ?_
                        refine z_goto (tgt := 219) hx dX9_nextToken_212 (by decide) ?_
                        refine z_putQ hx dX9_nextToken_219 fl_X9_86 hs_410 ⟨rfl, rfl⟩ (Nat.le_of_ble_eq_true rfl) (fun h_446 hs_447 hf_448 => ?_)
                        have h_449 := hf_448.at (by omega) h_412
                        have h_450 := hf_448.at (by omega) h_413
                        have h_451 := hf_448.at (by omega) h_414
                        have h_452 := hf_448.at (by omega) h_415
                        have h_453 := hf_448.at (by omega) h_416
                        have h_454 := hf_448.at (by omega) h_417
                        have h_455 := hf_448.at (by omega) h_418
                        have h_456 := hf_448.at (by omega) h_419
                        have fr_457 := fr_420.tr (hf_448.wd (by omega) (by omega))
                        refine z_aload_n hx dX9_nextToken_222 rfl 0 rfl ?_
                        refine z_dup hx dX9_nextToken_223 rfl ?_
                        refine z_get hx dX9_nextToken_224 fl_X9_77 hs_447 rfl ?_
                        refine z_iconst hx dX9_nextToken_227 ?_
                        refine z_iadd hx dX9_nextToken_228 ?_
                        refine z_putQ hx dX9_nextToken_229 fl_X9_77 hs_447 ⟨rfl, rfl⟩ (Nat.le_of_ble_eq_true rfl) (fun h_458 hs_459 hf_460 => ?_)
                        have h_461 := hf_460.at (by omega) h_449
                        have h_462 := hf_460.at (by omega) h_450
                        have h_463 := hf_460.at (by omega) h_451
                        have h_464 := hf_460.at (by omega) h_452
                        have h_465 := hf_460.at (by omega) h_453
                        have h_466 := hf_460.at (by omega) h_454
                        have h_467 := hf_460.at (by omega) h_455
                        have h_468 := hf_460.at (by omega) h_456
                        have fr_469 := fr_457.tr (hf_460.wd (by omega) (by omega))
                        refine z_goto (tgt := 126) hx dX9_nextToken_232 (by decide) ?_
                        refine z_sub [0] (lv' := [(0, .ref b)]) rfl ?_
                        exact ih_367 (p + 1) (-1) (((10 * n) + (S 7 p)) - 48) _ (by omega) (by first | (rw [← ep, tkN_s (p := p) (w := w) (n := n) (by omega) (by omega)]; (first | rw [if_pos (show p - q < 7 by omega)] | rw [if_neg (show ¬ p - q < 7 by omega)]); (first | rw [if_pos (show p - q < 2 by omega)] | rw [if_neg (show ¬ p - q < 2 by omega)]); done) | (exfalso; omega)) hs_459 h_461 h_462 h_463 h_464 h_465 h_466 h_467 h_468 fr_469 (by omega)
                    ·
                      refine z_ldc2 (a := 256) hx dX9_nextToken_158 wq_X9_95 (by decide) ?_
                      refine z_aload_n hx dX9_nextToken_161 rfl 0 rfl ?_
                      refine z_get hx dX9_nextToken_162 fl_X9_83 hk_357 rfl ?_
                      refine z_lmul hx dX9_nextToken_165 ?_
                      refine z_aload_n hx dX9_nextToken_166 rfl 0 rfl ?_
                      refine z_get hx dX9_nextToken_167 fl_X9_33 hk_357 rfl ?_
                      refine z_aload_n hx dX9_nextToken_170 rfl 0 rfl ?_
                      refine z_get hx dX9_nextToken_171 fl_X9_77 hk_357 rfl ?_
                      refine z_iald hx dX9_nextToken_174 hk_364 (by omega) (by decide) ?_
                      refine z_i2l hx dX9_nextToken_175 (by omega) ?_
                      refine z_ladd hx dX9_nextToken_176 ?_
                      refine z_goto (tgt := 183) hx dX9_nextToken_177 (by decide) ?_
                      refine z_putQ hx dX9_nextToken_183 fl_X9_83 hk_357 ⟨rfl, rfl⟩ (Nat.le_of_ble_eq_true rfl) (fun h_470 hs_471 hf_472 => ?_)
                      have h_473 := hf_472.at (by omega) hk_358
                      have h_474 := hf_472.at (by omega) hk_359
                      have h_475 := hf_472.at (by omega) hk_360
                      have h_476 := hf_472.at (by omega) hk_361
                      have h_477 := hf_472.at (by omega) hk_362
                      have h_478 := hf_472.at (by omega) hk_363
                      have h_479 := hf_472.at (by omega) hk_364
                      have h_480 := hf_472.at (by omega) hk_365
                      have fr_481 := fr_366.tr (hf_472.wd (by omega) (by omega))
                      refine z_aload_n hx dX9_nextToken_186 rfl 0 rfl ?_
                      refine z_iload_n hx dX9_nextToken_187 rfl 1 rfl ?_
                      refine z_iconst hx dX9_nextToken_188 ?_
                      refine z_icmp_ge (tgt := 215) hx dX9_nextToken_189 (by decide) (by omega) (by decide) (fun c_482 => ?_) (fun c_482 => ?_)
                      ·
                        refine z_aload_n hx dX9_nextToken_215 rfl 0 rfl ?_
                        refine z_get hx dX9_nextToken_216 fl_X9_86 hs_471 rfl ?_
                        refine z_putQ hx dX9_nextToken_219 fl_X9_86 hs_471 ⟨rfl, rfl⟩ (Nat.le_of_ble_eq_true rfl) (fun h_483 hs_484 hf_485 => ?_)
                        have h_486 := hf_485.at (by omega) h_473
                        have h_487 := hf_485.at (by omega) h_474
                        have h_488 := hf_485.at (by omega) h_475
                        have h_489 := hf_485.at (by omega) h_476
                        have h_490 := hf_485.at (by omega) h_477
                        have h_491 := hf_485.at (by omega) h_478
                        have h_492 := hf_485.at (by omega) h_479
                        have h_493 := hf_485.at (by omega) h_480
                        have fr_494 := fr_481.tr (hf_485.wd (by omega) (by omega))
                        refine z_aload_n hx dX9_nextToken_222 rfl 0 rfl ?_
                        refine z_dup hx dX9_nextToken_223 rfl ?_
                        refine z_get hx dX9_nextToken_224 fl_X9_77 hs_484 rfl ?_
                        refine z_iconst hx dX9_nextToken_227 ?_
                        refine z_iadd hx dX9_nextToken_228 ?_
                        refine z_putQ hx dX9_nextToken_229 fl_X9_77 hs_484 ⟨rfl, rfl⟩ (Nat.le_of_ble_eq_true rfl) (fun h_495 hs_496 hf_497 => ?_)
                        have h_498 := hf_497.at (by omega) h_486
                        have h_499 := hf_497.at (by omega) h_487
                        have h_500 := hf_497.at (by omega) h_488
                        have h_501 := hf_497.at (by omega) h_489
                        have h_502 := hf_497.at (by omega) h_490
                        have h_503 := hf_497.at (by omega) h_491
                        have h_504 := hf_497.at (by omega) h_492
                        have h_505 := hf_497.at (by omega) h_493
                        have fr_506 := fr_494.tr (hf_497.wd (by omega) (by omega))
                        refine z_goto (tgt := 126) hx dX9_nextToken_232 (by decide) ?_
                        refine z_sub [0] (lv' := [(0, .ref b)]) rfl ?_
                        exact ih_367 (p + 1) ((256 * w) + (S 7 p)) n _ (by omega) (by first | (rw [← ep, tkN_s (p := p) (w := w) (n := n) (by omega) (by omega)]; (first | rw [if_pos (show p - q < 7 by omega)] | rw [if_neg (show ¬ p - q < 7 by omega)]); (first | rw [if_pos (show p - q < 2 by omega)] | rw [if_neg (show ¬ p - q < 2 by omega)]); done) | (exfalso; omega)) hs_496 h_498 h_499 h_500 h_501 h_502 h_503 h_504 h_505 fr_506 (by omega)
                      ·
                        refine z_bipush hx dX9_nextToken_192 (by decide) ?_
                        refine z_aload_n hx dX9_nextToken_194 rfl 0 rfl ?_
                        refine z_get hx dX9_nextToken_195 fl_X9_86 hs_471 rfl ?_
                        refine z_imul hx dX9_nextToken_198 ?_
                        refine z_aload_n hx dX9_nextToken_199 rfl 0 rfl ?_
                        refine z_get hx dX9_nextToken_200 fl_X9_33 hs_471 rfl ?_
                        refine z_aload_n hx dX9_nextToken_203 rfl 0 rfl ?_
                        refine z_get hx dX9_nextToken_204 fl_X9_77 hs_471 rfl ?_
                        refine z_iald hx dX9_nextToken_207 h_479 (by omega) (by decide) ?_
                        refine z_iadd hx dX9_nextToken_208 ?_
                        refine z_bipush hx dX9_nextToken_209 (by decide) ?_
                        refine z_isub hx dX9_nextToken_211 ?_
                        refine z_goto (tgt := 219) hx dX9_nextToken_212 (by decide) ?_
                        refine z_putQ hx dX9_nextToken_219 fl_X9_86 hs_471 ⟨rfl, rfl⟩ (Nat.le_of_ble_eq_true rfl) (fun h_507 hs_508 hf_509 => ?_)
                        have h_510 := hf_509.at (by omega) h_473
                        have h_511 := hf_509.at (by omega) h_474
                        have h_512 := hf_509.at (by omega) h_475
                        have h_513 := hf_509.at (by omega) h_476
                        have h_514 := hf_509.at (by omega) h_477
                        have h_515 := hf_509.at (by omega) h_478
                        have h_516 := hf_509.at (by omega) h_479
                        have h_517 := hf_509.at (by omega) h_480
                        have fr_518 := fr_481.tr (hf_509.wd (by omega) (by omega))
                        refine z_aload_n hx dX9_nextToken_222 rfl 0 rfl ?_
                        refine z_dup hx dX9_nextToken_223 rfl ?_
                        refine z_get hx dX9_nextToken_224 fl_X9_77 hs_508 rfl ?_
                        refine z_iconst hx dX9_nextToken_227 ?_
                        refine z_iadd hx dX9_nextToken_228 ?_
                        refine z_putQ hx dX9_nextToken_229 fl_X9_77 hs_508 ⟨rfl, rfl⟩ (Nat.le_of_ble_eq_true rfl) (fun h_519 hs_520 hf_521 => ?_)
                        have h_522 := hf_521.at (by omega) h_510
                        have h_523 := hf_521.at (by omega) h_511
                        have h_524 := hf_521.at (by omega) h_512
                        have h_525 := hf_521.at (by omega) h_513
                        have h_526 := hf_521.at (by omega) h_514
                        have h_527 := hf_521.at (by omega) h_515
                        have h_528 := hf_521.at (by omega) h_516
                        have h_529 := hf_521.at (by omega) h_517
                        have fr_530 := fr_518.tr (hf_521.wd (by omega) (by omega))
                        refine z_goto (tgt := 126) hx dX9_nextToken_232 (by decide) ?_
                        refine z_sub [0] (lv' := [(0, .ref b)]) rfl ?_
                        exact ih_367 (p + 1) ((256 * w) + (S 7 p)) (((10 * n) + (S 7 p)) - 48) _ (by omega) (by first | (rw [← ep, tkN_s (p := p) (w := w) (n := n) (by omega) (by omega)]; (first | rw [if_pos (show p - q < 7 by omega)] | rw [if_neg (show ¬ p - q < 7 by omega)]); (first | rw [if_pos (show p - q < 2 by omega)] | rw [if_neg (show ¬ p - q < 2 by omega)]); done) | (exfalso; omega)) hs_520 h_522 h_523 h_524 h_525 h_526 h_527 h_528 h_529 fr_530 (by omega)
              exact hL_355 ((S 0 8 - q) + 1 : Int).toNat q 0 0 _ (by omega) (by rfl) hs_343 h_345 h_346 h_347 h_348 h_349 h_350 h_351 h_352 fr_353 (by omega)
            ·
              refine z_aload_n hx dX9_nextToken_92 rfl 0 rfl ?_
              refine z_aload_n hx dX9_nextToken_93 rfl 0 rfl ?_
              refine z_get hx dX9_nextToken_94 fl_X9_33 hs_343 rfl ?_
              refine z_aload_n hx dX9_nextToken_97 rfl 0 rfl ?_
              refine z_get hx dX9_nextToken_98 fl_X9_77 hs_343 rfl ?_
              refine z_iald hx dX9_nextToken_101 h_351 (by omega) (by decide) ?_
              refine z_bipush hx dX9_nextToken_102 (by decide) ?_
              refine z_icmp_ne (tgt := 111) hx dX9_nextToken_104 (by decide) (by omega) (by decide) (fun c_531 => ?_) (fun c_531 => ?_)
              ·
                refine z_iconst hx dX9_nextToken_111 ?_
                refine z_putQ hx dX9_nextToken_112 fl_X9_89 hs_343 ⟨rfl, rfl⟩ (Nat.le_of_ble_eq_true rfl) (fun h_532 hs_533 hf_534 => ?_)
                have h_535 := hf_534.at (by omega) h_345
                have h_536 := hf_534.at (by omega) h_346
                have h_537 := hf_534.at (by omega) h_347
                have h_538 := hf_534.at (by omega) h_348
                have h_539 := hf_534.at (by omega) h_349
                have h_540 := hf_534.at (by omega) h_350
                have h_541 := hf_534.at (by omega) h_351
                have h_542 := hf_534.at (by omega) h_352
                have fr_543 := fr_353.tr (hf_534.wd (by omega) (by omega))
                refine z_aload_n hx dX9_nextToken_115 rfl 0 rfl ?_
                refine z_dup hx dX9_nextToken_116 rfl ?_
                refine z_get hx dX9_nextToken_117 fl_X9_77 hs_533 rfl ?_
                refine z_iconst hx dX9_nextToken_120 ?_
                refine z_iadd hx dX9_nextToken_121 ?_
                refine z_putQ hx dX9_nextToken_122 fl_X9_77 hs_533 ⟨rfl, rfl⟩ (Nat.le_of_ble_eq_true rfl) (fun h_544 hs_545 hf_546 => ?_)
                have h_547 := hf_546.at (by omega) h_535
                have h_548 := hf_546.at (by omega) h_536
                have h_549 := hf_546.at (by omega) h_537
                have h_550 := hf_546.at (by omega) h_538
                have h_551 := hf_546.at (by omega) h_539
                have h_552 := hf_546.at (by omega) h_540
                have h_553 := hf_546.at (by omega) h_541
                have h_554 := hf_546.at (by omega) h_542
                have fr_555 := fr_543.tr (hf_546.wd (by omega) (by omega))
                refine z_vret hx hr dX9_nextToken_125 rfl (q_v (by first | (unfold nxZ; show QM h b (sst S 0 (nxA (S 0 8) (S 7) (skp (S 0 8) (S 7) (S 0 10)) (S 0))) _; rw [ea]; unfold nxA; (repeat (first | rw [if_pos (by omega)] | rw [if_neg (by omega)])); (try rw [eR]); (try dsimp only); (repeat (first | rw [if_pos (by omega)] | rw [if_neg (by omega)])); exact ⟨⟨hs_545, h_547, h_548, h_549, h_550, h_551, h_552, h_553, h_554⟩, fr_555⟩) | (exfalso; omega)))
              ·
                refine z_iconst hx dX9_nextToken_107 ?_
                refine z_goto (tgt := 112) hx dX9_nextToken_108 (by decide) ?_
                refine z_putQ hx dX9_nextToken_112 fl_X9_89 hs_343 ⟨rfl, rfl⟩ (Nat.le_of_ble_eq_true rfl) (fun h_556 hs_557 hf_558 => ?_)
                have h_559 := hf_558.at (by omega) h_345
                have h_560 := hf_558.at (by omega) h_346
                have h_561 := hf_558.at (by omega) h_347
                have h_562 := hf_558.at (by omega) h_348
                have h_563 := hf_558.at (by omega) h_349
                have h_564 := hf_558.at (by omega) h_350
                have h_565 := hf_558.at (by omega) h_351
                have h_566 := hf_558.at (by omega) h_352
                have fr_567 := fr_353.tr (hf_558.wd (by omega) (by omega))
                refine z_aload_n hx dX9_nextToken_115 rfl 0 rfl ?_
                refine z_dup hx dX9_nextToken_116 rfl ?_
                refine z_get hx dX9_nextToken_117 fl_X9_77 hs_557 rfl ?_
                refine z_iconst hx dX9_nextToken_120 ?_
                refine z_iadd hx dX9_nextToken_121 ?_
                refine z_putQ hx dX9_nextToken_122 fl_X9_77 hs_557 ⟨rfl, rfl⟩ (Nat.le_of_ble_eq_true rfl) (fun h_568 hs_569 hf_570 => ?_)
                have h_571 := hf_570.at (by omega) h_559
                have h_572 := hf_570.at (by omega) h_560
                have h_573 := hf_570.at (by omega) h_561
                have h_574 := hf_570.at (by omega) h_562
                have h_575 := hf_570.at (by omega) h_563
                have h_576 := hf_570.at (by omega) h_564
                have h_577 := hf_570.at (by omega) h_565
                have h_578 := hf_570.at (by omega) h_566
                have fr_579 := fr_567.tr (hf_570.wd (by omega) (by omega))
                refine z_vret hx hr dX9_nextToken_125 rfl (q_v (by first | (unfold nxZ; show QM h b (sst S 0 (nxA (S 0 8) (S 7) (skp (S 0 8) (S 7) (S 0 10)) (S 0))) _; rw [ea]; unfold nxA; (repeat (first | rw [if_pos (by omega)] | rw [if_neg (by omega)])); (try rw [eR]); (try dsimp only); (repeat (first | rw [if_pos (by omega)] | rw [if_neg (by omega)])); exact ⟨⟨hs_569, h_571, h_572, h_573, h_574, h_575, h_576, h_577, h_578⟩, fr_579⟩) | (exfalso; omega)))
          ·
            refine z_aload_n hx dX9_nextToken_67 rfl 0 rfl ?_
            refine z_iconst hx dX9_nextToken_68 ?_
            refine z_putQ hx dX9_nextToken_69 fl_X9_89 hs_329 ⟨rfl, rfl⟩ (Nat.le_of_ble_eq_true rfl) (fun h_580 hs_581 hf_582 => ?_)
            have h_583 := hf_582.at (by omega) h_331
            have h_584 := hf_582.at (by omega) h_332
            have h_585 := hf_582.at (by omega) h_333
            have h_586 := hf_582.at (by omega) h_334
            have h_587 := hf_582.at (by omega) h_335
            have h_588 := hf_582.at (by omega) h_336
            have h_589 := hf_582.at (by omega) h_337
            have h_590 := hf_582.at (by omega) h_338
            have fr_591 := fr_339.tr (hf_582.wd (by omega) (by omega))
            refine z_vret hx hr dX9_nextToken_72 rfl (q_v (by first | (unfold nxZ; show QM h b (sst S 0 (nxA (S 0 8) (S 7) (skp (S 0 8) (S 7) (S 0 10)) (S 0))) _; rw [ea]; unfold nxA; (repeat (first | rw [if_pos (by omega)] | rw [if_neg (by omega)])); (try rw [eR]); (try dsimp only); (repeat (first | rw [if_pos (by omega)] | rw [if_neg (by omega)])); exact ⟨⟨hs_581, h_583, h_584, h_585, h_586, h_587, h_588, h_589, h_590⟩, fr_591⟩) | (exfalso; omega)))
        ·
          refine z_aload_n hx dX9_nextToken_25 rfl 0 rfl ?_
          refine z_dup hx dX9_nextToken_26 rfl ?_
          refine z_get hx dX9_nextToken_27 fl_X9_77 hk_3 rfl ?_
          refine z_iconst hx dX9_nextToken_30 ?_
          refine z_iadd hx dX9_nextToken_31 ?_
          refine z_putQ hx dX9_nextToken_32 fl_X9_77 hk_3 ⟨rfl, rfl⟩ (Nat.le_of_ble_eq_true rfl) (fun h_592 hs_593 hf_594 => ?_)
          have h_595 := hf_594.at (by omega) hk_4
          have h_596 := hf_594.at (by omega) hk_5
          have h_597 := hf_594.at (by omega) hk_6
          have h_598 := hf_594.at (by omega) hk_7
          have h_599 := hf_594.at (by omega) hk_8
          have h_600 := hf_594.at (by omega) hk_9
          have h_601 := hf_594.at (by omega) hk_10
          have h_602 := hf_594.at (by omega) hk_11
          have fr_603 := fr_12.tr (hf_594.wd (by omega) (by omega))
          refine z_goto (tgt := 0) hx dX9_nextToken_35 (by decide) ?_
          exact ih_13 (q + 1) _ (by omega) (by rw [← eq]; exact (skN_s (by omega) (by omega)).symm) hs_593 h_595 h_596 h_597 h_598 h_599 h_600 h_601 h_602 fr_603 (by omega)
  exact hL_1 ((S 0 8 - (S 0 10)) + 1 : Int).toNat (S 0 10) _ (by omega) (by rfl) m0 m1 m2 m3 m4 m5 m6 m7 m8 Fr.rf (by omega)

abbrev num (Z : Int → Int) (a b : Int) : Prop := Z 12 = 2 ∧ (a ≤ Z 13 ∧ Z 13 ≤ b)

set_option maxHeartbeats 4000000 in
set_option maxRecDepth 20000 in
theorem kX9_isNumber (g : Gt) {h : AH} {b : Nat} {S : Nat → Int → Int} {lo hi : Int} (hM : RM h b S) (hL : 0 ≤ S 0 8 ∧ S 0 8 ≤ 150) (hT : ∀ j, 0 ≤ j → j < S 0 8 → 0 ≤ S 7 j ∧ S 7 j ≤ 127) (hP : 0 ≤ S 0 10 ∧ S 0 10 ≤ S 0 8) (g_lo : rgI lo) (g_hi : rgI hi) : CnJ g mX9_isNumber 4 [.ref b, .int (iI lo), .int (iI hi)] h (b2i (num (nxZ (S 0) (S 7)) lo hi)) (QM h b (sst S 0 (nxZ (S 0) (S 7)))) := by
  refine Cn.mk (by decide +kernel) (Nat.le_of_ble_eq_true rfl) ?_
  intro x sz hx hr
  show Zj g x (sz, 0, 0) h 0 [(0, .ref b), (1, .int (iI lo)), (2, .int (iI hi))] []
  obtain ⟨m0, m1, m2, m3, m4, m5, m6, m7, m8⟩ := hM
  refine z_aload_n hx dX9_isNumber_0 rfl 0 rfl ?_
  refine z_cVV (as := []) (rest := []) hx dX9_isNumber_1 lk_X9_99 wm_X9_nextToken wv_X9_nextToken (rcv_obj hx m0 rfl) mo_X9_nextToken (kX9_nextToken g (S := S) ⟨m0, m1, m2, m3, m4, m5, m6, m7, m8⟩ (show _ by exact hL) (show _ by exact hT) (show 0 ≤ (S 0 10) ∧ (S 0 10) ≤ (S 0 8) by omega)) (by decide) rfl rfl (Nat.le_of_ble_eq_true rfl) (fun h_1 q_2 => ?_)
  obtain ⟨⟨p_3, p_4, p_5, p_6, p_7, p_8, p_9, p_10, p_11⟩, hf_12⟩ := q_2
  obtain ⟨Z_13, eZ_13⟩ : ∃ F : Int → Int, F = nxZ (S 0) (S 7) := ⟨_, rfl⟩
  have m_14 : h_1 b = some (.inr (.inr (7, [.ref (b + 1), .ref (b + 2), .ref (b + 3), .ref (b + 4), .ref (b + 5), .ref (b + 6), .long (lI (Z_13 6)), .long (lI (Z_13 7)), .int (iI (Z_13 8)), .ref (b + 7), .int (iI (Z_13 10)), .int (iI (Z_13 11)), .int (iI (Z_13 12)), .int (iI (Z_13 13)), .long (lI (Z_13 14)), .int (iI (Z_13 15)), .ref (b + 8)]))) := by rw [eZ_13]; exact p_3
  have m_15 : h_1 (b + 1) = some (.inl (0, 267, S 1)) := p_4
  have m_16 : h_1 (b + 2) = some (.inl (0, 267, S 2)) := p_5
  have m_17 : h_1 (b + 3) = some (.inl (0, 267, S 3)) := p_6
  have m_18 : h_1 (b + 4) = some (.inl (0, 534, S 4)) := p_7
  have m_19 : h_1 (b + 5) = some (.inl (2, 2, S 5)) := p_8
  have m_20 : h_1 (b + 6) = some (.inl (0, 3, S 6)) := p_9
  have m_21 : h_1 (b + 7) = some (.inl (0, 150, S 7)) := p_10
  have m_22 : h_1 (b + 8) = some (.inl (0, 4, S 8)) := p_11
  have z6Z_13 : Z_13 6 = (S 0 6) := by rw [eZ_13]; exact nxZ_n (by decide)
  have z7Z_13 : Z_13 7 = (S 0 7) := by rw [eZ_13]; exact nxZ_n (by decide)
  have z8Z_13 : Z_13 8 = (S 0 8) := by rw [eZ_13]; exact nxZ_n (by decide)
  have z15Z_13 : Z_13 15 = (S 0 15) := by rw [eZ_13]; exact nxZ_n (by decide)
  have hzZ_13 : ((S 0 10) ≤ Z_13 10 ∧ Z_13 10 ≤ (S 0 8)) ∧ (Z_13 12 ≠ 0 → (S 0 10) < Z_13 10) ∧ (0 ≤ Z_13 12 ∧ Z_13 12 ≤ 4) ∧ (0 ≤ Z_13 13 ∧ Z_13 13 ≤ 900) ∧ (-1 ≤ Z_13 14 ∧ Z_13 14 < 72057594037927936) ∧ ((S 0 10) ≤ Z_13 11 ∧ Z_13 11 ≤ (S 0 8)) := by rw [eZ_13]; exact nxZ_rg (Z := (S 0)) (t := S 7) (show 0 ≤ (S 0 10) ∧ (S 0 10) ≤ (S 0 8) by omega)
  have hLZ_13 : 0 ≤ Z_13 8 ∧ Z_13 8 ≤ 150 := by rw [z8Z_13]; exact hL
  have hTZ_13 : ∀ j, 0 ≤ j → j < Z_13 8 → 0 ≤ S 7 j ∧ S 7 j ≤ 127 := by rw [z8Z_13]; exact hT
  have fr_23 : Fr h h_1 b 9 := hf_12.wd (by omega) (by omega)
  refine z_aload_n hx dX9_isNumber_4 rfl 0 rfl ?_
  refine z_get hx dX9_isNumber_5 fl_X9_89 m_14 rfl ?_
  refine z_iconst hx dX9_isNumber_8 ?_
  refine z_icmp_ne (tgt := 28) hx dX9_isNumber_9 (by decide) (by omega) (by decide) (fun c_24 => ?_) (fun c_24 => ?_)
  ·
    refine z_iconst hx dX9_isNumber_28 ?_
    refine z_iret hx hr dX9_isNumber_29 rfl rfl (q_j (by rw [← eZ_13]; unfold num; first | exact (if_pos (by omega)).symm | exact (if_neg (by omega)).symm | (exfalso; omega)) (by rw [← eZ_13]; exact ⟨⟨m_14, m_15, m_16, m_17, m_18, m_19, m_20, m_21, m_22⟩, fr_23⟩))
  ·
    refine z_aload_n hx dX9_isNumber_12 rfl 0 rfl ?_
    refine z_get hx dX9_isNumber_13 fl_X9_86 m_14 rfl ?_
    refine z_iload_n hx dX9_isNumber_16 rfl 1 rfl ?_
    refine z_iload_n hx dX9_isNumber_17 rfl 2 rfl ?_
    refine z_cSI (as := [.int (iI (Z_13 13)), .int (iI lo), .int (iI hi)]) (rest := []) hx dX9_isNumber_18 lk_X9_43 wt_X9_in mo_X9_in (kX9_in g (a := (Z_13 13)) (b := lo) (c := hi) (by omega) (by omega) (by omega)) (by decide) rfl rfl (Nat.le_of_ble_eq_true rfl) ?_
    refine z_ifeq_b (tgt := 28) hx dX9_isNumber_21 (by decide)  (fun c_25 => ?_) (fun c_25 => ?_)
    ·
      refine z_iconst hx dX9_isNumber_28 ?_
      refine z_iret hx hr dX9_isNumber_29 rfl rfl (q_j (by rw [← eZ_13]; unfold num; first | exact (if_pos (by omega)).symm | exact (if_neg (by omega)).symm | (exfalso; omega)) (by rw [← eZ_13]; exact ⟨⟨m_14, m_15, m_16, m_17, m_18, m_19, m_20, m_21, m_22⟩, fr_23⟩))
    ·
      refine z_iconst hx dX9_isNumber_24 ?_
      refine z_goto (tgt := 29) hx dX9_isNumber_25 (by decide) ?_
      refine z_iret hx hr dX9_isNumber_29 rfl rfl (q_j (by rw [← eZ_13]; unfold num; first | exact (if_pos (by omega)).symm | exact (if_neg (by omega)).symm | (exfalso; omega)) (by rw [← eZ_13]; exact ⟨⟨m_14, m_15, m_16, m_17, m_18, m_19, m_20, m_21, m_22⟩, fr_23⟩))

theorem inv_ahu {f : Int → Int} (h : inv f) {c : Int} (hf : f 37 < 6) (hc : 0 ≤ c ∧ c < 24) : inv (ahu f c) := by
  have hn := h.n
  have e : ∀ j, ahu f c j = if j = 37 then f 37 + 1 else if j = 11 + f 37 then c else f j := fun j => rfl
  obtain ⟨h1, h2, h3, h4, h5⟩ := h
  refine ⟨fun j hj => ?_, ?_, fun k9 hk => ?_, fun q hq => ?_, fun s9 hs => ?_⟩
  · have := e j; have := h1 j hj; omega
  · have := e 26; have := e 37; have := e 38; omega
  · have a := h3 k9 hk; have := e (1 + k9); have := e (6 + k9); have := e (27 + k9); have := e (32 + k9); have := e 26
    exact ⟨by omega, by omega, by omega, by omega, fun w => by have := a.2.2.2.2; omega⟩
  · have a := h4 q hq; have b1 := h1 (17 + q) (by omega); have := e (11 + q); have e1 := e (17 + q); have := e 26; have := e 37; have := e (f (17 + q))
    have e17 : ahu f c (17 + q) = f (17 + q) := by omega
    rw [e17]
    have a3 := a.2.2.1
    exact ⟨by omega, by omega, fun w => by omega, fun x y => by have a4 := a.2.2.2 x y; exact ⟨by omega, by omega⟩⟩
  · have := h5 s9 hs; have := e (23 + s9); omega
theorem inv_ash {f : Int → Int} (h : inv f) {c : Int} (hf : f 38 < 3) (hc : 0 ≤ c ∧ c < 24) : inv (ash f c) := by
  have hn := h.n
  have e : ∀ j, ash f c j = if j = 38 then f 38 + 1 else if j = 23 + f 38 then c else f j := fun j => rfl
  obtain ⟨h1, h2, h3, h4, h5⟩ := h
  refine ⟨fun j hj => ?_, ?_, fun k9 hk => ?_, fun q hq => ?_, fun s9 hs => ?_⟩
  · have := e j; have := h1 j hj; omega
  · have := e 26; have := e 37; have := e 38; omega
  · have a := h3 k9 hk; have := e (1 + k9); have := e (6 + k9); have := e (27 + k9); have := e (32 + k9); have := e 26
    exact ⟨by omega, by omega, by omega, by omega, fun w => by have := a.2.2.2.2; omega⟩
  · have a := h4 q hq; have b1 := h1 (17 + q) (by omega); have := e (11 + q); have e1 := e (17 + q); have := e 26; have := e 37; have := e (f (17 + q))
    have e17 : ash f c (17 + q) = f (17 + q) := by omega
    rw [e17]
    have a3 := a.2.2.1
    exact ⟨by omega, by omega, fun w => by omega, fun x y => by have a4 := a.2.2.2 x y; exact ⟨by omega, by omega⟩⟩
  · have := h5 s9 hs; have := e (23 + s9); omega
theorem inv_acs {f : Int → Int} (h : inv f) {k c s : Int} (hf : f 26 < 5) (hk : 0 ≤ k ∧ k ≤ 5) (hc : 0 ≤ c ∧ c < 24) (hs : 0 ≤ s ∧ s ≤ 4) : inv (acs f k c s) := by
  have hn := h.n
  have e : ∀ j, acs f k c s j = if j = 26 then f 26 + 1 else if j = 32 + f 26 then s else if j = 1 + f 26 then c else if j = 27 + f 26 then k else f j := fun j => rfl
  obtain ⟨h1, h2, h3, h4, h5⟩ := h
  refine ⟨fun j hj => ?_, ?_, fun k9 hk => ?_, fun q hq => ?_, fun s9 hs => ?_⟩
  · have := e j; have := h1 j hj; omega
  · have := e 26; have := e 37; have := e 38; omega
  · have a := h3 k9 hk; have := e (1 + k9); have := e (6 + k9); have := e (27 + k9); have := e (32 + k9); have := e 26
    exact ⟨by omega, by omega, by omega, by omega, fun w => by have := a.2.2.2.2; omega⟩
  · have a := h4 q hq; have b1 := h1 (17 + q) (by omega); have := e (11 + q); have e1 := e (17 + q); have := e 26; have := e 37; have := e (f (17 + q))
    have e17 : acs f k c s (17 + q) = f (17 + q) := by omega
    rw [e17]
    have a3 := a.2.2.1
    exact ⟨by omega, by omega, fun w => by omega, fun x y => by have a4 := a.2.2.2 x y; exact ⟨by omega, by omega⟩⟩
  · have := h5 s9 hs; have := e (23 + s9); omega
def itH (t Z r : Int → Int) : Int × (Int → Int) × (Int → Int) := if r 37 = 6 then (0, Z, r) else if num (nxZ Z t) 0 23 then (1, nxZ Z t, ahu r (nxZ Z t 13)) else (0, nxZ Z t, r)
def itS (t Z r : Int → Int) : Int × (Int → Int) × (Int → Int) := if r 38 = 3 then (0, Z, r) else if num (nxZ Z t) 0 23 then (1, nxZ Z t, ash r (nxZ Z t 13)) else (0, nxZ Z t, r)
def itW (t Z r : Int → Int) : Int × (Int → Int) × (Int → Int) := if num (nxZ Z t) 0 (r 26 - 1) then (if num (nxZ (nxZ Z t) t) 0 40 then (1, nxZ (nxZ Z t) t, fup r (6 + nxZ Z t 13) (nxZ (nxZ Z t) t 13)) else (0, nxZ (nxZ Z t) t, r)) else (0, nxZ Z t, r)
def itC (t Z r : Int → Int) : Int × (Int → Int) × (Int → Int) := if r 26 = 5 then (0, Z, r) else if num (nxZ Z t) 0 5 then (if num (nxZ (nxZ Z t) t) 0 23 then (if num (nxZ (nxZ (nxZ Z t) t) t) 1 4 then (1, nxZ (nxZ (nxZ Z t) t) t, acs r (nxZ Z t 13) (nxZ (nxZ Z t) t 13) (nxZ (nxZ (nxZ Z t) t) t 13)) else (0, nxZ (nxZ (nxZ Z t) t) t, r)) else (0, nxZ (nxZ Z t) t, r)) else (0, nxZ Z t, r)

set_option maxHeartbeats 4000000 in
set_option maxRecDepth 20000 in
theorem kX9_isHuntedItem (g : Gt) {h : AH} {b : Nat} {S : Nat → Int → Int} (hM : RM h b S) (hL : 0 ≤ S 0 8 ∧ S 0 8 ≤ 150) (hT : ∀ j, 0 ≤ j → j < S 0 8 → 0 ≤ S 7 j ∧ S 7 j ≤ 127) (hP : 0 ≤ S 0 10 ∧ S 0 10 ≤ S 0 8) (hR : inv (S 3)) : CnJ g mX9_isHuntedItem 5 [.ref b] h (itH (S 7) (S 0) (S 3)).1 (QM h b (sst (sst S 3 (itH (S 7) (S 0) (S 3)).2.2) 0 (itH (S 7) (S 0) (S 3)).2.1)) := by
  refine Cn.mk (by decide +kernel) (Nat.le_of_ble_eq_true rfl) ?_
  intro x sz hx hr
  show Zj g x (sz, 0, 0) h 0 [(0, .ref b)] []
  obtain ⟨m0, m1, m2, m3, m4, m5, m6, m7, m8⟩ := hM
  have hn3 := hR.n
  refine z_aload_n hx dX9_isHuntedItem_0 rfl 0 rfl ?_
  refine z_get hx dX9_isHuntedItem_1 fl_X9_16 m0 rfl ?_
  refine z_bipush hx dX9_isHuntedItem_4 (by decide) ?_
  refine z_iald hx dX9_isHuntedItem_6 m3 (by decide) (by decide) ?_
  have rg_1 := hR.rg (37) (by decide)
  refine z_bipush hx dX9_isHuntedItem_7 (by decide) ?_
  refine z_icmp_eq (tgt := 22) hx dX9_isHuntedItem_9 (by decide) (by omega) (by decide) (fun c_2 => ?_) (fun c_2 => ?_)
  ·
    refine z_iconst hx dX9_isHuntedItem_22 ?_
    refine z_iret hx hr dX9_isHuntedItem_23 rfl rfl (q_j (by first | (unfold itH;  (repeat (first | rw [if_pos (by omega)] | rw [if_neg (by omega)])); done) | (unfold itH;  (repeat (first | rw [if_pos (by omega)] | rw [if_neg (by omega)])); rfl) | (exfalso; omega)) (by first | (unfold itH;  (repeat (first | rw [if_pos (by omega)] | rw [if_neg (by omega)])); exact ⟨⟨m0, m1, m2, m3, m4, m5, m6, m7, m8⟩, Fr.rf⟩) | (exfalso; omega)))
  ·
    refine z_aload_n hx dX9_isHuntedItem_12 rfl 0 rfl ?_
    refine z_iconst hx dX9_isHuntedItem_13 ?_
    refine z_bipush hx dX9_isHuntedItem_14 (by decide) ?_
    refine z_cVJ (as := [.int (iI 0), .int (iI 23)]) (rest := []) hx dX9_isHuntedItem_16 lk_X9_102 wm_X9_isNumber wv_X9_isNumber (rcv_obj hx m0 rfl) mo_X9_isNumber (kX9_isNumber g (lo := 0) (hi := 23) (S := S) ⟨m0, m1, m2, m3, m4, m5, m6, m7, m8⟩ (show _ by exact hL) (show _ by exact hT) (show 0 ≤ (S 0 10) ∧ (S 0 10) ≤ (S 0 8) by omega) (by omega) (by omega)) (by decide) rfl rfl (Nat.le_of_ble_eq_true rfl) (fun h_3 q_4 => ?_)
    show Zj g x (sz, 0, 0) h_3 19 [(0, .ref b)] [.int (iI (b2i (num (nxZ (S 0) (S 7)) 0 23)))]
    obtain ⟨⟨p_5, p_6, p_7, p_8, p_9, p_10, p_11, p_12, p_13⟩, hf_14⟩ := q_4
    obtain ⟨Z_15, eZ_15⟩ : ∃ F : Int → Int, F = nxZ (S 0) (S 7) := ⟨_, rfl⟩
    have m_16 : h_3 b = some (.inr (.inr (7, [.ref (b + 1), .ref (b + 2), .ref (b + 3), .ref (b + 4), .ref (b + 5), .ref (b + 6), .long (lI (Z_15 6)), .long (lI (Z_15 7)), .int (iI (Z_15 8)), .ref (b + 7), .int (iI (Z_15 10)), .int (iI (Z_15 11)), .int (iI (Z_15 12)), .int (iI (Z_15 13)), .long (lI (Z_15 14)), .int (iI (Z_15 15)), .ref (b + 8)]))) := by rw [eZ_15]; exact p_5
    have m_17 : h_3 (b + 1) = some (.inl (0, 267, S 1)) := p_6
    have m_18 : h_3 (b + 2) = some (.inl (0, 267, S 2)) := p_7
    have m_19 : h_3 (b + 3) = some (.inl (0, 267, S 3)) := p_8
    have m_20 : h_3 (b + 4) = some (.inl (0, 534, S 4)) := p_9
    have m_21 : h_3 (b + 5) = some (.inl (2, 2, S 5)) := p_10
    have m_22 : h_3 (b + 6) = some (.inl (0, 3, S 6)) := p_11
    have m_23 : h_3 (b + 7) = some (.inl (0, 150, S 7)) := p_12
    have m_24 : h_3 (b + 8) = some (.inl (0, 4, S 8)) := p_13
    have z6Z_15 : Z_15 6 = (S 0 6) := by rw [eZ_15]; exact nxZ_n (by decide)
    have z7Z_15 : Z_15 7 = (S 0 7) := by rw [eZ_15]; exact nxZ_n (by decide)
    have z8Z_15 : Z_15 8 = (S 0 8) := by rw [eZ_15]; exact nxZ_n (by decide)
    have z15Z_15 : Z_15 15 = (S 0 15) := by rw [eZ_15]; exact nxZ_n (by decide)
    have hzZ_15 : ((S 0 10) ≤ Z_15 10 ∧ Z_15 10 ≤ (S 0 8)) ∧ (Z_15 12 ≠ 0 → (S 0 10) < Z_15 10) ∧ (0 ≤ Z_15 12 ∧ Z_15 12 ≤ 4) ∧ (0 ≤ Z_15 13 ∧ Z_15 13 ≤ 900) ∧ (-1 ≤ Z_15 14 ∧ Z_15 14 < 72057594037927936) ∧ ((S 0 10) ≤ Z_15 11 ∧ Z_15 11 ≤ (S 0 8)) := by rw [eZ_15]; exact nxZ_rg (Z := (S 0)) (t := S 7) (show 0 ≤ (S 0 10) ∧ (S 0 10) ≤ (S 0 8) by omega)
    have hLZ_15 : 0 ≤ Z_15 8 ∧ Z_15 8 ≤ 150 := by rw [z8Z_15]; exact hL
    have hTZ_15 : ∀ j, 0 ≤ j → j < Z_15 8 → 0 ≤ S 7 j ∧ S 7 j ≤ 127 := by rw [z8Z_15]; exact hT
    have fr_25 : Fr h h_3 b 9 := hf_14.wd (by omega) (by omega)
    rw [← eZ_15]
    show Zj g x (sz, 0, 0) h_3 19 [(0, .ref b)] [.int (iI (b2i (Z_15 12 = 2 ∧ (0 ≤ Z_15 13 ∧ Z_15 13 ≤ 23))))]
    refine z_ifne_b (tgt := 24) hx dX9_isHuntedItem_19 (by decide)  (fun c_26 => ?_) (fun c_26 => ?_)
    ·
      refine z_aload_n hx dX9_isHuntedItem_24 rfl 0 rfl ?_
      refine z_get hx dX9_isHuntedItem_25 fl_X9_16 m_16 rfl ?_
      refine z_aload_n hx dX9_isHuntedItem_28 rfl 0 rfl ?_
      refine z_get hx dX9_isHuntedItem_29 fl_X9_86 m_16 rfl ?_
      refine z_cSJ (as := [.ref (b + 3), .int (iI (Z_15 13))]) (rest := []) hx dX9_isHuntedItem_32 lk_X9_66 wt_X9_addHunted mo_X9_addHunted (kX9_addHunted g (c := (Z_15 13)) m_19  (by omega)) (by decide) rfl rfl (Nat.le_of_ble_eq_true rfl) (fun h_27 q_28 => ?_)
      obtain ⟨hs_29, hf_30⟩ := q_28
      obtain ⟨f_31, ef_31⟩ : ∃ F : Int → Int, F = ahu (S 3) (Z_15 13) := ⟨_, rfl⟩
      rw [← ef_31] at hs_29
      have h_32 := hf_30.at (by omega) m_16
      have h_33 := hf_30.at (by omega) m_17
      have h_34 := hf_30.at (by omega) m_18
      have h_35 := hf_30.at (by omega) m_20
      have h_36 := hf_30.at (by omega) m_21
      have h_37 := hf_30.at (by omega) m_22
      have h_38 := hf_30.at (by omega) m_23
      have h_39 := hf_30.at (by omega) m_24
      have fr_40 := fr_25.tr (hf_30.wd (by omega) (by omega))
      refine z_pop hx dX9_isHuntedItem_35 rfl ?_
      refine z_iconst hx dX9_isHuntedItem_36 ?_
      refine z_iret hx hr dX9_isHuntedItem_37 rfl rfl (q_j (by first | (unfold itH; (try simp only [← eZ_15]); (try simp only [← ef_31]); (repeat (first | rw [if_pos (by omega)] | rw [if_neg (by omega)])); done) | (unfold itH; (try simp only [← eZ_15]); (try simp only [← ef_31]); (repeat (first | rw [if_pos (by omega)] | rw [if_neg (by omega)])); rfl) | (exfalso; omega)) (by first | (unfold itH; (try simp only [← eZ_15]); (try simp only [← ef_31]); (repeat (first | rw [if_pos (by omega)] | rw [if_neg (by omega)])); exact ⟨⟨h_32, h_33, h_34, hs_29, h_35, h_36, h_37, h_38, h_39⟩, fr_40⟩) | (exfalso; omega)))
    ·
      refine z_iconst hx dX9_isHuntedItem_22 ?_
      refine z_iret hx hr dX9_isHuntedItem_23 rfl rfl (q_j (by first | (unfold itH; (try simp only [← eZ_15]); (repeat (first | rw [if_pos (by omega)] | rw [if_neg (by omega)])); done) | (unfold itH; (try simp only [← eZ_15]); (repeat (first | rw [if_pos (by omega)] | rw [if_neg (by omega)])); rfl) | (exfalso; omega)) (by first | (unfold itH; (try simp only [← eZ_15]); (repeat (first | rw [if_pos (by omega)] | rw [if_neg (by omega)])); exact ⟨⟨m_16, m_17, m_18, m_19, m_20, m_21, m_22, m_23, m_24⟩, fr_25⟩) | (exfalso; omega)))

set_option maxHeartbeats 4000000 in
set_option maxRecDepth 20000 in
theorem kX9_isSheriffItem (g : Gt) {h : AH} {b : Nat} {S : Nat → Int → Int} (hM : RM h b S) (hL : 0 ≤ S 0 8 ∧ S 0 8 ≤ 150) (hT : ∀ j, 0 ≤ j → j < S 0 8 → 0 ≤ S 7 j ∧ S 7 j ≤ 127) (hP : 0 ≤ S 0 10 ∧ S 0 10 ≤ S 0 8) (hR : inv (S 3)) : CnJ g mX9_isSheriffItem 5 [.ref b] h (itS (S 7) (S 0) (S 3)).1 (QM h b (sst (sst S 3 (itS (S 7) (S 0) (S 3)).2.2) 0 (itS (S 7) (S 0) (S 3)).2.1)) := by
  refine Cn.mk (by decide +kernel) (Nat.le_of_ble_eq_true rfl) ?_
  intro x sz hx hr
  show Zj g x (sz, 0, 0) h 0 [(0, .ref b)] []
  obtain ⟨m0, m1, m2, m3, m4, m5, m6, m7, m8⟩ := hM
  have hn3 := hR.n
  refine z_aload_n hx dX9_isSheriffItem_0 rfl 0 rfl ?_
  refine z_get hx dX9_isSheriffItem_1 fl_X9_16 m0 rfl ?_
  refine z_bipush hx dX9_isSheriffItem_4 (by decide) ?_
  refine z_iald hx dX9_isSheriffItem_6 m3 (by decide) (by decide) ?_
  have rg_1 := hR.rg (38) (by decide)
  refine z_iconst hx dX9_isSheriffItem_7 ?_
  refine z_icmp_eq (tgt := 21) hx dX9_isSheriffItem_8 (by decide) (by omega) (by decide) (fun c_2 => ?_) (fun c_2 => ?_)
  ·
    refine z_iconst hx dX9_isSheriffItem_21 ?_
    refine z_iret hx hr dX9_isSheriffItem_22 rfl rfl (q_j (by first | (unfold itS;  (repeat (first | rw [if_pos (by omega)] | rw [if_neg (by omega)])); done) | (unfold itS;  (repeat (first | rw [if_pos (by omega)] | rw [if_neg (by omega)])); rfl) | (exfalso; omega)) (by first | (unfold itS;  (repeat (first | rw [if_pos (by omega)] | rw [if_neg (by omega)])); exact ⟨⟨m0, m1, m2, m3, m4, m5, m6, m7, m8⟩, Fr.rf⟩) | (exfalso; omega)))
  ·
    refine z_aload_n hx dX9_isSheriffItem_11 rfl 0 rfl ?_
    refine z_iconst hx dX9_isSheriffItem_12 ?_
    refine z_bipush hx dX9_isSheriffItem_13 (by decide) ?_
    refine z_cVJ (as := [.int (iI 0), .int (iI 23)]) (rest := []) hx dX9_isSheriffItem_15 lk_X9_102 wm_X9_isNumber wv_X9_isNumber (rcv_obj hx m0 rfl) mo_X9_isNumber (kX9_isNumber g (lo := 0) (hi := 23) (S := S) ⟨m0, m1, m2, m3, m4, m5, m6, m7, m8⟩ (show _ by exact hL) (show _ by exact hT) (show 0 ≤ (S 0 10) ∧ (S 0 10) ≤ (S 0 8) by omega) (by omega) (by omega)) (by decide) rfl rfl (Nat.le_of_ble_eq_true rfl) (fun h_3 q_4 => ?_)
    show Zj g x (sz, 0, 0) h_3 18 [(0, .ref b)] [.int (iI (b2i (num (nxZ (S 0) (S 7)) 0 23)))]
    obtain ⟨⟨p_5, p_6, p_7, p_8, p_9, p_10, p_11, p_12, p_13⟩, hf_14⟩ := q_4
    obtain ⟨Z_15, eZ_15⟩ : ∃ F : Int → Int, F = nxZ (S 0) (S 7) := ⟨_, rfl⟩
    have m_16 : h_3 b = some (.inr (.inr (7, [.ref (b + 1), .ref (b + 2), .ref (b + 3), .ref (b + 4), .ref (b + 5), .ref (b + 6), .long (lI (Z_15 6)), .long (lI (Z_15 7)), .int (iI (Z_15 8)), .ref (b + 7), .int (iI (Z_15 10)), .int (iI (Z_15 11)), .int (iI (Z_15 12)), .int (iI (Z_15 13)), .long (lI (Z_15 14)), .int (iI (Z_15 15)), .ref (b + 8)]))) := by rw [eZ_15]; exact p_5
    have m_17 : h_3 (b + 1) = some (.inl (0, 267, S 1)) := p_6
    have m_18 : h_3 (b + 2) = some (.inl (0, 267, S 2)) := p_7
    have m_19 : h_3 (b + 3) = some (.inl (0, 267, S 3)) := p_8
    have m_20 : h_3 (b + 4) = some (.inl (0, 534, S 4)) := p_9
    have m_21 : h_3 (b + 5) = some (.inl (2, 2, S 5)) := p_10
    have m_22 : h_3 (b + 6) = some (.inl (0, 3, S 6)) := p_11
    have m_23 : h_3 (b + 7) = some (.inl (0, 150, S 7)) := p_12
    have m_24 : h_3 (b + 8) = some (.inl (0, 4, S 8)) := p_13
    have z6Z_15 : Z_15 6 = (S 0 6) := by rw [eZ_15]; exact nxZ_n (by decide)
    have z7Z_15 : Z_15 7 = (S 0 7) := by rw [eZ_15]; exact nxZ_n (by decide)
    have z8Z_15 : Z_15 8 = (S 0 8) := by rw [eZ_15]; exact nxZ_n (by decide)
    have z15Z_15 : Z_15 15 = (S 0 15) := by rw [eZ_15]; exact nxZ_n (by decide)
    have hzZ_15 : ((S 0 10) ≤ Z_15 10 ∧ Z_15 10 ≤ (S 0 8)) ∧ (Z_15 12 ≠ 0 → (S 0 10) < Z_15 10) ∧ (0 ≤ Z_15 12 ∧ Z_15 12 ≤ 4) ∧ (0 ≤ Z_15 13 ∧ Z_15 13 ≤ 900) ∧ (-1 ≤ Z_15 14 ∧ Z_15 14 < 72057594037927936) ∧ ((S 0 10) ≤ Z_15 11 ∧ Z_15 11 ≤ (S 0 8)) := by rw [eZ_15]; exact nxZ_rg (Z := (S 0)) (t := S 7) (show 0 ≤ (S 0 10) ∧ (S 0 10) ≤ (S 0 8) by omega)
    have hLZ_15 : 0 ≤ Z_15 8 ∧ Z_15 8 ≤ 150 := by rw [z8Z_15]; exact hL
    have hTZ_15 : ∀ j, 0 ≤ j → j < Z_15 8 → 0 ≤ S 7 j ∧ S 7 j ≤ 127 := by rw [z8Z_15]; exact hT
    have fr_25 : Fr h h_3 b 9 := hf_14.wd (by omega) (by omega)
    rw [← eZ_15]
    show Zj g x (sz, 0, 0) h_3 18 [(0, .ref b)] [.int (iI (b2i (Z_15 12 = 2 ∧ (0 ≤ Z_15 13 ∧ Z_15 13 ≤ 23))))]
    refine z_ifne_b (tgt := 23) hx dX9_isSheriffItem_18 (by decide)  (fun c_26 => ?_) (fun c_26 => ?_)
    ·
      refine z_aload_n hx dX9_isSheriffItem_23 rfl 0 rfl ?_
      refine z_get hx dX9_isSheriffItem_24 fl_X9_16 m_16 rfl ?_
      refine z_aload_n hx dX9_isSheriffItem_27 rfl 0 rfl ?_
      refine z_get hx dX9_isSheriffItem_28 fl_X9_86 m_16 rfl ?_
      refine z_cSJ (as := [.ref (b + 3), .int (iI (Z_15 13))]) (rest := []) hx dX9_isSheriffItem_31 lk_X9_70 wt_X9_addSheriff mo_X9_addSheriff (kX9_addSheriff g (c := (Z_15 13)) m_19  (by omega)) (by decide) rfl rfl (Nat.le_of_ble_eq_true rfl) (fun h_27 q_28 => ?_)
      obtain ⟨hs_29, hf_30⟩ := q_28
      obtain ⟨f_31, ef_31⟩ : ∃ F : Int → Int, F = ash (S 3) (Z_15 13) := ⟨_, rfl⟩
      rw [← ef_31] at hs_29
      have h_32 := hf_30.at (by omega) m_16
      have h_33 := hf_30.at (by omega) m_17
      have h_34 := hf_30.at (by omega) m_18
      have h_35 := hf_30.at (by omega) m_20
      have h_36 := hf_30.at (by omega) m_21
      have h_37 := hf_30.at (by omega) m_22
      have h_38 := hf_30.at (by omega) m_23
      have h_39 := hf_30.at (by omega) m_24
      have fr_40 := fr_25.tr (hf_30.wd (by omega) (by omega))
      refine z_pop hx dX9_isSheriffItem_34 rfl ?_
      refine z_iconst hx dX9_isSheriffItem_35 ?_
      refine z_iret hx hr dX9_isSheriffItem_36 rfl rfl (q_j (by first | (unfold itS; (try simp only [← eZ_15]); (try simp only [← ef_31]); (repeat (first | rw [if_pos (by omega)] | rw [if_neg (by omega)])); done) | (unfold itS; (try simp only [← eZ_15]); (try simp only [← ef_31]); (repeat (first | rw [if_pos (by omega)] | rw [if_neg (by omega)])); rfl) | (exfalso; omega)) (by first | (unfold itS; (try simp only [← eZ_15]); (try simp only [← ef_31]); (repeat (first | rw [if_pos (by omega)] | rw [if_neg (by omega)])); exact ⟨⟨h_32, h_33, h_34, hs_29, h_35, h_36, h_37, h_38, h_39⟩, fr_40⟩) | (exfalso; omega)))
    ·
      refine z_iconst hx dX9_isSheriffItem_21 ?_
      refine z_iret hx hr dX9_isSheriffItem_22 rfl rfl (q_j (by first | (unfold itS; (try simp only [← eZ_15]); (repeat (first | rw [if_pos (by omega)] | rw [if_neg (by omega)])); done) | (unfold itS; (try simp only [← eZ_15]); (repeat (first | rw [if_pos (by omega)] | rw [if_neg (by omega)])); rfl) | (exfalso; omega)) (by first | (unfold itS; (try simp only [← eZ_15]); (repeat (first | rw [if_pos (by omega)] | rw [if_neg (by omega)])); exact ⟨⟨m_16, m_17, m_18, m_19, m_20, m_21, m_22, m_23, m_24⟩, fr_25⟩) | (exfalso; omega)))

set_option maxHeartbeats 4000000 in
set_option maxRecDepth 20000 in
theorem kX9_isWearItem (g : Gt) {h : AH} {b : Nat} {S : Nat → Int → Int} (hM : RM h b S) (hL : 0 ≤ S 0 8 ∧ S 0 8 ≤ 150) (hT : ∀ j, 0 ≤ j → j < S 0 8 → 0 ≤ S 7 j ∧ S 7 j ≤ 127) (hP : 0 ≤ S 0 10 ∧ S 0 10 ≤ S 0 8) (hR : inv (S 3)) : CnJ g mX9_isWearItem 5 [.ref b] h (itW (S 7) (S 0) (S 3)).1 (QM h b (sst (sst S 3 (itW (S 7) (S 0) (S 3)).2.2) 0 (itW (S 7) (S 0) (S 3)).2.1)) := by
  refine Cn.mk (by decide +kernel) (Nat.le_of_ble_eq_true rfl) ?_
  intro x sz hx hr
  show Zj g x (sz, 0, 0) h 0 [(0, .ref b)] []
  obtain ⟨m0, m1, m2, m3, m4, m5, m6, m7, m8⟩ := hM
  have hn3 := hR.n
  refine z_aload_n hx dX9_isWearItem_0 rfl 0 rfl ?_
  refine z_iconst hx dX9_isWearItem_1 ?_
  refine z_aload_n hx dX9_isWearItem_2 rfl 0 rfl ?_
  refine z_get hx dX9_isWearItem_3 fl_X9_16 m0 rfl ?_
  refine z_bipush hx dX9_isWearItem_6 (by decide) ?_
  refine z_iald hx dX9_isWearItem_8 m3 (by decide) (by decide) ?_
  have rg_1 := hR.rg (26) (by decide)
  refine z_iconst hx dX9_isWearItem_9 ?_
  refine z_isub hx dX9_isWearItem_10 ?_
  refine z_cVJ (as := [.int (iI 0), .int (iI ((S 3 26) - 1))]) (rest := []) hx dX9_isWearItem_11 lk_X9_102 wm_X9_isNumber wv_X9_isNumber (rcv_obj hx m0 rfl) mo_X9_isNumber (kX9_isNumber g (lo := 0) (hi := ((S 3 26) - 1)) (S := S) ⟨m0, m1, m2, m3, m4, m5, m6, m7, m8⟩ (show _ by exact hL) (show _ by exact hT) (show 0 ≤ (S 0 10) ∧ (S 0 10) ≤ (S 0 8) by omega) (by omega) (by omega)) (by decide) rfl rfl (Nat.le_of_ble_eq_true rfl) (fun h_2 q_3 => ?_)
  show Zj g x (sz, 0, 0) h_2 14 [(0, .ref b)] [.int (iI (b2i (num (nxZ (S 0) (S 7)) 0 ((S 3 26) - 1))))]
  obtain ⟨⟨p_4, p_5, p_6, p_7, p_8, p_9, p_10, p_11, p_12⟩, hf_13⟩ := q_3
  obtain ⟨Z_14, eZ_14⟩ : ∃ F : Int → Int, F = nxZ (S 0) (S 7) := ⟨_, rfl⟩
  have m_15 : h_2 b = some (.inr (.inr (7, [.ref (b + 1), .ref (b + 2), .ref (b + 3), .ref (b + 4), .ref (b + 5), .ref (b + 6), .long (lI (Z_14 6)), .long (lI (Z_14 7)), .int (iI (Z_14 8)), .ref (b + 7), .int (iI (Z_14 10)), .int (iI (Z_14 11)), .int (iI (Z_14 12)), .int (iI (Z_14 13)), .long (lI (Z_14 14)), .int (iI (Z_14 15)), .ref (b + 8)]))) := by rw [eZ_14]; exact p_4
  have m_16 : h_2 (b + 1) = some (.inl (0, 267, S 1)) := p_5
  have m_17 : h_2 (b + 2) = some (.inl (0, 267, S 2)) := p_6
  have m_18 : h_2 (b + 3) = some (.inl (0, 267, S 3)) := p_7
  have m_19 : h_2 (b + 4) = some (.inl (0, 534, S 4)) := p_8
  have m_20 : h_2 (b + 5) = some (.inl (2, 2, S 5)) := p_9
  have m_21 : h_2 (b + 6) = some (.inl (0, 3, S 6)) := p_10
  have m_22 : h_2 (b + 7) = some (.inl (0, 150, S 7)) := p_11
  have m_23 : h_2 (b + 8) = some (.inl (0, 4, S 8)) := p_12
  have z6Z_14 : Z_14 6 = (S 0 6) := by rw [eZ_14]; exact nxZ_n (by decide)
  have z7Z_14 : Z_14 7 = (S 0 7) := by rw [eZ_14]; exact nxZ_n (by decide)
  have z8Z_14 : Z_14 8 = (S 0 8) := by rw [eZ_14]; exact nxZ_n (by decide)
  have z15Z_14 : Z_14 15 = (S 0 15) := by rw [eZ_14]; exact nxZ_n (by decide)
  have hzZ_14 : ((S 0 10) ≤ Z_14 10 ∧ Z_14 10 ≤ (S 0 8)) ∧ (Z_14 12 ≠ 0 → (S 0 10) < Z_14 10) ∧ (0 ≤ Z_14 12 ∧ Z_14 12 ≤ 4) ∧ (0 ≤ Z_14 13 ∧ Z_14 13 ≤ 900) ∧ (-1 ≤ Z_14 14 ∧ Z_14 14 < 72057594037927936) ∧ ((S 0 10) ≤ Z_14 11 ∧ Z_14 11 ≤ (S 0 8)) := by rw [eZ_14]; exact nxZ_rg (Z := (S 0)) (t := S 7) (show 0 ≤ (S 0 10) ∧ (S 0 10) ≤ (S 0 8) by omega)
  have hLZ_14 : 0 ≤ Z_14 8 ∧ Z_14 8 ≤ 150 := by rw [z8Z_14]; exact hL
  have hTZ_14 : ∀ j, 0 ≤ j → j < Z_14 8 → 0 ≤ S 7 j ∧ S 7 j ≤ 127 := by rw [z8Z_14]; exact hT
  have fr_24 : Fr h h_2 b 9 := hf_13.wd (by omega) (by omega)
  rw [← eZ_14]
  show Zj g x (sz, 0, 0) h_2 14 [(0, .ref b)] [.int (iI (b2i (Z_14 12 = 2 ∧ (0 ≤ Z_14 13 ∧ Z_14 13 ≤ ((S 3 26) - 1)))))]
  refine z_ifne_b (tgt := 19) hx dX9_isWearItem_14 (by decide)  (fun c_25 => ?_) (fun c_25 => ?_)
  ·
    refine z_aload_n hx dX9_isWearItem_19 rfl 0 rfl ?_
    refine z_get hx dX9_isWearItem_20 fl_X9_86 m_15 rfl ?_
    refine z_istore_n hx dX9_isWearItem_23 rfl (by decide) [1, 0] (lv' := [(0, .ref b), (1, .int (iI (Z_14 13)))]) rfl ?_
    refine z_aload_n hx dX9_isWearItem_24 rfl 0 rfl ?_
    refine z_iconst hx dX9_isWearItem_25 ?_
    refine z_bipush hx dX9_isWearItem_26 (by decide) ?_
    refine z_cVJ (as := [.int (iI 0), .int (iI 40)]) (rest := []) hx dX9_isWearItem_28 lk_X9_102 wm_X9_isNumber wv_X9_isNumber (rcv_obj hx m_15 rfl) mo_X9_isNumber (kX9_isNumber g (lo := 0) (hi := 40) (S := (sst S 0 Z_14)) ⟨m_15, m_16, m_17, m_18, m_19, m_20, m_21, m_22, m_23⟩ (show _ by exact hLZ_14) (show _ by exact hTZ_14) (show 0 ≤ (Z_14 10) ∧ (Z_14 10) ≤ (Z_14 8) by omega) (by omega) (by omega)) (by decide) rfl rfl (Nat.le_of_ble_eq_true rfl) (fun h_26 q_27 => ?_)
    show Zj g x (sz, 0, 0) h_26 31 [(0, .ref b), (1, .int (iI (Z_14 13)))] [.int (iI (b2i (num (nxZ Z_14 (S 7)) 0 40)))]
    obtain ⟨⟨p_28, p_29, p_30, p_31, p_32, p_33, p_34, p_35, p_36⟩, hf_37⟩ := q_27
    obtain ⟨Z_38, eZ_38⟩ : ∃ F : Int → Int, F = nxZ Z_14 (S 7) := ⟨_, rfl⟩
    have m_39 : h_26 b = some (.inr (.inr (7, [.ref (b + 1), .ref (b + 2), .ref (b + 3), .ref (b + 4), .ref (b + 5), .ref (b + 6), .long (lI (Z_38 6)), .long (lI (Z_38 7)), .int (iI (Z_38 8)), .ref (b + 7), .int (iI (Z_38 10)), .int (iI (Z_38 11)), .int (iI (Z_38 12)), .int (iI (Z_38 13)), .long (lI (Z_38 14)), .int (iI (Z_38 15)), .ref (b + 8)]))) := by rw [eZ_38]; exact p_28
    have m_40 : h_26 (b + 1) = some (.inl (0, 267, S 1)) := p_29
    have m_41 : h_26 (b + 2) = some (.inl (0, 267, S 2)) := p_30
    have m_42 : h_26 (b + 3) = some (.inl (0, 267, S 3)) := p_31
    have m_43 : h_26 (b + 4) = some (.inl (0, 534, S 4)) := p_32
    have m_44 : h_26 (b + 5) = some (.inl (2, 2, S 5)) := p_33
    have m_45 : h_26 (b + 6) = some (.inl (0, 3, S 6)) := p_34
    have m_46 : h_26 (b + 7) = some (.inl (0, 150, S 7)) := p_35
    have m_47 : h_26 (b + 8) = some (.inl (0, 4, S 8)) := p_36
    have z6Z_38 : Z_38 6 = (Z_14 6) := by rw [eZ_38]; exact nxZ_n (by decide)
    have z7Z_38 : Z_38 7 = (Z_14 7) := by rw [eZ_38]; exact nxZ_n (by decide)
    have z8Z_38 : Z_38 8 = (Z_14 8) := by rw [eZ_38]; exact nxZ_n (by decide)
    have z15Z_38 : Z_38 15 = (Z_14 15) := by rw [eZ_38]; exact nxZ_n (by decide)
    have hzZ_38 : ((Z_14 10) ≤ Z_38 10 ∧ Z_38 10 ≤ (Z_14 8)) ∧ (Z_38 12 ≠ 0 → (Z_14 10) < Z_38 10) ∧ (0 ≤ Z_38 12 ∧ Z_38 12 ≤ 4) ∧ (0 ≤ Z_38 13 ∧ Z_38 13 ≤ 900) ∧ (-1 ≤ Z_38 14 ∧ Z_38 14 < 72057594037927936) ∧ ((Z_14 10) ≤ Z_38 11 ∧ Z_38 11 ≤ (Z_14 8)) := by rw [eZ_38]; exact nxZ_rg (Z := Z_14) (t := S 7) (show 0 ≤ (Z_14 10) ∧ (Z_14 10) ≤ (Z_14 8) by omega)
    have hLZ_38 : 0 ≤ Z_38 8 ∧ Z_38 8 ≤ 150 := by rw [z8Z_38]; exact hLZ_14
    have hTZ_38 : ∀ j, 0 ≤ j → j < Z_38 8 → 0 ≤ S 7 j ∧ S 7 j ≤ 127 := by rw [z8Z_38]; exact hTZ_14
    have fr_48 := fr_24.tr (hf_37.wd (by omega) (by omega))
    rw [← eZ_38]
    show Zj g x (sz, 0, 0) h_26 31 [(0, .ref b), (1, .int (iI (Z_14 13)))] [.int (iI (b2i (Z_38 12 = 2 ∧ (0 ≤ Z_38 13 ∧ Z_38 13 ≤ 40))))]
    refine z_ifne_b (tgt := 36) hx dX9_isWearItem_31 (by decide)  (fun c_49 => ?_) (fun c_49 => ?_)
    ·
      refine z_aload_n hx dX9_isWearItem_36 rfl 0 rfl ?_
      refine z_get hx dX9_isWearItem_37 fl_X9_16 m_39 rfl ?_
      refine z_bipush hx dX9_isWearItem_40 (by decide) ?_
      refine z_iload_n hx dX9_isWearItem_42 rfl 1 rfl ?_
      refine z_iadd hx dX9_isWearItem_43 ?_
      refine z_aload_n hx dX9_isWearItem_44 rfl 0 rfl ?_
      refine z_get hx dX9_isWearItem_45 fl_X9_86 m_39 rfl ?_
      refine z_iastQ hx dX9_isWearItem_48 m_42 (by omega) (by decide) (fun h_50 hs_51 hf_52 => ?_)
      have h_53 := hf_52.at (by omega) m_39
      have h_54 := hf_52.at (by omega) m_40
      have h_55 := hf_52.at (by omega) m_41
      have h_56 := hf_52.at (by omega) m_43
      have h_57 := hf_52.at (by omega) m_44
      have h_58 := hf_52.at (by omega) m_45
      have h_59 := hf_52.at (by omega) m_46
      have h_60 := hf_52.at (by omega) m_47
      have fr_61 := fr_48.tr (hf_52.wd (by omega) (by omega))
      refine z_iconst hx dX9_isWearItem_49 ?_
      refine z_iret hx hr dX9_isWearItem_50 rfl rfl (q_j (by first | (unfold itW; (try simp only [← eZ_14]); (try simp only [← eZ_38]); (repeat (first | rw [if_pos (by omega)] | rw [if_neg (by omega)])); done) | (unfold itW; (try simp only [← eZ_14]); (try simp only [← eZ_38]); (repeat (first | rw [if_pos (by omega)] | rw [if_neg (by omega)])); rfl) | (exfalso; omega)) (by first | (unfold itW; (try simp only [← eZ_14]); (try simp only [← eZ_38]); (repeat (first | rw [if_pos (by omega)] | rw [if_neg (by omega)])); exact ⟨⟨h_53, h_54, h_55, hs_51, h_56, h_57, h_58, h_59, h_60⟩, fr_61⟩) | (exfalso; omega)))
    ·
      refine z_iconst hx dX9_isWearItem_34 ?_
      refine z_iret hx hr dX9_isWearItem_35 rfl rfl (q_j (by first | (unfold itW; (try simp only [← eZ_14]); (try simp only [← eZ_38]); (repeat (first | rw [if_pos (by omega)] | rw [if_neg (by omega)])); done) | (unfold itW; (try simp only [← eZ_14]); (try simp only [← eZ_38]); (repeat (first | rw [if_pos (by omega)] | rw [if_neg (by omega)])); rfl) | (exfalso; omega)) (by first | (unfold itW; (try simp only [← eZ_14]); (try simp only [← eZ_38]); (repeat (first | rw [if_pos (by omega)] | rw [if_neg (by omega)])); exact ⟨⟨m_39, m_40, m_41, m_42, m_43, m_44, m_45, m_46, m_47⟩, fr_48⟩) | (exfalso; omega)))
  ·
    refine z_iconst hx dX9_isWearItem_17 ?_
    refine z_iret hx hr dX9_isWearItem_18 rfl rfl (q_j (by first | (unfold itW; (try simp only [← eZ_14]); (repeat (first | rw [if_pos (by omega)] | rw [if_neg (by omega)])); done) | (unfold itW; (try simp only [← eZ_14]); (repeat (first | rw [if_pos (by omega)] | rw [if_neg (by omega)])); rfl) | (exfalso; omega)) (by first | (unfold itW; (try simp only [← eZ_14]); (repeat (first | rw [if_pos (by omega)] | rw [if_neg (by omega)])); exact ⟨⟨m_15, m_16, m_17, m_18, m_19, m_20, m_21, m_22, m_23⟩, fr_24⟩) | (exfalso; omega)))

set_option maxHeartbeats 4000000 in
set_option maxRecDepth 20000 in
theorem kX9_isCosyItem (g : Gt) {h : AH} {b : Nat} {S : Nat → Int → Int} (hM : RM h b S) (hL : 0 ≤ S 0 8 ∧ S 0 8 ≤ 150) (hT : ∀ j, 0 ≤ j → j < S 0 8 → 0 ≤ S 7 j ∧ S 7 j ≤ 127) (hP : 0 ≤ S 0 10 ∧ S 0 10 ≤ S 0 8) (hR : inv (S 3)) : CnJ g mX9_isCosyItem 5 [.ref b] h (itC (S 7) (S 0) (S 3)).1 (QM h b (sst (sst S 3 (itC (S 7) (S 0) (S 3)).2.2) 0 (itC (S 7) (S 0) (S 3)).2.1)) := by
  refine Cn.mk (by decide +kernel) (Nat.le_of_ble_eq_true rfl) ?_
  intro x sz hx hr
  show Zj g x (sz, 0, 0) h 0 [(0, .ref b)] []
  obtain ⟨m0, m1, m2, m3, m4, m5, m6, m7, m8⟩ := hM
  have hn3 := hR.n
  refine z_aload_n hx dX9_isCosyItem_0 rfl 0 rfl ?_
  refine z_get hx dX9_isCosyItem_1 fl_X9_16 m0 rfl ?_
  refine z_bipush hx dX9_isCosyItem_4 (by decide) ?_
  refine z_iald hx dX9_isCosyItem_6 m3 (by decide) (by decide) ?_
  have rg_1 := hR.rg (26) (by decide)
  refine z_iconst hx dX9_isCosyItem_7 ?_
  refine z_icmp_eq (tgt := 20) hx dX9_isCosyItem_8 (by decide) (by omega) (by decide) (fun c_2 => ?_) (fun c_2 => ?_)
  ·
    refine z_iconst hx dX9_isCosyItem_20 ?_
    refine z_iret hx hr dX9_isCosyItem_21 rfl rfl (q_j (by first | (unfold itC;  (repeat (first | rw [if_pos (by omega)] | rw [if_neg (by omega)])); done) | (unfold itC;  (repeat (first | rw [if_pos (by omega)] | rw [if_neg (by omega)])); rfl) | (exfalso; omega)) (by first | (unfold itC;  (repeat (first | rw [if_pos (by omega)] | rw [if_neg (by omega)])); exact ⟨⟨m0, m1, m2, m3, m4, m5, m6, m7, m8⟩, Fr.rf⟩) | (exfalso; omega)))
  ·
    refine z_aload_n hx dX9_isCosyItem_11 rfl 0 rfl ?_
    refine z_iconst hx dX9_isCosyItem_12 ?_
    refine z_iconst hx dX9_isCosyItem_13 ?_
    refine z_cVJ (as := [.int (iI 0), .int (iI 5)]) (rest := []) hx dX9_isCosyItem_14 lk_X9_102 wm_X9_isNumber wv_X9_isNumber (rcv_obj hx m0 rfl) mo_X9_isNumber (kX9_isNumber g (lo := 0) (hi := 5) (S := S) ⟨m0, m1, m2, m3, m4, m5, m6, m7, m8⟩ (show _ by exact hL) (show _ by exact hT) (show 0 ≤ (S 0 10) ∧ (S 0 10) ≤ (S 0 8) by omega) (by omega) (by omega)) (by decide) rfl rfl (Nat.le_of_ble_eq_true rfl) (fun h_3 q_4 => ?_)
    show Zj g x (sz, 0, 0) h_3 17 [(0, .ref b)] [.int (iI (b2i (num (nxZ (S 0) (S 7)) 0 5)))]
    obtain ⟨⟨p_5, p_6, p_7, p_8, p_9, p_10, p_11, p_12, p_13⟩, hf_14⟩ := q_4
    obtain ⟨Z_15, eZ_15⟩ : ∃ F : Int → Int, F = nxZ (S 0) (S 7) := ⟨_, rfl⟩
    have m_16 : h_3 b = some (.inr (.inr (7, [.ref (b + 1), .ref (b + 2), .ref (b + 3), .ref (b + 4), .ref (b + 5), .ref (b + 6), .long (lI (Z_15 6)), .long (lI (Z_15 7)), .int (iI (Z_15 8)), .ref (b + 7), .int (iI (Z_15 10)), .int (iI (Z_15 11)), .int (iI (Z_15 12)), .int (iI (Z_15 13)), .long (lI (Z_15 14)), .int (iI (Z_15 15)), .ref (b + 8)]))) := by rw [eZ_15]; exact p_5
    have m_17 : h_3 (b + 1) = some (.inl (0, 267, S 1)) := p_6
    have m_18 : h_3 (b + 2) = some (.inl (0, 267, S 2)) := p_7
    have m_19 : h_3 (b + 3) = some (.inl (0, 267, S 3)) := p_8
    have m_20 : h_3 (b + 4) = some (.inl (0, 534, S 4)) := p_9
    have m_21 : h_3 (b + 5) = some (.inl (2, 2, S 5)) := p_10
    have m_22 : h_3 (b + 6) = some (.inl (0, 3, S 6)) := p_11
    have m_23 : h_3 (b + 7) = some (.inl (0, 150, S 7)) := p_12
    have m_24 : h_3 (b + 8) = some (.inl (0, 4, S 8)) := p_13
    have z6Z_15 : Z_15 6 = (S 0 6) := by rw [eZ_15]; exact nxZ_n (by decide)
    have z7Z_15 : Z_15 7 = (S 0 7) := by rw [eZ_15]; exact nxZ_n (by decide)
    have z8Z_15 : Z_15 8 = (S 0 8) := by rw [eZ_15]; exact nxZ_n (by decide)
    have z15Z_15 : Z_15 15 = (S 0 15) := by rw [eZ_15]; exact nxZ_n (by decide)
    have hzZ_15 : ((S 0 10) ≤ Z_15 10 ∧ Z_15 10 ≤ (S 0 8)) ∧ (Z_15 12 ≠ 0 → (S 0 10) < Z_15 10) ∧ (0 ≤ Z_15 12 ∧ Z_15 12 ≤ 4) ∧ (0 ≤ Z_15 13 ∧ Z_15 13 ≤ 900) ∧ (-1 ≤ Z_15 14 ∧ Z_15 14 < 72057594037927936) ∧ ((S 0 10) ≤ Z_15 11 ∧ Z_15 11 ≤ (S 0 8)) := by rw [eZ_15]; exact nxZ_rg (Z := (S 0)) (t := S 7) (show 0 ≤ (S 0 10) ∧ (S 0 10) ≤ (S 0 8) by omega)
    have hLZ_15 : 0 ≤ Z_15 8 ∧ Z_15 8 ≤ 150 := by rw [z8Z_15]; exact hL
    have hTZ_15 : ∀ j, 0 ≤ j → j < Z_15 8 → 0 ≤ S 7 j ∧ S 7 j ≤ 127 := by rw [z8Z_15]; exact hT
    have fr_25 : Fr h h_3 b 9 := hf_14.wd (by omega) (by omega)
    rw [← eZ_15]
    show Zj g x (sz, 0, 0) h_3 17 [(0, .ref b)] [.int (iI (b2i (Z_15 12 = 2 ∧ (0 ≤ Z_15 13 ∧ Z_15 13 ≤ 5))))]
    refine z_ifne_b (tgt := 22) hx dX9_isCosyItem_17 (by decide)  (fun c_26 => ?_) (fun c_26 => ?_)
    ·
      refine z_aload_n hx dX9_isCosyItem_22 rfl 0 rfl ?_
      refine z_get hx dX9_isCosyItem_23 fl_X9_86 m_16 rfl ?_
      refine z_istore_n hx dX9_isCosyItem_26 rfl (by decide) [1, 0] (lv' := [(0, .ref b), (1, .int (iI (Z_15 13)))]) rfl ?_
      refine z_aload_n hx dX9_isCosyItem_27 rfl 0 rfl ?_
      refine z_iconst hx dX9_isCosyItem_28 ?_
      refine z_bipush hx dX9_isCosyItem_29 (by decide) ?_
      refine z_cVJ (as := [.int (iI 0), .int (iI 23)]) (rest := []) hx dX9_isCosyItem_31 lk_X9_102 wm_X9_isNumber wv_X9_isNumber (rcv_obj hx m_16 rfl) mo_X9_isNumber (kX9_isNumber g (lo := 0) (hi := 23) (S := (sst S 0 Z_15)) ⟨m_16, m_17, m_18, m_19, m_20, m_21, m_22, m_23, m_24⟩ (show _ by exact hLZ_15) (show _ by exact hTZ_15) (show 0 ≤ (Z_15 10) ∧ (Z_15 10) ≤ (Z_15 8) by omega) (by omega) (by omega)) (by decide) rfl rfl (Nat.le_of_ble_eq_true rfl) (fun h_27 q_28 => ?_)
      show Zj g x (sz, 0, 0) h_27 34 [(0, .ref b), (1, .int (iI (Z_15 13)))] [.int (iI (b2i (num (nxZ Z_15 (S 7)) 0 23)))]
      obtain ⟨⟨p_29, p_30, p_31, p_32, p_33, p_34, p_35, p_36, p_37⟩, hf_38⟩ := q_28
      obtain ⟨Z_39, eZ_39⟩ : ∃ F : Int → Int, F = nxZ Z_15 (S 7) := ⟨_, rfl⟩
      have m_40 : h_27 b = some (.inr (.inr (7, [.ref (b + 1), .ref (b + 2), .ref (b + 3), .ref (b + 4), .ref (b + 5), .ref (b + 6), .long (lI (Z_39 6)), .long (lI (Z_39 7)), .int (iI (Z_39 8)), .ref (b + 7), .int (iI (Z_39 10)), .int (iI (Z_39 11)), .int (iI (Z_39 12)), .int (iI (Z_39 13)), .long (lI (Z_39 14)), .int (iI (Z_39 15)), .ref (b + 8)]))) := by rw [eZ_39]; exact p_29
      have m_41 : h_27 (b + 1) = some (.inl (0, 267, S 1)) := p_30
      have m_42 : h_27 (b + 2) = some (.inl (0, 267, S 2)) := p_31
      have m_43 : h_27 (b + 3) = some (.inl (0, 267, S 3)) := p_32
      have m_44 : h_27 (b + 4) = some (.inl (0, 534, S 4)) := p_33
      have m_45 : h_27 (b + 5) = some (.inl (2, 2, S 5)) := p_34
      have m_46 : h_27 (b + 6) = some (.inl (0, 3, S 6)) := p_35
      have m_47 : h_27 (b + 7) = some (.inl (0, 150, S 7)) := p_36
      have m_48 : h_27 (b + 8) = some (.inl (0, 4, S 8)) := p_37
      have z6Z_39 : Z_39 6 = (Z_15 6) := by rw [eZ_39]; exact nxZ_n (by decide)
      have z7Z_39 : Z_39 7 = (Z_15 7) := by rw [eZ_39]; exact nxZ_n (by decide)
      have z8Z_39 : Z_39 8 = (Z_15 8) := by rw [eZ_39]; exact nxZ_n (by decide)
      have z15Z_39 : Z_39 15 = (Z_15 15) := by rw [eZ_39]; exact nxZ_n (by decide)
      have hzZ_39 : ((Z_15 10) ≤ Z_39 10 ∧ Z_39 10 ≤ (Z_15 8)) ∧ (Z_39 12 ≠ 0 → (Z_15 10) < Z_39 10) ∧ (0 ≤ Z_39 12 ∧ Z_39 12 ≤ 4) ∧ (0 ≤ Z_39 13 ∧ Z_39 13 ≤ 900) ∧ (-1 ≤ Z_39 14 ∧ Z_39 14 < 72057594037927936) ∧ ((Z_15 10) ≤ Z_39 11 ∧ Z_39 11 ≤ (Z_15 8)) := by rw [eZ_39]; exact nxZ_rg (Z := Z_15) (t := S 7) (show 0 ≤ (Z_15 10) ∧ (Z_15 10) ≤ (Z_15 8) by omega)
      have hLZ_39 : 0 ≤ Z_39 8 ∧ Z_39 8 ≤ 150 := by rw [z8Z_39]; exact hLZ_15
      have hTZ_39 : ∀ j, 0 ≤ j → j < Z_39 8 → 0 ≤ S 7 j ∧ S 7 j ≤ 127 := by rw [z8Z_39]; exact hTZ_15
      have fr_49 := fr_25.tr (hf_38.wd (by omega) (by omega))
      rw [← eZ_39]
      show Zj g x (sz, 0, 0) h_27 34 [(0, .ref b), (1, .int (iI (Z_15 13)))] [.int (iI (b2i (Z_39 12 = 2 ∧ (0 ≤ Z_39 13 ∧ Z_39 13 ≤ 23))))]
      refine z_ifne_b (tgt := 39) hx dX9_isCosyItem_34 (by decide)  (fun c_50 => ?_) (fun c_50 => ?_)
      ·
        refine z_aload_n hx dX9_isCosyItem_39 rfl 0 rfl ?_
        refine z_get hx dX9_isCosyItem_40 fl_X9_86 m_40 rfl ?_
        refine z_istore_n hx dX9_isCosyItem_43 rfl (by decide) [1, 2, 0] (lv' := [(0, .ref b), (1, .int (iI (Z_15 13))), (2, .int (iI (Z_39 13)))]) rfl ?_
        refine z_aload_n hx dX9_isCosyItem_44 rfl 0 rfl ?_
        refine z_iconst hx dX9_isCosyItem_45 ?_
        refine z_iconst hx dX9_isCosyItem_46 ?_
        refine z_cVJ (as := [.int (iI 1), .int (iI 4)]) (rest := []) hx dX9_isCosyItem_47 lk_X9_102 wm_X9_isNumber wv_X9_isNumber (rcv_obj hx m_40 rfl) mo_X9_isNumber (kX9_isNumber g (lo := 1) (hi := 4) (S := (sst S 0 Z_39)) ⟨m_40, m_41, m_42, m_43, m_44, m_45, m_46, m_47, m_48⟩ (show _ by exact hLZ_39) (show _ by exact hTZ_39) (show 0 ≤ (Z_39 10) ∧ (Z_39 10) ≤ (Z_39 8) by omega) (by omega) (by omega)) (by decide) rfl rfl (Nat.le_of_ble_eq_true rfl) (fun h_51 q_52 => ?_)
        show Zj g x (sz, 0, 0) h_51 50 [(0, .ref b), (1, .int (iI (Z_15 13))), (2, .int (iI (Z_39 13)))] [.int (iI (b2i (num (nxZ Z_39 (S 7)) 1 4)))]
        obtain ⟨⟨p_53, p_54, p_55, p_56, p_57, p_58, p_59, p_60, p_61⟩, hf_62⟩ := q_52
        obtain ⟨Z_63, eZ_63⟩ : ∃ F : Int → Int, F = nxZ Z_39 (S 7) := ⟨_, rfl⟩
        have m_64 : h_51 b = some (.inr (.inr (7, [.ref (b + 1), .ref (b + 2), .ref (b + 3), .ref (b + 4), .ref (b + 5), .ref (b + 6), .long (lI (Z_63 6)), .long (lI (Z_63 7)), .int (iI (Z_63 8)), .ref (b + 7), .int (iI (Z_63 10)), .int (iI (Z_63 11)), .int (iI (Z_63 12)), .int (iI (Z_63 13)), .long (lI (Z_63 14)), .int (iI (Z_63 15)), .ref (b + 8)]))) := by rw [eZ_63]; exact p_53
        have m_65 : h_51 (b + 1) = some (.inl (0, 267, S 1)) := p_54
        have m_66 : h_51 (b + 2) = some (.inl (0, 267, S 2)) := p_55
        have m_67 : h_51 (b + 3) = some (.inl (0, 267, S 3)) := p_56
        have m_68 : h_51 (b + 4) = some (.inl (0, 534, S 4)) := p_57
        have m_69 : h_51 (b + 5) = some (.inl (2, 2, S 5)) := p_58
        have m_70 : h_51 (b + 6) = some (.inl (0, 3, S 6)) := p_59
        have m_71 : h_51 (b + 7) = some (.inl (0, 150, S 7)) := p_60
        have m_72 : h_51 (b + 8) = some (.inl (0, 4, S 8)) := p_61
        have z6Z_63 : Z_63 6 = (Z_39 6) := by rw [eZ_63]; exact nxZ_n (by decide)
        have z7Z_63 : Z_63 7 = (Z_39 7) := by rw [eZ_63]; exact nxZ_n (by decide)
        have z8Z_63 : Z_63 8 = (Z_39 8) := by rw [eZ_63]; exact nxZ_n (by decide)
        have z15Z_63 : Z_63 15 = (Z_39 15) := by rw [eZ_63]; exact nxZ_n (by decide)
        have hzZ_63 : ((Z_39 10) ≤ Z_63 10 ∧ Z_63 10 ≤ (Z_39 8)) ∧ (Z_63 12 ≠ 0 → (Z_39 10) < Z_63 10) ∧ (0 ≤ Z_63 12 ∧ Z_63 12 ≤ 4) ∧ (0 ≤ Z_63 13 ∧ Z_63 13 ≤ 900) ∧ (-1 ≤ Z_63 14 ∧ Z_63 14 < 72057594037927936) ∧ ((Z_39 10) ≤ Z_63 11 ∧ Z_63 11 ≤ (Z_39 8)) := by rw [eZ_63]; exact nxZ_rg (Z := Z_39) (t := S 7) (show 0 ≤ (Z_39 10) ∧ (Z_39 10) ≤ (Z_39 8) by omega)
        have hLZ_63 : 0 ≤ Z_63 8 ∧ Z_63 8 ≤ 150 := by rw [z8Z_63]; exact hLZ_39
        have hTZ_63 : ∀ j, 0 ≤ j → j < Z_63 8 → 0 ≤ S 7 j ∧ S 7 j ≤ 127 := by rw [z8Z_63]; exact hTZ_39
        have fr_73 := fr_49.tr (hf_62.wd (by omega) (by omega))
        rw [← eZ_63]
        show Zj g x (sz, 0, 0) h_51 50 [(0, .ref b), (1, .int (iI (Z_15 13))), (2, .int (iI (Z_39 13)))] [.int (iI (b2i (Z_63 12 = 2 ∧ (1 ≤ Z_63 13 ∧ Z_63 13 ≤ 4))))]
        refine z_ifne_b (tgt := 55) hx dX9_isCosyItem_50 (by decide)  (fun c_74 => ?_) (fun c_74 => ?_)
        ·
          refine z_aload_n hx dX9_isCosyItem_55 rfl 0 rfl ?_
          refine z_get hx dX9_isCosyItem_56 fl_X9_16 m_64 rfl ?_
          refine z_iload_n hx dX9_isCosyItem_59 rfl 1 rfl ?_
          refine z_iload_n hx dX9_isCosyItem_60 rfl 2 rfl ?_
          refine z_aload_n hx dX9_isCosyItem_61 rfl 0 rfl ?_
          refine z_get hx dX9_isCosyItem_62 fl_X9_86 m_64 rfl ?_
          refine z_cSJ (as := [.ref (b + 3), .int (iI (Z_15 13)), .int (iI (Z_39 13)), .int (iI (Z_63 13))]) (rest := []) hx dX9_isCosyItem_65 lk_X9_62 wt_X9_addCosy mo_X9_addCosy (kX9_addCosy g (k := (Z_15 13)) (c := (Z_39 13)) (s := (Z_63 13)) m_67  (by omega)) (by decide) rfl rfl (Nat.le_of_ble_eq_true rfl) (fun h_75 q_76 => ?_)
          obtain ⟨hs_77, hf_78⟩ := q_76
          obtain ⟨f_79, ef_79⟩ : ∃ F : Int → Int, F = acs (S 3) (Z_15 13) (Z_39 13) (Z_63 13) := ⟨_, rfl⟩
          rw [← ef_79] at hs_77
          have h_80 := hf_78.at (by omega) m_64
          have h_81 := hf_78.at (by omega) m_65
          have h_82 := hf_78.at (by omega) m_66
          have h_83 := hf_78.at (by omega) m_68
          have h_84 := hf_78.at (by omega) m_69
          have h_85 := hf_78.at (by omega) m_70
          have h_86 := hf_78.at (by omega) m_71
          have h_87 := hf_78.at (by omega) m_72
          have fr_88 := fr_73.tr (hf_78.wd (by omega) (by omega))
          refine z_pop hx dX9_isCosyItem_68 rfl ?_
          refine z_iconst hx dX9_isCosyItem_69 ?_
          refine z_iret hx hr dX9_isCosyItem_70 rfl rfl (q_j (by first | (unfold itC; (try simp only [← eZ_15]); (try simp only [← eZ_39]); (try simp only [← eZ_63]); (try simp only [← ef_79]); (repeat (first | rw [if_pos (by omega)] | rw [if_neg (by omega)])); done) | (unfold itC; (try simp only [← eZ_15]); (try simp only [← eZ_39]); (try simp only [← eZ_63]); (try simp only [← ef_79]); (repeat (first | rw [if_pos (by omega)] | rw [if_neg (by omega)])); rfl) | (exfalso; omega)) (by first | (unfold itC; (try simp only [← eZ_15]); (try simp only [← eZ_39]); (try simp only [← eZ_63]); (try simp only [← ef_79]); (repeat (first | rw [if_pos (by omega)] | rw [if_neg (by omega)])); exact ⟨⟨h_80, h_81, h_82, hs_77, h_83, h_84, h_85, h_86, h_87⟩, fr_88⟩) | (exfalso; omega)))
        ·
          refine z_iconst hx dX9_isCosyItem_53 ?_
          refine z_iret hx hr dX9_isCosyItem_54 rfl rfl (q_j (by first | (unfold itC; (try simp only [← eZ_15]); (try simp only [← eZ_39]); (try simp only [← eZ_63]); (repeat (first | rw [if_pos (by omega)] | rw [if_neg (by omega)])); done) | (unfold itC; (try simp only [← eZ_15]); (try simp only [← eZ_39]); (try simp only [← eZ_63]); (repeat (first | rw [if_pos (by omega)] | rw [if_neg (by omega)])); rfl) | (exfalso; omega)) (by first | (unfold itC; (try simp only [← eZ_15]); (try simp only [← eZ_39]); (try simp only [← eZ_63]); (repeat (first | rw [if_pos (by omega)] | rw [if_neg (by omega)])); exact ⟨⟨m_64, m_65, m_66, m_67, m_68, m_69, m_70, m_71, m_72⟩, fr_73⟩) | (exfalso; omega)))
      ·
        refine z_iconst hx dX9_isCosyItem_37 ?_
        refine z_iret hx hr dX9_isCosyItem_38 rfl rfl (q_j (by first | (unfold itC; (try simp only [← eZ_15]); (try simp only [← eZ_39]); (repeat (first | rw [if_pos (by omega)] | rw [if_neg (by omega)])); done) | (unfold itC; (try simp only [← eZ_15]); (try simp only [← eZ_39]); (repeat (first | rw [if_pos (by omega)] | rw [if_neg (by omega)])); rfl) | (exfalso; omega)) (by first | (unfold itC; (try simp only [← eZ_15]); (try simp only [← eZ_39]); (repeat (first | rw [if_pos (by omega)] | rw [if_neg (by omega)])); exact ⟨⟨m_40, m_41, m_42, m_43, m_44, m_45, m_46, m_47, m_48⟩, fr_49⟩) | (exfalso; omega)))
    ·
      refine z_iconst hx dX9_isCosyItem_20 ?_
      refine z_iret hx hr dX9_isCosyItem_21 rfl rfl (q_j (by first | (unfold itC; (try simp only [← eZ_15]); (repeat (first | rw [if_pos (by omega)] | rw [if_neg (by omega)])); done) | (unfold itC; (try simp only [← eZ_15]); (repeat (first | rw [if_pos (by omega)] | rw [if_neg (by omega)])); rfl) | (exfalso; omega)) (by first | (unfold itC; (try simp only [← eZ_15]); (repeat (first | rw [if_pos (by omega)] | rw [if_neg (by omega)])); exact ⟨⟨m_16, m_17, m_18, m_19, m_20, m_21, m_22, m_23, m_24⟩, fr_25⟩) | (exfalso; omega)))

