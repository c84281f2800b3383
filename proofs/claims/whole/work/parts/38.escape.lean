/-! the class: the search for a way, pure -/
def fcW (p : Int) (X : (Int → Int) → Int) (f : Int → Int) : Int := fnd (fun w => decide (vld f p w ∧ X (hrW f p w) ≠ -1)) 5 0
def fc (p : Int) : Nat → (Int → Int) → Int
  | 0, f => if 1 ≤ f (17 + p) ∧ f (17 + p) ≤ 5 then 0 else -1
  | m + 1, f => if f (17 + p) = 0 then (if fcW p (fc p m) f = -1 then -1 else fcW p (fc p m) f * p5 (m : Int) + fc p m (hrW f p (fcW p (fc p m) f))) else -1
theorem fc_s (p : Int) (m : Nat) (f : Int → Int) : fc p (m + 1) f = if f (17 + p) = 0 then (if fcW p (fc p m) f = -1 then -1 else fcW p (fc p m) f * p5 (m : Int) + fc p m (hrW f p (fcW p (fc p m) f))) else -1 := rfl
theorem fnd_sp {P : Int → Bool} : ∀ (n : Nat) (i : Int), (fnd P n i = -1 ∧ ∀ w, i ≤ w → w < i + (n : Int) → ¬ P w = true) ∨ ((i ≤ fnd P n i ∧ fnd P n i < i + (n : Int)) ∧ P (fnd P n i) = true ∧ ∀ w, i ≤ w → w < fnd P n i → ¬ P w = true) := by
  intro n
  induction n with
  | zero => intro i; exact Or.inl ⟨rfl, fun w a b => by omega⟩
  | succ n ih =>
    intro i
    by_cases c : P i = true
    · have e : fnd P (n + 1) i = i := if_pos c
      rw [e]
      exact Or.inr ⟨by omega, c, fun w a b => by omega⟩
    · have e : fnd P (n + 1) i = fnd P n (i + 1) := if_neg c
      rw [e]
      rcases ih (i + 1) with ⟨h1, h2⟩ | ⟨h1, h2, h3⟩
      · exact Or.inl ⟨h1, fun w a b => by
          by_cases d : w = i
          · rw [d]; exact c
          · exact h2 w (by omega) (by omega)⟩
      · exact Or.inr ⟨by omega, h2, fun w a b => by
          by_cases d : w = i
          · rw [d]; exact c
          · exact h3 w (by omega) b⟩
theorem p5_q {m : Nat} (hm : m ≤ 3) : p5 (m : Int) = 1 ∨ p5 (m : Int) = 5 ∨ p5 (m : Int) = 25 ∨ p5 (m : Int) = 125 := by
  have : m = 0 ∨ m = 1 ∨ m = 2 ∨ m = 3 := by omega
  rcases this with rfl | rfl | rfl | rfl <;> decide
theorem p5_5 {m : Nat} (hm : m ≤ 3) : p5 ((m + 1 : Nat) : Int) = 5 * p5 (m : Int) := by
  have : m = 0 ∨ m = 1 ∨ m = 2 ∨ m = 3 := by omega
  rcases this with rfl | rfl | rfl | rfl <;> decide
theorem q_in {q w r : Int} (hq : q = 1 ∨ q = 5 ∨ q = 25 ∨ q = 125) (hw : 0 ≤ w ∧ w < 5) (hr : 0 ≤ r ∧ r < q) : (w * q + r) / q = w ∧ (w * q + r) % q = r ∧ 0 ≤ w * q + r ∧ w * q + r < 5 * q := by
  rcases hq with rfl | rfl | rfl | rfl <;> omega
theorem q_de {q c : Int} (hq : q = 1 ∨ q = 5 ∨ q = 25 ∨ q = 125) (hc : 0 ≤ c ∧ c < 5 * q) : (0 ≤ c / q ∧ c / q < 5) ∧ 0 ≤ c % q ∧ c % q < q := by
  rcases hq with rfl | rfl | rfl | rfl <;> omega
theorem q_lt {q c w r : Int} (hq : q = 1 ∨ q = 5 ∨ q = 25 ∨ q = 125) (h : c < w * q + r) (hc : 0 ≤ c) (hr : 0 ≤ r ∧ r < q) : c / q < w ∨ (c / q = w ∧ c % q < r) := by
  rcases hq with rfl | rfl | rfl | rfl <;> omega
/-- the number c tells a way of m hours by which p is under -/
def Pw (p : Int) : Nat → (Int → Int) → Int → Prop
  | 0, f, _ => 1 ≤ f (17 + p) ∧ f (17 + p) ≤ 5
  | m + 1, f, c => f (17 + p) = 0 ∧ vld f p (c / p5 (m : Int)) ∧ Pw p m (hrW f p (c / p5 (m : Int))) (c % p5 (m : Int))
theorem fc_sp (p : Int) : ∀ m : Nat, m ≤ 4 → ∀ f : Int → Int, (fc p m f = -1 ∧ ∀ c, 0 ≤ c → c < p5 (m : Int) → ¬ Pw p m f c) ∨ ((0 ≤ fc p m f ∧ fc p m f < p5 (m : Int)) ∧ Pw p m f (fc p m f) ∧ ∀ c, 0 ≤ c → c < fc p m f → ¬ Pw p m f c) := by
  intro m
  induction m with
  | zero =>
    intro _ f
    by_cases c : 1 ≤ f (17 + p) ∧ f (17 + p) ≤ 5
    · have e : fc p 0 f = 0 := if_pos c
      rw [e]
      exact Or.inr ⟨⟨by decide, by decide⟩, c, fun c a b => by omega⟩
    · have e : fc p 0 f = -1 := if_neg c
      exact Or.inl ⟨e, fun _ _ _ w => c w⟩
  | succ m ih =>
    intro hm f
    have hq := p5_q (m := m) (by omega)
    have h5 := p5_5 (m := m) (by omega)
    by_cases c : f (17 + p) = 0
    · rcases fnd_sp (P := fun w => decide (vld f p w ∧ fc p m (hrW f p w) ≠ -1)) 5 0 with ⟨h1, h2⟩ | ⟨h1, h2, h3⟩
      · have e : fc p (m + 1) f = -1 := by rw [fc_s, if_pos c]; exact if_pos (show fcW p (fc p m) f = -1 from h1)
        refine Or.inl ⟨e, fun c0 a b w => ?_⟩
        rw [h5] at b
        obtain ⟨_, w2, w3⟩ := w
        have d := q_de hq ⟨a, b⟩
        have n2 := h2 (c0 / p5 (m : Int)) d.1.1 (by omega)
        rcases ih (by omega) (hrW f p (c0 / p5 (m : Int))) with ⟨k1, k2⟩ | ⟨k1, _, _⟩
        · exact k2 _ d.2.1 d.2.2 w3
        · exact n2 (decide_eq_true ⟨w2, by omega⟩)
      · have h1' : 0 ≤ fcW p (fc p m) f ∧ fcW p (fc p m) f < 5 := ⟨h1.1, by have := h1.2; unfold fcW; omega⟩
        have h2' := of_decide_eq_true h2
        have h3' : ∀ w, 0 ≤ w → w < fcW p (fc p m) f → ¬ (vld f p w ∧ fc p m (hrW f p w) ≠ -1) := fun w a b z => h3 w a b (decide_eq_true z)
        have e : fc p (m + 1) f = fcW p (fc p m) f * p5 (m : Int) + fc p m (hrW f p (fcW p (fc p m) f)) := by rw [fc_s, if_pos c, if_neg (by omega)]
        change vld f p (fcW p (fc p m) f) ∧ fc p m (hrW f p (fcW p (fc p m) f)) ≠ -1 at h2'
        rcases ih (by omega) (hrW f p (fcW p (fc p m) f)) with ⟨k1, _⟩ | ⟨k1, k2, k3⟩
        · exact absurd k1 h2'.2
        · have d := q_in hq h1' k1
          rw [e, h5]
          refine Or.inr ⟨d.2.2, ⟨c, ?_, ?_⟩, fun c0 a b w => ?_⟩
          · rw [d.1]; exact h2'.1
          · rw [d.1, d.2.1]; exact k2
          · obtain ⟨_, w2, w3⟩ := w
            have dd := q_de hq (c := c0) ⟨a, by omega⟩
            rcases q_lt hq b a k1 with z | ⟨z, y⟩
            · have n3 := h3' _ dd.1.1 z
              rcases ih (by omega) (hrW f p (c0 / p5 (m : Int))) with ⟨j1, j2⟩ | ⟨j1, _, _⟩
              · exact j2 _ dd.2.1 dd.2.2 w3
              · exact n3 ⟨w2, by omega⟩
            · rw [z] at w3
              exact k3 _ dd.2.1 y w3
    · have e : fc p (m + 1) f = -1 := by rw [fc_s, if_neg c]
      exact Or.inl ⟨e, fun _ _ _ w => c w.1⟩
/-- the same number is the least -/
theorem fc_uq {p : Int} {m : Nat} (hm : m ≤ 4) {f : Int → Int} {c : Int} (hc : 0 ≤ c ∧ c < p5 (m : Int)) (h : Pw p m f c) (hl : ∀ c', 0 ≤ c' → c' < c → ¬ Pw p m f c') : fc p m f = c := by
  rcases fc_sp p m hm f with ⟨_, h2⟩ | ⟨h1, h2, h3⟩
  · exact absurd h (h2 c hc.1 hc.2)
  · rcases Int.lt_trichotomy (fc p m f) c with w | w | w
    · exact absurd h2 (hl _ h1.1 w)
    · exact w
    · exact absurd h (h3 _ hc.1 w)
theorem fc_no {p : Int} {m : Nat} (hm : m ≤ 4) {f : Int → Int} (hl : ∀ c', 0 ≤ c' → c' < p5 (m : Int) → ¬ Pw p m f c') : fc p m f = -1 := by
  rcases fc_sp p m hm f with ⟨h, _⟩ | ⟨h1, h2, h3⟩
  · exact h
  · exact absurd h2 (hl _ h1.1 h1.2)
-- the reference's search
theorem gob_bad {f : Int → Int} {p w : Int} (h7 : f 37 ≤ 6) (hp : 0 ≤ p ∧ p < f 37) (h : ¬ (f (17 + p) = 0 ∧ vld f p w)) : (gob f p w).1 = 0 := by
  have key : ∀ m : Nat, (m : Int) ≤ p → ∃ g : Int → Int, itI (m : Int) (gobG p w) (1, f) = (1, g) ∧ g (17 + p) = f (17 + p) ∧ g (11 + p) = f (11 + p) := by
    intro m
    induction m with
    | zero => intro _; exact ⟨f, rfl, rfl, rfl⟩
    | succ m ih =>
      intro hm
      obtain ⟨g, e, e1, e2⟩ := ih (by omega)
      rw [show ((m + 1 : Nat) : Int) = (m : Int) + 1 by omega, itI_s _ _ (by omega), e]
      refine ⟨goeG (m : Int) g, ?_, ?_, ?_⟩
      · unfold gobG; rw [if_neg (show ¬ (1 : Int) = 0 by decide), if_neg (show ¬ (m : Int) = p by omega)]
      · unfold goeG; split
        · rw [goes_oth (by omega) (by omega)]; exact e1
        · exact e1
      · unfold goeG; split
        · rw [goes_oth (by omega) (by omega)]; exact e2
        · exact e2
  obtain ⟨g, e, e1, e2⟩ := key p.toNat (by omega)
  rw [Int.toNat_of_nonneg hp.1] at e
  have e3 : itI (p + 1) (gobG p w) (1, f) = (0, g) := by
    rw [itI_s _ _ hp.1, e]
    unfold gobG
    rw [if_neg (show ¬ (1 : Int) = 0 by decide), if_pos rfl]
    refine if_neg (fun z => h ?_)
    unfold vld at z ⊢
    dsimp only at z
    rw [e1, e2] at z
    exact z
  have e4 := itI_dead (gobG_d p w) (n := p + 1) (m := f 37) (by omega) (by omega) e3
  unfold gob gobL
  rw [e4, if_pos rfl]
theorem iu_pw {R0 : Int → Int} {p n : Int} {C : Int → Int} {c : Int} (hn : 1 ≤ n ∧ n ≤ 4) (hR : inv R0) (hp : 0 ≤ p ∧ p < R0 37) (hc : 0 ≤ c ∧ c < p5 n) (hC : ∀ j, 0 ≤ j → j < n → C j = c / p5 (n - 1 - j) % 5) :
    ((itI n (iubG p C) (1, R0)).1 = 1 ∧ 1 ≤ (itI n (iubG p C) (1, R0)).2 (17 + p) ∧ (itI n (iubG p C) (1, R0)).2 (17 + p) ≤ 5) ↔ Pw p n.toNat R0 c := by
  have key : ∀ (m : Nat) (j : Int) (W : Int → Int), j + (m : Int) = n → 0 ≤ j → itI j (iubG p C) (1, R0) = (1, W) → inv W → W 37 = R0 37 →
      (((itI n (iubG p C) (1, R0)).1 = 1 ∧ 1 ≤ (itI n (iubG p C) (1, R0)).2 (17 + p) ∧ (itI n (iubG p C) (1, R0)).2 (17 + p) ≤ 5) ↔ Pw p m W (c % p5 (m : Int))) := by
    intro m
    induction m with
    | zero =>
      intro j W e0 _ e _ _
      rw [show n = j by omega, e]
      exact ⟨fun z => z.2, fun z => ⟨rfl, z⟩⟩
    | succ m ih =>
      intro j W e0 hj e hW e37
      have hq := p5_q (m := m) (by omega)
      have h5 := p5_5 (m := m) (by omega)
      have hCj : C j = c / p5 (m : Int) % 5 := by rw [hC j hj (by omega), show n - 1 - j = (m : Int) by omega]
      have d1 : c % p5 ((m + 1 : Nat) : Int) / p5 (m : Int) = c / p5 (m : Int) % 5 := by rw [h5]; rcases hq with q | q | q | q <;> rw [q] <;> omega
      have d2 : c % p5 ((m + 1 : Nat) : Int) % p5 (m : Int) = c % p5 (m : Int) := by rw [h5]; rcases hq with q | q | q | q <;> rw [q] <;> omega
      have e1 : itI (j + 1) (iubG p C) (1, R0) = gob W p (c / p5 (m : Int) % 5) := by
        rw [itI_s _ _ hj, e]; unfold iubG; rw [if_neg (show ¬ (1 : Int) = 0 by decide), hCj]
      by_cases hv : W (17 + p) = 0 ∧ vld W p (c / p5 (m : Int) % 5)
      · rw [hrW_gob hW.n.2.1.2 (by omega) hv.1 hv.2] at e1
        have hi := inv_hrW hW (r := p) (w := c / p5 (m : Int) % 5) (Or.inr ⟨by omega, hv.1, by omega, hv.2⟩)
        rw [ih (j + 1) _ (by omega) (by omega) e1 hi.1 (by rw [hi.2 37 (by decide)]; exact e37)]
        constructor
        · intro z; exact ⟨hv.1, by rw [d1]; exact hv.2, by rw [d1, d2]; exact z⟩
        · intro z; have z3 := z.2.2; rw [d1, d2] at z3; exact z3
      · have e2 := gob_bad (w := c / p5 (m : Int) % 5) hW.n.2.1.2 (show 0 ≤ p ∧ p < W 37 by omega) hv
        have e3 : itI (j + 1) (iubG p C) (1, R0) = (0, (gob W p (c / p5 (m : Int) % 5)).2) := by rw [e1, ← e2]
        have e4 := itI_dead (iubG_d p C) (n := j + 1) (m := n) (by omega) (by omega) e3
        rw [e4]
        constructor
        · intro z; exact absurd (show (0 : Int) = 1 from z.1) (by decide)
        · intro z; exact absurd ⟨z.1, by have := z.2.1; rw [d1] at this; exact this⟩ hv
  have k := key n.toNat 0 R0 (by omega) (by omega) rfl hR rfl
  rw [Int.toNat_of_nonneg (by omega), Int.emod_eq_of_lt hc.1 hc.2] at k
  exact k
theorem endH_neg {f : Int → Int} {j : Int} (hj : j < 0) : endH f j = f j := by
  have a2 : ∀ (n s : Int) (g : Int → Int), itI n (takG s) g j = g j := by
    intro n s g
    by_cases h : 0 ≤ n
    · exact itI_fn0 h j (fun i g h1 h2 => by unfold takG; exact fup_n (by omega))
    · unfold itI; rw [show n.toNat = 0 by omega]; rfl
  have a3 : ∀ (g : Int → Int) (s : Int), 0 ≤ s → hunts g s j = g j := by
    intro g s hs
    unfold hunts
    rw [a2]
    unfold hun1
    split
    · rfl
    · exact fup_n (by omega)
  have a4 : ∀ (g : Int → Int), sheL g j = g j := by
    intro g
    unfold sheL
    by_cases h : 0 ≤ g 38
    · exact itI_fn0 h j (fun i g h1 h2 => a3 g i h1)
    · unfold itI; rw [show (g 38).toNat = 0 by omega]; rfl
  have a5 : ∀ (k n : Int) (g : Int → Int), dnI n (werG k) g j = g j := by
    intro k n g
    by_cases h : 0 ≤ n
    · exact dnI_ind (fun _ g' => g' j = g j) (werG k) h (fun i g' h1 h2 h3 => by unfold werG; rw [fup_n (by omega)]; exact h3) g rfl
    · rw [dnI_0 _ _ (by omega)]
  have a6 : ∀ (g : Int → Int) (k : Int), 0 ≤ k → wears g k j = g j := by
    intro g k hk
    unfold wears
    rw [a5]
    unfold wer1
    exact fup_n (by omega)
  have a7 : ∀ (g : Int → Int), weaL g j = g j := by
    intro g
    unfold weaL
    by_cases h : 0 ≤ g 26
    · exact itI_fn0 h j (fun i g h1 h2 => a6 g i h1)
    · unfold itI; rw [show (g 26).toNat = 0 by omega]; rfl
  unfold endH
  rw [fup_n (by omega), a7, a4]
theorem goes_neg {f : Int → Int} {q j : Int} (hq : 0 ≤ q) (hj : j < 0) : goes f q j = f j := goes_oth (by omega) (by omega)
theorem gob_neg {f : Int → Int} {p w j : Int} (hp : 0 ≤ p) (hn : 0 ≤ f 37) (hj : j < 0) : (gob f p w).2 j = f j := by
  have a1 : (gobL f p w).2 j = f j := by
    unfold gobL
    refine itI_ind (fun _ (r : Int × (Int → Int)) => r.2 j = f j) _ _ hn rfl (fun q r h1 h2 h3 => ?_)
    unfold gobG
    split
    · exact h3
    · split
      · split
        · exact (cho_oth (by omega) (by omega)).trans h3
        · exact h3
      · refine Eq.trans ?_ h3
        show goeG q r.2 j = r.2 j
        unfold goeG
        split
        · exact goes_neg h1 hj
        · rfl
  unfold gob
  split
  · exact a1
  · show endH _ j = f j
    rw [endH_neg hj]; exact a1
theorem cpn_iub {f T : Int → Int} (h : inv f) (hT : outR T) {p n : Int} {C : Int → Int} (hp : 0 ≤ p ∧ p < f 37) (hn : 0 ≤ n) : cpn f (iub f p n C T).2 = cpn f T := by
  have e37 : cpn f T 37 = f 37 := cpn_in (by decide)
  have hneg : ∀ j, j < 0 → (iub f p n C T).2 j = cpn f T j := by
    intro j hj
    refine (itI_ind (fun _ (r : Int × (Int → Int)) => (inv r.2 ∧ cfx (cpn f T) r.2) ∧ r.2 j = cpn f T j) (iubG p C) (1, cpn f T) hn ⟨⟨inv_cpn h hT, cfx.rf⟩, rfl⟩ (fun q r h1 h2 h3 => ?_)).2
    have e := h3.1.2 37 (by decide)
    unfold iubG
    split
    · exact h3
    · have := (inv_gob h3.1.1 (p := p) (by omega) (C q)).1
      exact ⟨⟨this.1, h3.1.2.tr this.2⟩, by rw [gob_neg hp.1 (by omega) hj]; exact h3.2⟩
  have hhi := (inv_iub h hT (C := C) hp hn).2
  funext j
  by_cases c : 0 ≤ j ∧ j < 58
  · rw [cpn_in c, cpn_in c]
  · have z : ∀ X : Int → Int, cpn f X j = X j := fun X => by unfold cpn; rw [fcp_out (by omega)]
    rw [z, z]
    by_cases d : j < 0
    · rw [hneg j d, z]
    · rw [hhi j (by omega), z]
theorem outR_R0 {f T R0 : Int → Int} (h : inv R0) (e : cpn f T = R0) : outR T := fun j hj => by
  have := h.1 j (by omega)
  rw [← e] at this
  unfold cpn at this
  rw [fcp_out (by omega)] at this
  exact this
theorem rnI_fc {f R0 : Int → Int} {p n : Int} (hn : 1 ≤ n ∧ n ≤ 4) (hI : inv f) (hR : inv R0) (hp : 0 ≤ p ∧ p < f 37) (h37 : R0 37 = f 37) : ∀ (d : Nat) (c : Int) (T C : Int → Int), (p5 n - c).toNat = d → 0 ≤ c → c ≤ p5 n → cpn f T = R0 → (∀ c', 0 ≤ c' → c' < c → ¬ Pw p n.toNat R0 c') →
    cpn f (rnI f p n d c T C).2.1 = R0 ∧ (rnI f p n d c T C).1 = fc p n.toNat R0 ∧ ((rnI f p n d c T C).1 ≠ -1 → ∀ j, 0 ≤ j → j < n → (rnI f p n d c T C).2.2 j = (rnI f p n d c T C).1 / p5 (n - 1 - j) % 5) := by
  have hm : (n.toNat : Int) = n := Int.toNat_of_nonneg (by omega)
  intro d
  induction d with
  | zero =>
    intro c T C e0 h0 h1 e hl
    refine ⟨e, ?_, fun z => absurd rfl z⟩
    refine (fc_no (by omega) (fun c' a b => ?_)).symm
    rw [hm] at b
    exact hl c' a (by omega)
  | succ d ih =>
    intro c T C e0 h0 h1 e hl
    have hc : c < p5 n := by omega
    have pw := iu_pw (C := chF n c C) (c := c) hn hR (show 0 ≤ p ∧ p < R0 37 by omega) ⟨h0, hc⟩ (fun j a b => by unfold chF; rw [if_pos ⟨a, b⟩])
    have hu : iuP f p n (chF n c C) T ↔ Pw p n.toNat R0 c := by
      unfold iuP iub; rw [e]; exact pw
    by_cases w : iuP f p n (chF n c C) T
    · have er : rnI f p n (d + 1) c T C = (c, (iub f p n (chF n c C) T).2, chF n c C) := if_pos w
      rw [er]
      refine ⟨by rw [cpn_iub hI (outR_R0 hR e) hp (by omega)]; exact e, ?_, fun _ j a b => by show chF n c C j = _; unfold chF; rw [if_pos ⟨a, b⟩]⟩
      exact (fc_uq (by omega) ⟨h0, by rw [hm]; exact hc⟩ (hu.mp w) hl).symm
    · have er : rnI f p n (d + 1) c T C = rnI f p n d (c + 1) (iub f p n (chF n c C) T).2 (chF n c C) := if_neg w
      rw [er]
      exact ih (c + 1) _ _ (by omega) (by omega) (by omega) (by rw [cpn_iub hI (outR_R0 hR e) hp (by omega)]; exact e) (fun c' a b => by
        by_cases z : c' = c
        · rw [z]; exact fun y => w (hu.mpr y)
        · exact hl c' a (by omega))
def nH (p : Int) (R0 : Int → Int) : Int := fnd (fun n => decide (fc p n.toNat R0 ≠ -1)) 4 1
theorem rnO_fc {f R0 : Int → Int} {p : Int} (hI : inv f) (hR : inv R0) (hp : 0 ≤ p ∧ p < f 37) (h37 : R0 37 = f 37) : ∀ (d : Nat) (n : Int) (T C : Int → Int), n + (d : Int) = 5 → 1 ≤ n → cpn f T = R0 →
    (rnO f p d n T C).1 = fnd (fun n => decide (fc p n.toNat R0 ≠ -1)) d n ∧ ((rnO f p d n T C).1 ≠ -1 → ∀ j, 0 ≤ j → j < (rnO f p d n T C).1 → (rnO f p d n T C).2.2.2 j = fc p (rnO f p d n T C).1.toNat R0 / p5 ((rnO f p d n T C).1 - 1 - j) % 5) := by
  intro d
  induction d with
  | zero => intro n T C _ _ _; exact ⟨rfl, fun z => absurd rfl z⟩
  | succ d ih =>
    intro n T C e0 h1 e
    have hr := rnI_fc (p := p) (n := n) ⟨h1, by omega⟩ hI hR hp h37 (p5 n).toNat 0 T C (by rw [Int.sub_zero]) (by decide) (by have := p5_rg n; omega) e (fun c' a b => by omega)
    by_cases c : (rnI f p n (p5 n).toNat 0 T C).1 = -1
    · have er : rnO f p (d + 1) n T C = rnO f p d (n + 1) (rnI f p n (p5 n).toNat 0 T C).2.1 (rnI f p n (p5 n).toNat 0 T C).2.2 := if_pos c
      have ef : fnd (fun n => decide (fc p n.toNat R0 ≠ -1)) (d + 1) n = fnd (fun n => decide (fc p n.toNat R0 ≠ -1)) d (n + 1) := if_neg (c := (decide (fc p n.toNat R0 ≠ -1) = true)) (fun w => of_decide_eq_true (p := fc p n.toNat R0 ≠ -1) w (hr.2.1.symm.trans c))
      rw [er, ef]
      exact ih (n + 1) _ _ (by omega) (by omega) hr.1
    · have er : rnO f p (d + 1) n T C = (n, rnI f p n (p5 n).toNat 0 T C) := if_neg c
      have ef : fnd (fun n => decide (fc p n.toNat R0 ≠ -1)) (d + 1) n = n := if_pos (c := (decide (fc p n.toNat R0 ≠ -1) = true)) (decide_eq_true (p := fc p n.toNat R0 ≠ -1) (fun z => c (hr.2.1.trans z)))
      rw [er, ef]
      refine ⟨rfl, fun _ j a b => ?_⟩
      have q := hr.2.2 c j a b
      rw [hr.2.1] at q
      exact q
theorem run_fc {S : Nat → Int → Int} (hV : invM S) {p : Int} (hp : 0 ≤ p ∧ p < S 1 37) : (rnR S p).1 = nH p (cpn (S 1) (S 2)) ∧ ((rnR S p).1 ≠ -1 → ∀ j, 0 ≤ j → j < (rnR S p).1 → (rnR S p).2.2.2 j = fc p (rnR S p).1.toNat (cpn (S 1) (S 2)) / p5 ((rnR S p).1 - 1 - j) % 5) :=
  rnO_fc hV.1.1 (inv_T hV) hp (cpn_in (by decide)) 4 1 (S 2) (S 8) (by decide) (by decide) rfl
-- no way is cut off that leads under in time
def enR (f g : Int → Int) : Prop := (∀ k, 0 ≤ k → k < 5 → g (1 + k) = f (1 + k) ∧ f (6 + k) ≤ g (6 + k)) ∧ cfx f g ∧ ∀ p, 0 ≤ p → p < 6 → g (11 + p) = f (11 + p) ∧ (1 ≤ g (17 + p) → g (17 + p) ≤ 5 → g (17 + p) = f (17 + p))
theorem enR.rf {f : Int → Int} : enR f f := ⟨fun _ _ _ => ⟨rfl, Int.le_refl _⟩, cfx.rf, fun _ _ _ => ⟨rfl, fun _ _ => rfl⟩⟩
theorem enR.tr {f g e : Int → Int} (a : enR f g) (b : enR g e) : enR f e := by
  refine ⟨fun k x y => ?_, a.2.1.tr b.2.1, fun p x y => ?_⟩
  · have q1 := a.1 k x y; have q2 := b.1 k x y; omega
  · have q1 := a.2.2 p x y; have q2 := b.2.2 p x y
    refine ⟨q2.1.trans q1.1, fun u v => ?_⟩
    have q3 := q2.2 u v
    rw [q3] at u v
    exact q3.trans (q1.2 u v)
theorem en_st {g : Int → Int} {q v : Int} (hq : 0 ≤ q ∧ q < 6) (hv : v = g (17 + q) ∨ v = 0 ∨ v = 6) : enR g (fup g (17 + q) v) := by
  refine ⟨fun k x y => ⟨fup_n (by omega), by rw [fup_n (by omega)]; exact Int.le_refl _⟩, cfx_fup (by omega), fun p x y => ⟨fup_n (by omega), fun u w => ?_⟩⟩
  by_cases c : p = q
  · subst c; rw [fup_s] at u w ⊢; omega
  · exact fup_n (by omega)
theorem en_endH {f : Int → Int} (h : inv f) : enR f (endH f) := by
  have hn := h.n
  have hs : inv (sheL f) ∧ enR f (sheL f) := by
    have := itI_ind (fun _ g => (inv g ∧ cfx f g) ∧ enR f g) huG f hn.2.2.1 ⟨⟨h, cfx.rf⟩, enR.rf⟩ (fun s g h1 h2 h3 => ?_)
    · exact ⟨this.1.1, this.2⟩
    · have e38 := h3.1.2 38 (by decide)
      have e37 := h3.1.2 37 (by decide)
      have q := inv_hunts h3.1.1 (s := s) ⟨h1, by omega⟩
      refine ⟨⟨q.1, h3.1.2.tr q.2⟩, h3.2.tr ?_⟩
      show enR g (hunts g s)
      unfold hunts
      refine itI_ind (fun _ e => enR g e) _ _ (by omega) ?_ (fun i e a b z => z.tr ?_)
      · unfold hun1
        split
        · exact enR.rf
        · exact ⟨fun k x y => ⟨fup_n (by omega), by rw [fup_n (by omega)]; exact Int.le_refl _⟩, cfx_fup (by omega), fun p x y => ⟨fup_n (by omega), fun _ _ => fup_n (by omega)⟩⟩
      · unfold takG
        exact en_st ⟨a, by omega⟩ (by split <;> simp)
  have hw : enR f (weaL (sheL f)) := by
    have hn2 := hs.1.n
    refine hs.2.tr ?_
    have := itI_ind (fun _ g => (inv g ∧ cfx (sheL f) g) ∧ enR (sheL f) g) weG (sheL f) hn2.1.1 ⟨⟨hs.1, cfx.rf⟩, enR.rf⟩ (fun k g h1 h2 h3 => ?_)
    · exact this.2
    · have e26 := h3.1.2 26 (by decide)
      have e37 := h3.1.2 37 (by decide)
      have q := inv_wears h3.1.1 (k := k) ⟨h1, by omega⟩
      refine ⟨⟨q.1, h3.1.2.tr q.2⟩, h3.2.tr ?_⟩
      show enR g (wears g k)
      unfold wears
      have hk := h3.1.1.k k (by omega)
      have hpc := pcu_rg h3.1.1 k
      have hwb := wby_rg (k := g (27 + k)) hpc
      have e1 : enR g (wer1 g k) := by
        unfold wer1
        refine ⟨fun j x y => ⟨fup_n (by omega), ?_⟩, cfx_fup (by omega), fun p x y => ⟨fup_n (by omega), fun _ _ => fup_n (by omega)⟩⟩
        by_cases c : j = k
        · subst c; rw [fup_s]; split <;> omega
        · rw [fup_n (by omega)]; exact Int.le_refl _
      exact dnI_ind (fun _ e => enR g e) (werG k) (by omega) (fun i e a b z => z.tr (by unfold werG; exact en_st ⟨a, by omega⟩ (by split <;> simp))) _ e1
  unfold endH
  exact hw.tr ⟨fun k x y => ⟨fup_n (by omega), by rw [fup_n (by omega)]; exact Int.le_refl _⟩, cfx_fup (by omega), fun p x y => ⟨fup_n (by omega), fun _ _ => fup_n (by omega)⟩⟩
theorem cho_c {g : Int → Int} {p w : Int} : (w = 4 ∧ goal g p ≠ -1 ∧ g (1 + goal g p) = g (11 + p) ∧ cho g p w = fup g (17 + p) (1 + goal g p)) ∨ (w = 4 ∧ cho g p w = g) ∨ (w ≠ 4 ∧ cho g p w = fup g (11 + p) (bsd (g (11 + p)) w)) := by
  unfold cho
  split
  · split
    · next a b => exact Or.inl ⟨a, b.1, b.2, rfl⟩
    · next a b => exact Or.inr (Or.inl ⟨a, rfl⟩)
  · next a => exact Or.inr (Or.inr ⟨a, rfl⟩)
theorem mvs {f : Int → Int} (h : inv f) {p w : Int} (hp : 0 ≤ p ∧ p < f 37) (h0 : f (17 + p) = 0) (hv : vld f p w) :
    (∀ j, 0 ≤ j → j < 11 → itI (f 37) (fleG p w) f j = f j) ∧ cfx f (itI (f 37) (fleG p w) f) ∧ (itI (f 37) (fleG p w) f (11 + p) = f (11 + p) ∨ itI (f 37) (fleG p w) f (11 + p) = bsd (f (11 + p)) w) ∧
    (1 ≤ itI (f 37) (fleG p w) f (17 + p) → ∃ k, (0 ≤ k ∧ k < f 26) ∧ 0 < hlf f k ∧ f (1 + k) = f (11 + p)) ∧ inv (itI (f 37) (fleG p w) f) := by
  have hn := h.n
  have key : ∀ m : Nat, (m : Int) ≤ f 37 → inv (itI (m : Int) (fleG p w) f) ∧ (∀ j, 0 ≤ j → j < 11 → itI (m : Int) (fleG p w) f j = f j) ∧ cfx f (itI (m : Int) (fleG p w) f) ∧ ((m : Int) ≤ p → itI (m : Int) (fleG p w) f (17 + p) = 0 ∧ itI (m : Int) (fleG p w) f (11 + p) = f (11 + p)) ∧
      (p < (m : Int) → (itI (m : Int) (fleG p w) f (11 + p) = f (11 + p) ∨ itI (m : Int) (fleG p w) f (11 + p) = bsd (f (11 + p)) w) ∧ (1 ≤ itI (m : Int) (fleG p w) f (17 + p) → ∃ k, (0 ≤ k ∧ k < f 26) ∧ 0 < hlf f k ∧ f (1 + k) = f (11 + p))) := by
    intro m
    induction m with
    | zero => intro _; exact ⟨h, fun _ _ _ => rfl, cfx.rf, fun _ => ⟨h0, rfl⟩, fun a => by omega⟩
    | succ m ih =>
      intro hm
      obtain ⟨i0, i1, i2, i3, i4⟩ := ih (by omega)
      rw [show ((m + 1 : Nat) : Int) = (m : Int) + 1 by omega, itI_s _ _ (by omega)]
      obtain ⟨g, eg⟩ : ∃ g : Int → Int, g = itI (m : Int) (fleG p w) f := ⟨_, rfl⟩
      rw [← eg] at i0 i1 i2 i3 i4 ⊢
      have lo : ∀ j, j ≠ 17 + (m : Int) → j ≠ 11 + (m : Int) → fleG p w (m : Int) g j = g j := fun j a b => fleG_oth a b
      have g37 := i2 37 (by decide)
      refine ⟨?_, fun j a b => (lo j (by omega) (by omega)).trans (i1 j a b), fun j a => (lo j (by omega) (by omega)).trans (i2 j a), fun a => ?_, fun a => ?_⟩
      · by_cases c : (m : Int) = p
        · obtain ⟨z1, z2⟩ := i3 (by omega)
          rw [c, fleG_p z1]
          exact (inv_cho i0 (by omega) z1 (by unfold vld at hv ⊢; rw [z2]; exact hv)).1
        · have e : fleG p w (m : Int) g = goeG (m : Int) g := by unfold fleG goeG; rw [if_neg c]
          rw [e]
          exact (inv_goeG i0 (by omega)).1
      · rw [lo _ (by omega) (by omega), lo _ (by omega) (by omega)]; exact i3 (by omega)
      · by_cases c : (m : Int) = p
        · obtain ⟨z1, z2⟩ := i3 (by omega)
          rw [c, fleG_p z1]
          rcases cho_c (g := g) (p := p) (w := w) with ⟨c1, c2, c3, c4⟩ | ⟨c1, c4⟩ | ⟨c1, c4⟩
          · rw [c4]
            have gr := gol_rg (f := g) (p := p) (n := g 26) (by rw [i2 26 (by decide)]; omega)
            have ge : goal g p = itI (g 26) (golG g p) (-1) := rfl
            rw [← ge] at gr
            have g26 := i2 26 (by decide)
            have hk : 0 ≤ goal g p ∧ goal g p < f 26 := by omega
            have eh : hlf g (goal g p) = hlf f (goal g p) := hlf_ext (i2 _ (by omega)) (i2 _ (by omega)) (i1 _ (by omega) (by omega))
            have hpc := popc_rg (v := und g (goal g p))
            refine ⟨Or.inl (by rw [fup_n (by omega)]; exact z2), fun _ => ⟨goal g p, hk, by omega, ?_⟩⟩
            rw [← i1 _ (by omega) (by omega), c3, z2]
          · rw [c4]; exact ⟨Or.inl z2, fun a => by omega⟩
          · rw [c4]
            exact ⟨Or.inr (by rw [fup_s, z2]), fun a => by rw [fup_n (by omega)] at a; omega⟩
        · rw [lo _ (by omega) (by omega), lo _ (by omega) (by omega)]; exact i4 (by omega)
  have k := key (f 37).toNat (by omega)
  rw [Int.toNat_of_nonneg (by omega)] at k
  exact ⟨k.2.1, k.2.2.1, (k.2.2.2.2 hp.2).1, (k.2.2.2.2 hp.2).2, k.1⟩
theorem far_bsd {a b w : Int} (ha : 0 ≤ a ∧ a < 24) (hb : 0 ≤ b ∧ b < 24) (h : bsd a w ≠ -1) : far a b ≤ far (bsd a w) b + 1 := by
  revert h
  unfold bsd far ab
  (repeat' split) <;> intro h <;> omega
theorem far_self (a : Int) : far a a = 0 := by unfold far ab; split <;> split <;> omega
theorem hol_mono {k s w w' : Int} (hs : 0 ≤ s ∧ s ≤ 4) (hw : 0 ≤ w) (h : w ≤ w') : hol k s w' ≤ hol k s w := by unfold hol pln wol; (repeat' split) <;> omega
theorem fht_le {f : Int → Int} {p k : Int} : ∀ n : Nat, 0 ≤ k → k < (n : Int) → 0 < hlf f k → itI (n : Int) (fhtG f p) 9 ≤ far (f (11 + p)) (f (1 + k)) := by
  intro n
  induction n with
  | zero => intro a b; omega
  | succ n ih =>
    intro a b c
    rw [show ((n + 1 : Nat) : Int) = (n : Int) + 1 by omega, itI_s _ _ (by omega)]
    have mc := mn_c (itI (n : Int) (fhtG f p) 9) (far (f (11 + p)) (f (1 + (n : Int))))
    unfold fhtG at mc ⊢
    by_cases d : k = (n : Int)
    · rw [← d] at mc ⊢
      rw [if_pos c]; omega
    · have e := ih a (by omega) c
      unfold fhtG at e
      split <;> omega
theorem fht_at {f : Int → Int} {p : Int} : ∀ n : Nat, itI (n : Int) (fhtG f p) 9 = 9 ∨ ∃ k, (0 ≤ k ∧ k < (n : Int)) ∧ 0 < hlf f k ∧ itI (n : Int) (fhtG f p) 9 = far (f (11 + p)) (f (1 + k)) := by
  intro n
  induction n with
  | zero => exact Or.inl rfl
  | succ n ih =>
    rw [show ((n + 1 : Nat) : Int) = (n : Int) + 1 by omega, itI_s _ _ (by omega)]
    have e : fhtG f p (n : Int) (itI (n : Int) (fhtG f p) 9) = (if 0 < hlf f (n : Int) then mnI (itI (n : Int) (fhtG f p) 9) (far (f (11 + p)) (f (1 + (n : Int)))) else itI (n : Int) (fhtG f p) 9) := rfl
    rw [e]
    have old : itI (n : Int) (fhtG f p) 9 = 9 ∨ ∃ k, (0 ≤ k ∧ k < (n : Int) + 1) ∧ 0 < hlf f k ∧ itI (n : Int) (fhtG f p) 9 = far (f (11 + p)) (f (1 + k)) := ih.imp id (fun ⟨k, a, b⟩ => ⟨k, by omega, b⟩)
    by_cases c : 0 < hlf f (n : Int)
    · rw [if_pos c]
      rcases mn_c (itI (n : Int) (fhtG f p) 9) (far (f (11 + p)) (f (1 + (n : Int)))) with q | q
      · rw [q.1]; exact old
      · rw [q.1]; exact Or.inr ⟨(n : Int), by omega, c, rfl⟩
    · rw [if_neg c]; exact old
theorem fc_b {p : Int} {m : Nat} {f : Int → Int} (h : f (17 + p) ≠ 0) : fc p (m + 1) f = -1 := by rw [fc_s, if_neg h]
theorem fc_pr {p : Int} : ∀ (m : Nat) (f : Int → Int), inv f → 0 ≤ p ∧ p < f 37 → f (17 + p) = 0 → fc p m f ≠ -1 → fht f p ≤ (m : Int) := by
  intro m
  induction m with
  | zero => intro f _ _ h0 hc; exact absurd (if_neg (by omega)) hc
  | succ m ih =>
    intro f hI hp h0 hc
    have hn := hI.n
    rw [fc_s, if_pos h0] at hc
    rcases fnd_sp (P := fun w => decide (vld f p w ∧ fc p m (hrW f p w) ≠ -1)) 5 0 with ⟨h1, _⟩ | ⟨h1, h2, _⟩
    · exact absurd (if_pos h1) hc
    · obtain ⟨w, ew⟩ : ∃ w : Int, w = fnd (fun w => decide (vld f p w ∧ fc p m (hrW f p w) ≠ -1)) 5 0 := ⟨_, rfl⟩
      rw [← ew] at h1 h2
      have hv := of_decide_eq_true h2
      have hg := inv_hrW hI (r := p) (w := w) (Or.inr ⟨hp, h0, ⟨h1.1, by have := h1.2; omega⟩, hv.1⟩)
      have ip := hI.p p (by omega)
      have mv := mvs hI hp h0 hv.1
      have fr := fht_rg hI (p := p) (n := f 26) (by omega) hn.1
      have e26 : ((f 26).toNat : Int) = f 26 := Int.toNat_of_nonneg hn.1.1
      obtain ⟨L, eL⟩ : ∃ L : Int → Int, L = itI (f 37) (fleG p w) f := ⟨_, rfl⟩
      obtain ⟨g, eg⟩ : ∃ g : Int → Int, g = hrW f p w := ⟨_, rfl⟩
      have egL : g = endH L := by rw [eg, eL]; rfl
      rw [← eL] at mv
      rw [← eg] at hg hv
      obtain ⟨v1, v2, v3, v4, v5⟩ := mv
      have en := en_endH v5
      rw [← egL] at en
      have en9 := en.2.2 p hp.1 (by omega)
      have g26 := hg.2 26 (by decide)
      have g37 := hg.2 37 (by decide)
      unfold fht
      by_cases c : g (17 + p) = 0
      · have q := ih g hg.1 (by omega) c hv.2
        unfold fht at q
        rw [g26] at q
        have hc9 := hg.1.p p (by omega)
        rcases fht_at (f := g) (p := p) (f 26).toNat with z | ⟨k, z1, z2, z3⟩
        · rw [e26] at z; omega
        · rw [e26] at z1 z3
          have kk := hI.k k (by omega)
          have ek := en.1 k (by omega) (by omega)
          have l1 := v1 (1 + k) (by omega) (by omega)
          have l6 := v1 (6 + k) (by omega) (by omega)
          have hm : hlf g k ≤ hlf f k := by
            unfold hlf
            rw [hg.2 (27 + k) (by omega), hg.2 (32 + k) (by omega)]
            exact hol_mono kk.2.2.2.1 kk.2.1.1 (by omega)
          have le := fht_le (f := f) (p := p) (k := k) (f 26).toNat (by omega) (by omega) (by omega)
          rw [e26] at le
          rw [show g (1 + k) = f (1 + k) by omega] at z3
          have far9 : far (f (11 + p)) (f (1 + k)) ≤ far (g (11 + p)) (f (1 + k)) + 1 := by
            rw [en9.1]
            rcases v3 with y | y
            · rw [y]; omega
            · rw [y]; exact far_bsd ip.1 kk.1 hv.1
          omega
      · have hm0 : m = 0 := by
          cases m with
          | zero => rfl
          | succ m => exact absurd (fc_b c) hv.2
        subst hm0
        have hu : 1 ≤ g (17 + p) ∧ g (17 + p) ≤ 5 := by
          by_cases z : 1 ≤ g (17 + p) ∧ g (17 + p) ≤ 5
          · exact z
          · exact absurd (show fc p 0 g = -1 from if_neg z) hv.2
        have e9 := en9.2 hu.1 hu.2
        obtain ⟨k, k1, k2, k3⟩ := v4 (by omega)
        have le := fht_le (f := f) (p := p) (k := k) (f 26).toNat (by omega) (by omega) k2
        rw [e26, k3, far_self] at le
        omega
-- what the class needs, a step at a time
theorem fc_y {p w : Int} {m : Nat} (hm : m ≤ 3) {f : Int → Int} (h0 : f (17 + p) = 0) (hw : 0 ≤ w ∧ w < 5) (hv : vld f p w) (hl : ∀ w', 0 ≤ w' → w' < w → ¬ (vld f p w' ∧ fc p m (hrW f p w') ≠ -1)) (hc : fc p m (hrW f p w) ≠ -1) :
    fc p (m + 1) f = w * p5 (m : Int) + fc p m (hrW f p w) ∧ (0 ≤ fc p m (hrW f p w) ∧ fc p m (hrW f p w) < p5 (m : Int)) ∧ fc p (m + 1) f ≠ -1 := by
  have hr : 0 ≤ fc p m (hrW f p w) ∧ fc p m (hrW f p w) < p5 (m : Int) := by
    rcases fc_sp p m (by omega) (hrW f p w) with ⟨z, _⟩ | ⟨z, _⟩
    · exact absurd z hc
    · exact z
  have ew : fcW p (fc p m) f = w := by
    rcases fnd_sp (P := fun w => decide (vld f p w ∧ fc p m (hrW f p w) ≠ -1)) 5 0 with ⟨_, h2⟩ | ⟨h1, h2, h3⟩
    · exact absurd (decide_eq_true ⟨hv, hc⟩) (h2 w hw.1 (by omega))
    · show fnd (fun w => decide (vld f p w ∧ fc p m (hrW f p w) ≠ -1)) 5 0 = w
      rcases Int.lt_trichotomy (fnd (fun w => decide (vld f p w ∧ fc p m (hrW f p w) ≠ -1)) 5 0) w with z | z | z
      · exact absurd (of_decide_eq_true h2) (hl _ h1.1 z)
      · exact z
      · exact absurd (decide_eq_true ⟨hv, hc⟩) (h3 w hw.1 z)
  have e : fc p (m + 1) f = w * p5 (m : Int) + fc p m (hrW f p w) := by rw [fc_s, if_pos h0, ew, if_neg (by omega)]
  have d := q_in (p5_q hm) hw hr
  exact ⟨e, hr, by rw [e]; omega⟩
theorem fc_n {p : Int} {m : Nat} {f : Int → Int} (hl : ∀ w', 0 ≤ w' → w' < 5 → ¬ (vld f p w' ∧ fc p m (hrW f p w') ≠ -1)) : fc p (m + 1) f = -1 := by
  rw [fc_s]
  split
  · rcases fnd_sp (P := fun w => decide (vld f p w ∧ fc p m (hrW f p w) ≠ -1)) 5 0 with ⟨h1, _⟩ | ⟨h1, h2, _⟩
    · exact if_pos h1
    · exact absurd (of_decide_eq_true h2) (hl _ h1.1 (by have := h1.2; omega))
  · rfl
/-- the figures of a number of m + 1 figures -/
theorem dig_s {m : Nat} (hm : m ≤ 3) {w r j : Int} (hw : 0 ≤ w ∧ w < 5) (hr : 0 ≤ r ∧ r < p5 (m : Int)) (hj : 0 ≤ j ∧ j ≤ (m : Int)) : (w * p5 (m : Int) + r) / p5 ((m : Int) - j) % 5 = if j = 0 then w else r / p5 ((m : Int) - 1 - (j - 1)) % 5 := by
  have h4 : j = 0 ∨ j = 1 ∨ j = 2 ∨ j = 3 := by omega
  have hm4 : m = 0 ∨ m = 1 ∨ m = 2 ∨ m = 3 := by omega
  have p0 : p5 0 = 1 := rfl
  have p1 : p5 1 = 5 := rfl
  have p2 : p5 2 = 25 := rfl
  have p3 : p5 3 = 125 := rfl
  rcases hm4 with rfl | rfl | rfl | rfl <;> rcases h4 with rfl | rfl | rfl | rfl <;> first | (exfalso; simp at hj; omega) | (simp [p0, p1, p2, p3] at hr ⊢; (try omega))
