/-! the class: a Common's cells, what they have to do with the reference's row -/
def cv (s : Int) : Int := if s = 6 then -2 else s - 1
theorem cv_c (s : Int) : (s = 6 ∧ cv s = -2) ∨ (s ≠ 6 ∧ cv s = s - 1) := by unfold cv; split <;> omega
def CM (h : AH) (c : Nat) (F : Nat → Int → Int) : Prop :=
  h c = some (.inr (.inr (1, [.ref (c + 1), .ref (c + 2), .ref (c + 3), .ref (c + 4), .ref (c + 5), .ref (c + 6), .ref (c + 7), .ref (c + 8), .ref (c + 9), .int (iI (F 0 0)), .int (iI (F 0 1)), .int (iI (F 0 2)), .int (iI (F 0 3))]))) ∧
  h (c + 1) = some (.inl (0, 5, F 1)) ∧ h (c + 2) = some (.inl (0, 5, F 2)) ∧ h (c + 3) = some (.inl (0, 5, F 3)) ∧ h (c + 4) = some (.inl (0, 5, F 4)) ∧
  h (c + 5) = some (.inl (0, 6, F 5)) ∧ h (c + 6) = some (.inl (0, 6, F 6)) ∧ h (c + 7) = some (.inl (0, 3, F 7)) ∧ h (c + 8) = some (.inl (0, 5, F 8)) ∧ h (c + 9) = some (.inl (0, 5, F 9))
theorem CM.fr {h h' : AH} {c b n : Nat} {F : Nat → Int → Int} (m : CM h c F) (a : Fr h h' b n) (hd : c + 10 ≤ b ∨ b + n ≤ c) : CM h' c F := by
  obtain ⟨m0, m1, m2, m3, m4, m5, m6, m7, m8, m9⟩ := m
  exact ⟨a.at (by omega) m0, a.at (by omega) m1, a.at (by omega) m2, a.at (by omega) m3, a.at (by omega) m4, a.at (by omega) m5, a.at (by omega) m6, a.at (by omega) m7, a.at (by omega) m8, a.at (by omega) m9⟩
def RLC (F : Nat → Int → Int) (f : Int → Int) : Prop :=
  (F 0 0 = f 26 ∧ F 0 1 = f 37 ∧ F 0 2 = f 38 ∧ F 0 3 = f 0) ∧ (∀ k, 0 ≤ k → k < f 26 → F 1 k = f (27 + k) ∧ F 2 k = f (1 + k) ∧ F 3 k = f (32 + k) ∧ F 4 k = f (6 + k)) ∧
  (∀ p, 0 ≤ p → p < f 37 → F 5 p = f (11 + p) ∧ F 6 p = cv (f (17 + p))) ∧ (∀ s, 0 ≤ s → s < f 38 → F 7 s = f (23 + s))
theorem RLC.n {F : Nat → Int → Int} {f : Int → Int} (h : RLC F f) : F 0 0 = f 26 ∧ F 0 1 = f 37 ∧ F 0 2 = f 38 ∧ F 0 3 = f 0 := h.1
theorem RLC.k {F : Nat → Int → Int} {f : Int → Int} (h : RLC F f) (k : Int) (hk : 0 ≤ k ∧ k < f 26) : F 1 k = f (27 + k) ∧ F 2 k = f (1 + k) ∧ F 3 k = f (32 + k) ∧ F 4 k = f (6 + k) := h.2.1 k hk.1 hk.2
theorem RLC.p {F : Nat → Int → Int} {f : Int → Int} (h : RLC F f) (p : Int) (hp : 0 ≤ p ∧ p < f 37) : F 5 p = f (11 + p) ∧ F 6 p = cv (f (17 + p)) := h.2.2.1 p hp.1 hp.2
theorem RLC.s {F : Nat → Int → Int} {f : Int → Int} (h : RLC F f) (s : Int) (hs : 0 ≤ s ∧ s < f 38) : F 7 s = f (23 + s) := h.2.2.2 s hs.1 hs.2
/-- rooms and unders count what the row says -/
def RU (F : Nat → Int → Int) (f : Int → Int) : Prop := ∀ k, 0 ≤ k → k < f 26 → F 8 k = hlf f k - popc (und f k) ∧ F 9 k = popc (und f k)
theorem RU.k {F : Nat → Int → Int} {f : Int → Int} (h : RU F f) (k : Int) (hk : 0 ≤ k ∧ k < f 26) : F 8 k = hlf f k - popc (und f k) ∧ F 9 k = popc (und f k) := h k hk.1 hk.2
def QC (h : AH) (c : Nat) (F' : Nat → Int → Int) : AH → Prop := fun h' => CM h' c F' ∧ Fr h h' c 10
def QR (h : AH) (c : Nat) (f' : Int → Int) : AH → Prop := fun h' => ∃ F', CM h' c F' ∧ RLC F' f' ∧ Fr h h' c 10
def QU (h : AH) (c : Nat) (f' : Int → Int) : AH → Prop := fun h' => ∃ F', CM h' c F' ∧ RLC F' f' ∧ RU F' f' ∧ Fr h h' c 10
theorem sst_s (S : Nat → Int → Int) (j : Nat) (F : Int → Int) : sst S j F j = F := if_pos rfl
theorem sst_n {S : Nat → Int → Int} {j q : Nat} {F : Int → Int} (h : q ≠ j) : sst S j F q = S q := if_neg h
/-- what changes only rooms and unders -/
theorem RLC_ru {F : Nat → Int → Int} {f : Int → Int} (h : RLC F f) {j : Nat} (hj : 7 < j) {g : Int → Int} : RLC (sst F j g) f := by
  unfold RLC
  rw [sst_n (by omega), sst_n (by omega), sst_n (by omega), sst_n (by omega), sst_n (by omega), sst_n (by omega), sst_n (by omega), sst_n (by omega)]
  exact h
theorem RLC_st {F : Nat → Int → Int} {f : Int → Int} (h : RLC F f) (hn : (0 ≤ f 26 ∧ f 26 ≤ 5) ∧ (0 ≤ f 37 ∧ f 37 ≤ 6) ∧ (0 ≤ f 38 ∧ f 38 ≤ 3)) {p s v : Int} (hp : 0 ≤ p ∧ p < f 37) (hv : v = cv s) : RLC (sst F 6 (fup (F 6) p v)) (fup f (17 + p) s) := by
  obtain ⟨h0, h1, h2, h3⟩ := h
  subst hv
  refine ⟨?_, fun k a b => ?_, fun q a b => ?_, fun t a b => ?_⟩
  · rw [sst_n (by decide), fup_n (by omega), fup_n (by omega), fup_n (by omega), fup_n (by omega)]; exact h0
  · rw [fup_n (by omega)] at b
    rw [sst_n (by decide), sst_n (by decide), sst_n (by decide), sst_n (by decide), fup_n (by omega), fup_n (by omega), fup_n (by omega), fup_n (by omega)]; exact h1 k a b
  · rw [fup_n (by omega)] at b
    rw [sst_n (by decide), sst_s, fup_n (q := 11 + q) (by omega)]
    refine ⟨(h2 q a b).1, ?_⟩
    by_cases c : q = p
    · subst c; rw [fup_s, fup_s]
    · rw [fup_n c, fup_n (by omega)]; exact (h2 q a b).2
  · rw [fup_n (by omega)] at b
    rw [sst_n (by decide), fup_n (by omega)]; exact h3 t a b
theorem RLC_ce {F : Nat → Int → Int} {f : Int → Int} (h : RLC F f) (hn : (0 ≤ f 26 ∧ f 26 ≤ 5) ∧ (0 ≤ f 37 ∧ f 37 ≤ 6) ∧ (0 ≤ f 38 ∧ f 38 ≤ 3)) {p v : Int} (hp : 0 ≤ p ∧ p < f 37) : RLC (sst F 5 (fup (F 5) p v)) (fup f (11 + p) v) := by
  obtain ⟨h0, h1, h2, h3⟩ := h
  refine ⟨?_, fun k a b => ?_, fun q a b => ?_, fun t a b => ?_⟩
  · rw [sst_n (by decide), fup_n (by omega), fup_n (by omega), fup_n (by omega), fup_n (by omega)]; exact h0
  · rw [fup_n (by omega)] at b
    rw [sst_n (by decide), sst_n (by decide), sst_n (by decide), sst_n (by decide), fup_n (by omega), fup_n (by omega), fup_n (by omega), fup_n (by omega)]; exact h1 k a b
  · rw [fup_n (by omega)] at b
    rw [sst_n (j := 5) (q := 6) (by decide), sst_s, fup_n (q := 17 + q) (by omega)]
    refine ⟨?_, (h2 q a b).2⟩
    by_cases c : q = p
    · subst c; rw [fup_s, fup_s]
    · rw [fup_n c, fup_n (by omega)]; exact (h2 q a b).1
  · rw [fup_n (by omega)] at b
    rw [sst_n (by decide), fup_n (by omega)]; exact h3 t a b
theorem RLC_sh {F : Nat → Int → Int} {f : Int → Int} (h : RLC F f) (hn : (0 ≤ f 26 ∧ f 26 ≤ 5) ∧ (0 ≤ f 37 ∧ f 37 ≤ 6) ∧ (0 ≤ f 38 ∧ f 38 ≤ 3)) {s v : Int} (hs : 0 ≤ s ∧ s < f 38) : RLC (sst F 7 (fup (F 7) s v)) (fup f (23 + s) v) := by
  obtain ⟨h0, h1, h2, h3⟩ := h
  refine ⟨?_, fun k a b => ?_, fun q a b => ?_, fun t a b => ?_⟩
  · rw [sst_n (by decide), fup_n (by omega), fup_n (by omega), fup_n (by omega), fup_n (by omega)]; exact h0
  · rw [fup_n (by omega)] at b
    rw [sst_n (by decide), sst_n (by decide), sst_n (by decide), sst_n (by decide), fup_n (by omega), fup_n (by omega), fup_n (by omega), fup_n (by omega)]; exact h1 k a b
  · rw [fup_n (by omega)] at b
    rw [sst_n (by decide), sst_n (by decide), fup_n (by omega), fup_n (by omega)]; exact h2 q a b
  · rw [fup_n (by omega)] at b
    rw [sst_s]
    by_cases c : t = s
    · subst c; rw [fup_s, fup_s]
    · rw [fup_n c, fup_n (by omega)]; exact h3 t a b
theorem RLC_we {F : Nat → Int → Int} {f : Int → Int} (h : RLC F f) (hn : (0 ≤ f 26 ∧ f 26 ≤ 5) ∧ (0 ≤ f 37 ∧ f 37 ≤ 6) ∧ (0 ≤ f 38 ∧ f 38 ≤ 3)) {k v : Int} (hk : 0 ≤ k ∧ k < f 26) : RLC (sst F 4 (fup (F 4) k v)) (fup f (6 + k) v) := by
  obtain ⟨h0, h1, h2, h3⟩ := h
  refine ⟨?_, fun j a b => ?_, fun q a b => ?_, fun t a b => ?_⟩
  · rw [sst_n (by decide), fup_n (by omega), fup_n (by omega), fup_n (by omega), fup_n (by omega)]; exact h0
  · rw [fup_n (by omega)] at b
    rw [sst_n (j := 4) (q := 1) (by decide), sst_n (j := 4) (q := 2) (by decide), sst_n (j := 4) (q := 3) (by decide), sst_s, fup_n (q := 27 + j) (by omega), fup_n (q := 1 + j) (by omega), fup_n (q := 32 + j) (by omega)]
    refine ⟨(h1 j a b).1, (h1 j a b).2.1, (h1 j a b).2.2.1, ?_⟩
    by_cases c : j = k
    · subst c; rw [fup_s, fup_s]
    · rw [fup_n c, fup_n (by omega)]; exact (h1 j a b).2.2.2
  · rw [fup_n (by omega)] at b
    rw [sst_n (by decide), sst_n (by decide), fup_n (by omega), fup_n (by omega)]; exact h2 q a b
  · rw [fup_n (by omega)] at b
    rw [sst_n (by decide), fup_n (by omega)]; exact h3 t a b
theorem RLC_pl {F : Nat → Int → Int} {f : Int → Int} (h : RLC F f) (hn : (0 ≤ f 26 ∧ f 26 ≤ 5) ∧ (0 ≤ f 37 ∧ f 37 ≤ 6) ∧ (0 ≤ f 38 ∧ f 38 ≤ 3)) {k v : Int} (hk : 0 ≤ k ∧ k < f 26) : RLC (sst F 2 (fup (F 2) k v)) (fup f (1 + k) v) := by
  obtain ⟨h0, h1, h2, h3⟩ := h
  refine ⟨?_, fun j a b => ?_, fun q a b => ?_, fun t a b => ?_⟩
  · rw [sst_n (by decide), fup_n (by omega), fup_n (by omega), fup_n (by omega), fup_n (by omega)]; exact h0
  · rw [fup_n (by omega)] at b
    rw [sst_n (j := 2) (q := 1) (by decide), sst_n (j := 2) (q := 4) (by decide), sst_n (j := 2) (q := 3) (by decide), sst_s, fup_n (q := 27 + j) (by omega), fup_n (q := 6 + j) (by omega), fup_n (q := 32 + j) (by omega)]
    refine ⟨(h1 j a b).1, ?_, (h1 j a b).2.2.1, (h1 j a b).2.2.2⟩
    by_cases c : j = k
    · subst c; rw [fup_s, fup_s]
    · rw [fup_n c, fup_n (by omega)]; exact (h1 j a b).2.1
  · rw [fup_n (by omega)] at b
    rw [sst_n (by decide), sst_n (by decide), fup_n (by omega), fup_n (by omega)]; exact h2 q a b
  · rw [fup_n (by omega)] at b
    rw [sst_n (by decide), fup_n (by omega)]; exact h3 t a b
theorem RLC_ho {F : Nat → Int → Int} {f : Int → Int} (h : RLC F f) (hn : (0 ≤ f 26 ∧ f 26 ≤ 5) ∧ (0 ≤ f 37 ∧ f 37 ≤ 6) ∧ (0 ≤ f 38 ∧ f 38 ≤ 3)) {v : Int} : RLC (sst F 0 (fup (F 0) 3 v)) (fup f 0 v) := by
  obtain ⟨h0, h1, h2, h3⟩ := h
  refine ⟨?_, fun j a b => ?_, fun q a b => ?_, fun t a b => ?_⟩
  · rw [sst_s, fup_n (i := 3) (by omega), fup_n (i := 3) (by omega), fup_n (i := 3) (by omega), fup_s, fup_n (q := 26) (by omega), fup_n (q := 37) (by omega), fup_n (q := 38) (by omega), fup_s]; exact ⟨h0.1, h0.2.1, h0.2.2.1, rfl⟩
  · rw [fup_n (by omega)] at b
    rw [sst_n (by decide), sst_n (by decide), sst_n (by decide), sst_n (by decide), fup_n (by omega), fup_n (by omega), fup_n (by omega), fup_n (by omega)]; exact h1 j a b
  · rw [fup_n (by omega)] at b
    rw [sst_n (by decide), sst_n (by decide), fup_n (by omega), fup_n (by omega)]; exact h2 q a b
  · rw [fup_n (by omega)] at b
    rw [sst_n (by decide), fup_n (by omega)]; exact h3 t a b
/-- a copy: what stands below 5, 6, 3 -/
theorem RLC_cp {F G : Nat → Int → Int} {f : Int → Int} (h : RLC G f) (hn : (0 ≤ f 26 ∧ f 26 ≤ 5) ∧ (0 ≤ f 37 ∧ f 37 ≤ 6) ∧ (0 ≤ f 38 ∧ f 38 ≤ 3)) (h0 : F 0 0 = G 0 0 ∧ F 0 1 = G 0 1 ∧ F 0 2 = G 0 2 ∧ F 0 3 = G 0 3)
    (h1 : ∀ j, 0 ≤ j → j < 5 → F 1 j = G 1 j ∧ F 2 j = G 2 j ∧ F 3 j = G 3 j ∧ F 4 j = G 4 j) (h2 : ∀ j, 0 ≤ j → j < 6 → F 5 j = G 5 j ∧ F 6 j = G 6 j) (h3 : ∀ j, 0 ≤ j → j < 3 → F 7 j = G 7 j) : RLC F f := by
  obtain ⟨g0, g1, g2, g3⟩ := h
  refine ⟨by omega, fun j a b => ?_, fun q a b => ?_, fun t a b => ?_⟩
  · have := h1 j a (by omega); have := g1 j a b; omega
  · have := h2 q a (by omega); have := g2 q a b; omega
  · have := h3 t a (by omega); have := g3 t a b; omega
theorem RLC_ext {F : Nat → Int → Int} {f g : Int → Int} (h : RLC F f) (hn : (0 ≤ f 26 ∧ f 26 ≤ 5) ∧ (0 ≤ f 37 ∧ f 37 ≤ 6) ∧ (0 ≤ f 38 ∧ f 38 ≤ 3)) (e : ∀ j, 0 ≤ j → j < 39 → g j = f j) : RLC F g := by
  obtain ⟨h0, h1, h2, h3⟩ := h
  refine ⟨?_, fun j a b => ?_, fun q a b => ?_, fun t a b => ?_⟩
  · rw [e 26 (by decide) (by decide), e 37 (by decide) (by decide), e 38 (by decide) (by decide), e 0 (by decide) (by decide)]; exact h0
  · rw [e 26 (by decide) (by decide)] at b
    rw [e _ (by omega) (by omega), e _ (by omega) (by omega), e _ (by omega) (by omega), e _ (by omega) (by omega)]; exact h1 j a b
  · rw [e 37 (by decide) (by decide)] at b
    rw [e _ (by omega) (by omega), e _ (by omega) (by omega)]; exact h2 q a b
  · rw [e 38 (by decide) (by decide)] at b
    rw [e _ (by omega) (by omega)]; exact h3 t a b
theorem RLC_beg {F : Nat → Int → Int} {f : Int → Int} (h0 : F 0 0 = 0 ∧ F 0 1 = 0 ∧ F 0 2 = 0 ∧ F 0 3 = 0) : RLC F (beg f) := by
  have e : ∀ j, 0 ≤ j → j < 267 → beg f j = 0 := fun j h1 h2 => if_pos ⟨h1, h2⟩
  refine ⟨?_, fun j a b => ?_, fun q a b => ?_, fun t a b => ?_⟩
  · rw [e 26 (by decide) (by decide), e 37 (by decide) (by decide), e 38 (by decide) (by decide), e 0 (by decide) (by decide)]; exact h0
  · rw [e 26 (by decide) (by decide)] at b; omega
  · rw [e 37 (by decide) (by decide)] at b; omega
  · rw [e 38 (by decide) (by decide)] at b; omega
theorem RLC_acs {F : Nat → Int → Int} {f : Int → Int} (h : RLC F f) (hI : inv f) {k c s : Int} (hf : f 26 < 5) : RLC (sst (sst (sst (sst (sst F 1 (fup (F 1) (F 0 0) k)) 2 (fup (F 2) (F 0 0) c)) 3 (fup (F 3) (F 0 0) s)) 4 (fup (F 4) (F 0 0) 0)) 0 (fup (F 0) 0 (F 0 0 + 1))) (acs f k c s) := by
  have hn := hI.n
  have hz := (hI.k (f 26) (by omega)).2.2.2.2 (Int.le_refl _)
  obtain ⟨h0, h1, h2, h3⟩ := h
  have e : ∀ j, acs f k c s j = if j = 26 then f 26 + 1 else if j = 32 + f 26 then s else if j = 1 + f 26 then c else if j = 27 + f 26 then k else f j := fun j => rfl
  rw [h0.1]
  refine ⟨?_, fun j a b => ?_, fun q a b => ?_, fun t a b => ?_⟩
  · have := e 26; have := e 37; have := e 38; have := e 0
    show (if (0 : Int) = 0 then f 26 + 1 else F 0 0) = _ ∧ (if (1 : Int) = 0 then f 26 + 1 else F 0 1) = _ ∧ (if (2 : Int) = 0 then f 26 + 1 else F 0 2) = _ ∧ (if (3 : Int) = 0 then f 26 + 1 else F 0 3) = _
    omega
  · have := e 26; have e1 := e (27 + j); have e2 := e (1 + j); have e3 := e (32 + j); have e4 := e (6 + j)
    show (if j = f 26 then k else F 1 j) = _ ∧ (if j = f 26 then c else F 2 j) = _ ∧ (if j = f 26 then s else F 3 j) = _ ∧ (if j = f 26 then 0 else F 4 j) = _
    by_cases q : j = f 26
    · subst q; omega
    · have := h1 j a (by omega); omega
  · have := e 37; have := e (11 + q); have e9 : acs f k c s (17 + q) = f (17 + q) := by have := e (17 + q); omega
    show F 5 q = _ ∧ F 6 q = _
    rw [e9]
    have := h2 q a (by omega); omega
  · have := e 38; have := e (23 + t)
    show F 7 t = _
    have := h3 t a (by omega); omega
theorem RLC_ahu {F : Nat → Int → Int} {f : Int → Int} (h : RLC F f) (hI : inv f) {c : Int} (hf : f 37 < 6) : RLC (sst (sst (sst F 5 (fup (F 5) (F 0 1) c)) 6 (fup (F 6) (F 0 1) (-1))) 0 (fup (F 0) 1 (F 0 1 + 1))) (ahu f c) := by
  have hn := hI.n
  have hz := (hI.p (f 37) (by omega)).2.2.1 (Int.le_refl _)
  obtain ⟨h0, h1, h2, h3⟩ := h
  have e : ∀ j, ahu f c j = if j = 37 then f 37 + 1 else if j = 11 + f 37 then c else f j := fun j => rfl
  rw [h0.2.1]
  refine ⟨?_, fun j a b => ?_, fun q a b => ?_, fun t a b => ?_⟩
  · have := e 26; have := e 37; have := e 38; have := e 0
    show (if (0 : Int) = 1 then f 37 + 1 else F 0 0) = _ ∧ (if (1 : Int) = 1 then f 37 + 1 else F 0 1) = _ ∧ (if (2 : Int) = 1 then f 37 + 1 else F 0 2) = _ ∧ (if (3 : Int) = 1 then f 37 + 1 else F 0 3) = _
    omega
  · have := e 26; have e1 := e (27 + j); have e2 := e (1 + j); have e3 := e (32 + j); have e4 := e (6 + j)
    show F 1 j = _ ∧ F 2 j = _ ∧ F 3 j = _ ∧ F 4 j = _
    have := h1 j a (by omega); omega
  · have := e 37; have := e (11 + q); have e9 : ahu f c (17 + q) = f (17 + q) := by have := e (17 + q); omega
    show (if q = f 37 then c else F 5 q) = _ ∧ (if q = f 37 then -1 else F 6 q) = _
    rw [e9]
    by_cases w : q = f 37
    · subst w; have := cv_c (f (17 + f 37)); omega
    · have := h2 q a (by omega); omega
  · have := e 38; have := e (23 + t)
    show F 7 t = _
    have := h3 t a (by omega); omega
theorem RLC_ash {F : Nat → Int → Int} {f : Int → Int} (h : RLC F f) (hI : inv f) {c : Int} (hf : f 38 < 3) : RLC (sst (sst F 7 (fup (F 7) (F 0 2) c)) 0 (fup (F 0) 2 (F 0 2 + 1))) (ash f c) := by
  have hn := hI.n
  obtain ⟨h0, h1, h2, h3⟩ := h
  have e : ∀ j, ash f c j = if j = 38 then f 38 + 1 else if j = 23 + f 38 then c else f j := fun j => rfl
  rw [h0.2.2.1]
  refine ⟨?_, fun j a b => ?_, fun q a b => ?_, fun t a b => ?_⟩
  · have := e 26; have := e 37; have := e 38; have := e 0
    show (if (0 : Int) = 2 then f 38 + 1 else F 0 0) = _ ∧ (if (1 : Int) = 2 then f 38 + 1 else F 0 1) = _ ∧ (if (2 : Int) = 2 then f 38 + 1 else F 0 2) = _ ∧ (if (3 : Int) = 2 then f 38 + 1 else F 0 3) = _
    omega
  · have := e 26; have e1 := e (27 + j); have e2 := e (1 + j); have e3 := e (32 + j); have e4 := e (6 + j)
    show F 1 j = _ ∧ F 2 j = _ ∧ F 3 j = _ ∧ F 4 j = _
    have := h1 j a (by omega); omega
  · have := e 37; have := e (11 + q); have e9 : ash f c (17 + q) = f (17 + q) := by have := e (17 + q); omega
    show F 5 q = _ ∧ F 6 q = _
    rw [e9]
    have := h2 q a (by omega); omega
  · have := e 38; have := e (23 + t)
    show (if t = f 38 then c else F 7 t) = _
    by_cases w : t = f 38
    · subst w; omega
    · have := h3 t a (by omega); omega
-- masks
theorem msk_congr {c d : Int → Prop} [DecidablePred c] [DecidablePred d] {n : Int} (h : ∀ p, 0 ≤ p → p < n → (c p ↔ d p)) : msk c n = msk d n := by
  unfold msk
  refine itI_congr (fun i s h1 h2 => ?_)
  by_cases q : c i
  · rw [if_pos q, if_pos ((h i h1 h2).mp q)]
  · rw [if_neg q, if_neg (fun w => q ((h i h1 h2).mpr w))]
theorem cnI_congr {c d : Int → Prop} [DecidablePred c] [DecidablePred d] {n : Int} (h : ∀ p, 0 ≤ p → p < n → (c p ↔ d p)) : cnI c n = cnI d n := by
  unfold cnI
  refine itI_congr (fun i s h1 h2 => ?_)
  by_cases q : c i
  · rw [if_pos q, if_pos ((h i h1 h2).mp q)]
  · rw [if_neg q, if_neg (fun w => q ((h i h1 h2).mpr w))]
def who (f : Int → Int) (v : Int) : Int := msk (fun p => cv (f (17 + p)) = v) (f 37)
theorem who_und {f : Int → Int} (hI : inv f) {k : Int} (hk : 0 ≤ k ∧ k < 5) : who f k = und f k := msk_congr (fun p h1 h2 => by have := cv_c (f (17 + p)); omega)
theorem who_tkn {f : Int → Int} (hI : inv f) : who f (-2) = tkn f := msk_congr (fun p h1 h2 => by have := cv_c (f (17 + p)); have := hI.p p (by have := hI.n; omega); omega)
theorem who_fre {f : Int → Int} (hI : inv f) : who f (-1) = msk (fun p => f (17 + p) = 0) (f 37) := msk_congr (fun p h1 h2 => by have := cv_c (f (17 + p)); have := hI.p p (by have := hI.n; omega); omega)
theorem who_rg {f : Int → Int} (hI : inv f) (v : Int) : 0 ≤ who f v ∧ who f v < 64 := msk_64 _ hI.n.2.1
theorem cn3 (a b c : Int → Prop) [DecidablePred a] [DecidablePred b] [DecidablePred c] (n : Int) (hn : 0 ≤ n) (h : ∀ p, 0 ≤ p → p < n → (a p ∧ ¬ b p ∧ ¬ c p) ∨ (¬ a p ∧ b p ∧ ¬ c p) ∨ (¬ a p ∧ ¬ b p ∧ c p)) : cnI a n + cnI b n + cnI c n = n := by
  have key : ∀ m : Nat, (m : Int) ≤ n → cnI a m + cnI b m + cnI c m = m := by
    intro m
    induction m with
    | zero => intro _; rfl
    | succ m ih =>
      intro hm
      have e : ((m + 1 : Nat) : Int) = (m : Int) + 1 := by omega
      rw [e, cnI_s _ (by omega), cnI_s _ (by omega), cnI_s _ (by omega)]
      have := ih (by omega)
      rcases h m (by omega) (by omega) with q | q | q
      · rw [if_pos q.1, if_neg q.2.1, if_neg q.2.2]; omega
      · rw [if_neg q.1, if_pos q.2.1, if_neg q.2.2]; omega
      · rw [if_neg q.1, if_neg q.2.1, if_pos q.2.2]; omega
  have := key n.toNat (by omega)
  rwa [Int.toNat_of_nonneg hn] at this
theorem una_eq {f : Int → Int} (hI : inv f) : una f = f 37 - popc (who f (-2)) - popc (who f (-1)) := by
  have hn := hI.n
  rw [who_tkn hI, who_fre hI]
  unfold tkn
  rw [popc_msk _ hn.2.1, popc_msk _ hn.2.1]
  have := cn3 (fun p => f (17 + p) ≠ 0 ∧ f (17 + p) ≠ 6) (fun p => f (17 + p) = 6) (fun p => f (17 + p) = 0) (f 37) hn.2.1.1 (fun p h1 h2 => by omega)
  unfold una
  omega
/-- one element's truth changes -/
theorem cn_in {c d : Int → Prop} [DecidablePred c] [DecidablePred d] {n p : Int} (hp : 0 ≤ p ∧ p < n) (ho : ∀ q, 0 ≤ q → q < n → q ≠ p → (c q ↔ d q)) (h1 : ¬ c p) (h2 : d p) : cnI d n = cnI c n + 1 := by
  have key : ∀ m : Nat, (m : Int) ≤ n → cnI d m = if p < m then cnI c m + 1 else cnI c m := by
    intro m
    induction m with
    | zero => intro _; rw [if_neg (by omega)]; rfl
    | succ m ih =>
      intro hm
      have e : ((m + 1 : Nat) : Int) = (m : Int) + 1 := by omega
      rw [e, cnI_s _ (by omega), cnI_s _ (by omega), ih (by omega)]
      by_cases q : (m : Int) = p
      · rw [if_pos (show p < (m : Int) + 1 by omega), if_neg (show ¬ p < (m : Int) by omega), q, if_pos h2, if_neg h1]
      · have w := ho m (by omega) (by omega) q
        by_cases r : c m
        · rw [if_pos r, if_pos (w.mp r)]; split <;> split <;> omega
        · rw [if_neg r, if_neg (fun z => r (w.mpr z))]; split <;> split <;> omega
  have := key n.toNat (by omega)
  rw [Int.toNat_of_nonneg (by omega), if_pos hp.2] at this
  exact this
theorem pcu_eq {f : Int → Int} (hn : 0 ≤ f 37 ∧ f 37 ≤ 6) (k : Int) : popc (und f k) = cnI (fun p => f (17 + p) = 1 + k) (f 37) := popc_msk _ hn
theorem und_ext {f g : Int → Int} {k : Int} (h7 : g 37 = f 37) (e : ∀ p, 0 ≤ p → p < f 37 → (g (17 + p) = 1 + k ↔ f (17 + p) = 1 + k)) : und g k = und f k := by
  unfold und
  rw [h7]
  exact msk_congr e
theorem pcu_add {f : Int → Int} (hn : 0 ≤ f 37 ∧ f 37 ≤ 6) {p k : Int} (hp : 0 ≤ p ∧ p < f 37) (h0 : f (17 + p) ≠ 1 + k) : popc (und (fup f (17 + p) (1 + k)) k) = popc (und f k) + 1 := by
  have e7 : fup f (17 + p) (1 + k) 37 = f 37 := fup_n (by omega)
  rw [pcu_eq (by rw [e7]; exact hn), pcu_eq hn, e7]
  exact cn_in hp (fun q a b c => by rw [fup_n (by omega)]) h0 (by rw [fup_s])
theorem pcu_sub {f : Int → Int} (hn : 0 ≤ f 37 ∧ f 37 ≤ 6) {p k s : Int} (hp : 0 ≤ p ∧ p < f 37) (h0 : f (17 + p) = 1 + k) (hs : s ≠ 1 + k) : popc (und (fup f (17 + p) s) k) = popc (und f k) - 1 := by
  have e7 : fup f (17 + p) s 37 = f 37 := fup_n (by omega)
  rw [pcu_eq (by rw [e7]; exact hn), pcu_eq hn, e7]
  have := cn_in (c := fun q => fup f (17 + p) s (17 + q) = 1 + k) (d := fun q => f (17 + q) = 1 + k) hp (fun q a b c => by rw [fup_n (by omega)]) (by rw [fup_s]; exact hs) h0
  omega
theorem und_oth {f : Int → Int} {p k s : Int} (h0 : f (17 + p) ≠ 1 + k) (hs : s ≠ 1 + k) (hp : 0 ≤ p) (h3 : p < 20) : und (fup f (17 + p) s) k = und f k := by
  refine und_ext (fup_n (by omega)) (fun q a b => ?_)
  by_cases c : q = p
  · subst c; rw [fup_s]; exact ⟨fun w => absurd w hs, fun w => absurd w h0⟩
  · rw [fup_n (by omega)]
theorem hlf_ext {f g : Int → Int} {k : Int} (h1 : g (27 + k) = f (27 + k)) (h2 : g (32 + k) = f (32 + k)) (h3 : g (6 + k) = f (6 + k)) : hlf g k = hlf f k := by unfold hlf; rw [h1, h2, h3]
