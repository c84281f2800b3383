/-! the reference's object: its cells; what its public methods answer -/
def sst (S : Nat → Int → Int) (j : Nat) (F : Int → Int) : Nat → Int → Int := fun q => if q = j then F else S q
def RM (h : AH) (b : Nat) (S : Nat → Int → Int) : Prop :=
  h b = some (.inr (.inr (7, [.ref (b + 1), .ref (b + 2), .ref (b + 3), .ref (b + 4), .ref (b + 5), .ref (b + 6), .long (lI (S 0 6)), .long (lI (S 0 7)), .int (iI (S 0 8)), .ref (b + 7), .int (iI (S 0 10)), .int (iI (S 0 11)), .int (iI (S 0 12)), .int (iI (S 0 13)), .long (lI (S 0 14)), .int (iI (S 0 15)), .ref (b + 8)]))) ∧
  h (b + 1) = some (.inl (0, 267, S 1)) ∧ h (b + 2) = some (.inl (0, 267, S 2)) ∧ h (b + 3) = some (.inl (0, 267, S 3)) ∧ h (b + 4) = some (.inl (0, 534, S 4)) ∧
  h (b + 5) = some (.inl (2, 2, S 5)) ∧ h (b + 6) = some (.inl (0, 3, S 6)) ∧ h (b + 7) = some (.inl (0, 150, S 7)) ∧ h (b + 8) = some (.inl (0, 4, S 8))
def QM (h : AH) (b : Nat) (S : Nat → Int → Int) : AH → Prop := fun h' => RM h' b S ∧ Fr h h' b 9
def bdS (S : Nat → Int → Int) : Nat → Int → Int := sst S 6 (fup (S 6) 0 (S 6 0 + 1))
def noS (S : Nat → Int → Int) : Nat → Int → Int := sst S 6 (fup (S 6) 1 (S 6 1 + 1))
def fuS (S : Nat → Int → Int) : Nat → Int → Int := sst S 6 (fup (S 6) 2 (S 6 2 + 1))
/-- an undone row: the saved 26 numbers, the rest as now -/
def mixF (f : Int → Int) (i : Int) : Int → Int := fun j => if 0 ≤ j ∧ j < 26 then f (59 + 26 * i + j) else f j
/-- what holds of the row 'now' -/
def invN (f : Int → Int) : Prop := inv f ∧ (f 0 ≤ 999 ∧ 0 ≤ f 0) ∧ f 39 ≤ 6 ∧ f 58 ≤ 8 ∧ (∀ i, 0 ≤ i → i < f 58 → inv (mixF f i) ∧ 0 ≤ mixF f i 0 ∧ mixF f i 0 ≤ 999) ∧ (∀ i, 0 ≤ i → i < f 39 → f (40 + 3 * i) < 5 ∧ f (41 + 3 * i) ≤ 40 ∧ f (42 + 3 * i) ≤ 9)
def outR (T : Int → Int) : Prop := ∀ j, ¬ (0 ≤ j ∧ j < 58) → 0 ≤ T j ∧ T j ≤ 2000
def invM (S : Nat → Int → Int) : Prop :=
  invN (S 1) ∧ outR (S 2) ∧ (∀ j, ¬ (0 ≤ j ∧ j < 267) → 0 ≤ S 3 j ∧ S 3 j ≤ 2000) ∧ (0 ≤ S 0 8 ∧ S 0 8 ≤ 150) ∧ (∀ j, 0 ≤ j → j < S 0 8 → 0 ≤ S 7 j ∧ S 7 j ≤ 127) ∧
  (∀ i, i = 0 ∨ i = 1 → S 5 i = 0 ∨ (S 5 i = 1 ∧ invN (fcp (S 4) (S 1) (267 * i) 0 267)))
def cpn (f T : Int → Int) : Int → Int := fcp f T 0 0 58
theorem fcp_in {f g : Int → Int} {i j n q : Int} (h : j ≤ q ∧ q < j + n) : fcp f g i j n q = f (i + (q - j)) := if_pos h
theorem fcp_out {f g : Int → Int} {i j n q : Int} (h : ¬ (j ≤ q ∧ q < j + n)) : fcp f g i j n q = g q := if_neg h
theorem cpn_in {f T : Int → Int} {q : Int} (h : 0 ≤ q ∧ q < 58) : cpn f T q = f q := by unfold cpn; rw [fcp_in (by omega)]; congr 1; omega
/-- what inv reads stands below 39 -/
theorem inv_ext {f g : Int → Int} (h : inv f) (e : ∀ j, 0 ≤ j → j < 39 → g j = f j) (hr : ∀ j, j ≠ 0 → 0 ≤ g j ∧ g j ≤ 2000) : inv g := by
  refine ⟨hr, ?_, fun k hk => ?_, fun p hp => ?_, fun s hs => ?_⟩
  · rw [e 26 (by decide) (by decide), e 37 (by decide) (by decide), e 38 (by decide) (by decide)]; exact h.2.1
  · rw [e (1 + k) (by omega) (by omega), e (6 + k) (by omega) (by omega), e (27 + k) (by omega) (by omega), e (32 + k) (by omega) (by omega), e 26 (by decide) (by decide)]; exact h.2.2.1 k hk
  · have e1 := h.2.2.2.1 p hp
    have e2 := h.1 (17 + p) (by omega)
    rw [e (11 + p) (by omega) (by omega), e (17 + p) (by omega) (by omega), e 26 (by decide) (by decide), e 37 (by decide) (by decide), e (f (17 + p)) (by omega) (by omega)]; exact e1
  · rw [e (23 + s) (by omega) (by omega)]; exact h.2.2.2.2 s hs
theorem inv_cpn {f T : Int → Int} (h : inv f) (hT : outR T) : inv (cpn f T) := inv_ext h (fun j h1 h2 => cpn_in ⟨h1, by omega⟩) (fun j hj => by
  by_cases c : 0 ≤ j ∧ j < 58
  · rw [cpn_in c]; exact h.1 j hj
  · unfold cpn; rw [fcp_out (by omega)]; exact hT j c)
theorem outR_cpn {f T : Int → Int} (hT : outR T) : outR (cpn f T) := fun j hj => by unfold cpn; rw [fcp_out (by omega)]; exact hT j hj
theorem outR_cfx {f g : Int → Int} (h : outR f) (hg : inv g) : outR g := fun j hj => hg.1 j (by omega)
def goyG : Int → (Int → Int) → (Int → Int) := fun _ g => goBy g
def gon (m : Int) (T : Int → Int) : Int → Int := itI m goyG T
theorem inv_gon {T : Int → Int} (h : inv T) {m : Int} (hm : 0 ≤ m) : inv (gon m T) ∧ cfx T (gon m T) := inv_itI ⟨h, cfx.rf⟩ hm (fun i g h1 h2 h3 h4 => inv_goBy h3)
def kpb1 (f : Int → Int) : Int → Int := if f 58 = 8 then fup (fcp f f 85 59 182) 58 7 else f
def kpb (f : Int → Int) : Int → Int := fup (fcp (kpb1 f) (kpb1 f) 0 (59 + 26 * kpb1 f 58) 26) 58 (kpb1 f 58 + 1)
def hrN : Nat → (Int → Int) → (Int → Int)
  | 0, f => f
  | m + 1, f => if f 0 < 999 then hrN m (goBy f) else f
abbrev bAd (c : Prop) [Decidable c] (S : Nat → Int → Int) (a : Int) (r : Int × (Nat → Int → Int)) : Int × (Nat → Int → Int) := if c then (a, bdS S) else r
def commonA (S : Nat → Int → Int) : Int × (Nat → Int → Int) := (S 1 26, sst S 1 (beg (S 1)))
def cosyA (S : Nat → Int → Int) (k c s : Int) : Int × (Nat → Int → Int) :=
  if 0 ≤ k ∧ k ≤ 5 then if 0 ≤ c ∧ c ≤ 23 then if 1 ≤ s ∧ s ≤ 4 then if S 1 26 = 5 then (-4, fuS S) else (S 1 26, sst S 1 (acs (fup (S 1) 58 0) k c s)) else (-2, bdS S) else (-2, bdS S) else (-2, bdS S)
def huntedA (S : Nat → Int → Int) (c : Int) : Int × (Nat → Int → Int) := if 0 ≤ c ∧ c ≤ 23 then if S 1 37 = 6 then (-4, fuS S) else (S 1 37, sst S 1 (ahu (fup (S 1) 58 0) c)) else (-2, bdS S)
def sheriffA (S : Nat → Int → Int) (c : Int) : Int × (Nat → Int → Int) := if 0 ≤ c ∧ c ≤ 23 then if S 1 38 = 3 then (-4, fuS S) else (S 1 38, sst S 1 (ash (fup (S 1) 58 0) c)) else (-2, bdS S)
def typeA (S : Nat → Int → Int) (c : Int) : Int × (Nat → Int → Int) := if 0 ≤ c ∧ c ≤ 127 then if S 0 8 = 150 then (-4, fuS S) else (S 0 8 + 1, sst (sst S 7 (fup (S 7) (S 0 8) c)) 0 (fup (S 0) 8 (S 0 8 + 1))) else (-2, bdS S)
def clearA (S : Nat → Int → Int) : Int × (Nat → Int → Int) := (S 0 8, sst S 0 (fup (S 0) 8 0))
def hourA (S : Nat → Int → Int) (n : Int) : Int × (Nat → Int → Int) := if 1 ≤ n ∧ n ≤ 30 then (popc (tkn (hrN n.toNat (kpb (S 1)))), sst S 1 (hrN n.toNat (kpb (S 1)))) else (-2, bdS S)
def drn (f : Int → Int) (k n : Int) : Int := if n < f (6 + k) then f (6 + k) - n else 0
def darnA (S : Nat → Int → Int) (k n : Int) : Int × (Nat → Int → Int) := if 0 ≤ k ∧ k ≤ S 1 26 - 1 then if 1 ≤ n ∧ n ≤ 40 then (drn (S 1) k n, sst S 1 (fup (kpb (S 1)) (6 + k) (drn (S 1) k n))) else (-2, bdS S) else (-2, bdS S)
def carryA (S : Nat → Int → Int) (k c : Int) : Int × (Nat → Int → Int) := if 0 ≤ k ∧ k ≤ S 1 26 - 1 then if 0 ≤ c ∧ c ≤ 23 then (S 1 (1 + k), sst S 1 (brt (kpb (S 1)) k c)) else (-2, bdS S) else (-2, bdS S)
def und1 (f : Int → Int) : Int → Int := fcp (fup f 58 (f 58 - 1)) (fup f 58 (f 58 - 1)) (59 + 26 * (f 58 - 1)) 0 26
def undoA (S : Nat → Int → Int) : Int × (Nat → Int → Int) := if S 1 58 = 0 then (-3, noS S) else (und1 (S 1) 0, sst S 1 (und1 (S 1)))
def ofA (S : Nat → Int → Int) (k w : Int) : Int × (Nat → Int → Int) := if 0 ≤ k ∧ k ≤ S 1 26 - 1 then
  if w = 0 then (S 1 (27 + k), S) else if w = 1 then (S 1 (1 + k), S) else if w = 2 then (S 1 (32 + k), S) else if w = 3 then (S 1 (6 + k), S) else if w = 4 then (hlf (S 1) k, S) else if w = 5 then (und (S 1) k, S) else (-2, bdS S) else (-2, bdS S)
def aboutA (S : Nat → Int → Int) (p w : Int) : Int × (Nat → Int → Int) := if 0 ≤ p ∧ p ≤ S 1 37 - 1 then if 0 ≤ w ∧ w ≤ 2 then (tel (S 1) p w, S) else (-10, bdS S) else (-10, bdS S)
def whereA (S : Nat → Int → Int) (k : Int) : Int × (Nat → Int → Int) := if 0 ≤ k ∧ k ≤ S 1 38 - 1 then (S 1 (23 + k), S) else (-2, bdS S)
def thenA (S : Nat → Int → Int) (p m w : Int) : Int × (Nat → Int → Int) := if 0 ≤ p ∧ p ≤ S 1 37 - 1 then if 0 ≤ m ∧ m ≤ 40 then if 0 ≤ w ∧ w ≤ 2 then (tel (gon m (cpn (S 1) (S 2))) p w, sst S 2 (gon m (cpn (S 1) (S 2)))) else (-10, bdS S) else (-10, bdS S) else (-10, bdS S)
def fateA (S : Nat → Int → Int) (m w : Int) : Int × (Nat → Int → Int) := if 0 ≤ m ∧ m ≤ 40 then if 0 ≤ w ∧ w ≤ 2 then
  (if w = 0 then popc (tkn (gon m (cpn (S 1) (S 2)))) else if w = 1 then tkn (gon m (cpn (S 1) (S 2))) else una (gon m (cpn (S 1) (S 2))), sst S 2 (gon m (cpn (S 1) (S 2)))) else (-2, bdS S) else (-2, bdS S)
def whN (p : Int) : Nat → Int → (Int → Int) → Int × (Int → Int)
  | 0, _, T => (-1, T)
  | k + 1, m, T => if T (17 + p) = 6 then (-1, T) else if goBy T (17 + p) = 6 then (m, goBy T) else whN p k (m + 1) (goBy T)
def whenA (S : Nat → Int → Int) (p : Int) : Int × (Nat → Int → Int) := if 0 ≤ p ∧ p ≤ S 1 37 - 1 then ((whN p 40 1 (cpn (S 1) (S 2))).1, sst S 2 (whN p 40 1 (cpn (S 1) (S 2))).2) else (-2, bdS S)
def plT (f : Int → Int) (k m c : Int) (T : Int → Int) : Int → Int := gon m (brt (cpn f T) k c)
def plG (f : Int → Int) (k m : Int) : Int → Int × Int × (Int → Int) → Int × Int × (Int → Int) := fun c s =>
  if s.1 = -1 ∨ 10 * popc (tkn (plT f k m c s.2.2)) - una (plT f k m c s.2.2) < s.2.1 then (c, 10 * popc (tkn (plT f k m c s.2.2)) - una (plT f k m c s.2.2), plT f k m c s.2.2) else (s.1, s.2.1, plT f k m c s.2.2)
def placeA (S : Nat → Int → Int) (k m : Int) : Int × (Nat → Int → Int) := if 0 ≤ k ∧ k ≤ S 1 26 - 1 then if 0 ≤ m ∧ m ≤ 20 then ((itI 24 (plG (S 1) k m) (-1, 0, S 2)).1, sst S 2 (itI 24 (plG (S 1) k m) (-1, 0, S 2)).2.2) else (-2, bdS S) else (-2, bdS S)
def stitchesA (S : Nat → Int → Int) (k n : Int) : Int × (Nat → Int → Int) := if 0 ≤ k ∧ k ≤ S 1 26 - 1 then if 0 ≤ n ∧ n ≤ 9 then (fnd (fun d => decide (n ≤ hol (S 1 (27 + k)) (S 1 (32 + k)) (S 1 (6 + k) - d))) (S 1 (6 + k) + 1).toNat 0, S) else (-2, bdS S) else (-2, bdS S)
def ntF (f : Int → Int) (k w n : Int) : Int → Int := fup (fup (fup (fup f (40 + 3 * f 39) k) (40 + 3 * f 39 + 1) w) (40 + 3 * f 39 + 2) n) 39 (f 39 + 1)
def noteA (S : Nat → Int → Int) (k w n : Int) : Int × (Nat → Int → Int) := if 0 ≤ k ∧ k ≤ S 1 26 - 1 then if 0 ≤ w ∧ w ≤ 40 then if 0 ≤ n ∧ n ≤ 9 then if S 1 39 = 6 then (-4, fuS S) else (S 1 39 + 1, sst S 1 (ntF (S 1) k w n)) else (-2, bdS S) else (-2, bdS S) else (-2, bdS S)
def forgetA (S : Nat → Int → Int) : Int × (Nat → Int → Int) := (S 1 39, sst S 1 (fup (S 1) 39 0))
theorem kpb1_58 {f : Int → Int} (h : 0 ≤ f 58 ∧ f 58 ≤ 8) : 0 ≤ kpb1 f 58 ∧ kpb1 f 58 ≤ 7 := by
  unfold kpb1
  split
  · rw [fup_s]; omega
  · omega
theorem kpb1_lo {f : Int → Int} {j : Int} (hj : j < 58) : kpb1 f j = f j := by
  unfold kpb1
  split
  · rw [fup_n (by omega), fcp_out (by omega)]
  · rfl
theorem kpb1_rg {f : Int → Int} (h : ∀ j, j ≠ 0 → 0 ≤ f j ∧ f j ≤ 2000) (j : Int) (hj : j ≠ 0) : 0 ≤ kpb1 f j ∧ kpb1 f j ≤ 2000 := by
  unfold kpb1
  split
  · unfold fup; split
    · decide
    · unfold fcp; split
      · exact h _ (by omega)
      · exact h j hj
  · exact h j hj
theorem kpb_lo {f : Int → Int} (h : 0 ≤ f 58 ∧ f 58 ≤ 8) {j : Int} (hj : j < 58) : kpb f j = f j := by
  have e := kpb1_58 h
  unfold kpb
  rw [fup_n (by omega), fcp_out (by omega)]
  exact kpb1_lo hj
theorem inv_kpb {f : Int → Int} (hI : inv f) (h : 0 ≤ f 58 ∧ f 58 ≤ 8) (h0 : 0 ≤ f 0 ∧ f 0 ≤ 999) : inv (kpb f) := by
  refine inv_ext hI (fun j h1 h2 => kpb_lo h (by omega)) (fun j hj => ?_)
  have e := kpb1_58 h
  unfold kpb
  unfold fup; split
  · omega
  · unfold fcp; split
    · by_cases c : j = 59 + 26 * kpb1 f 58
      · rw [c, show 0 + (59 + 26 * kpb1 f 58 - (59 + 26 * kpb1 f 58)) = 0 by omega, kpb1_lo (by decide)]; omega
      · exact kpb1_rg hI.1 _ (by omega)
    · exact kpb1_rg hI.1 j hj
theorem fcp_eta {f : Int → Int} : (fun j => f j) = f := rfl
def fromA (S : Nat → Int → Int) (i : Int) : Int × (Nat → Int → Int) := if 0 ≤ i ∧ i ≤ 1 then if S 5 i = 0 then (-3, noS S) else (1, sst S 1 (fcp (S 4) (S 1) (267 * i) 0 267)) else (-2, bdS S)
def imageA (S : Nat → Int → Int) (i : Int) : Int × (Nat → Int → Int) := if 0 ≤ i ∧ i ≤ 1 then (1, sst (sst S 4 (fcp (S 1) (S 4) 0 (267 * i) 267)) 5 (fup (S 5) i 1)) else (-2, bdS S)
def statusA (S : Nat → Int → Int) (w : Int) : Int × (Nat → Int → Int) := if 0 ≤ w ∧ w ≤ 2 then (S 6 w, S) else (-1, bdS S)
def cntV (S : Nat → Int → Int) (w : Int) : Int := if w = 0 then S 1 26 else if w = 1 then S 1 37 else if w = 2 then S 1 38 else if w = 3 then S 1 0 else if w = 4 then popc (tkn (S 1)) else if w = 5 then una (S 1) else if w = 6 then S 1 39 else if w = 7 then S 1 58 else S 0 8
def countA (S : Nat → Int → Int) (w : Int) : Int × (Nat → Int → Int) := if 0 ≤ w ∧ w ≤ 8 then (cntV S w, S) else (-2, bdS S)
def partA (S : Nat → Int → Int) (w : Int) : Int × (Nat → Int → Int) := if w = 0 then (S 0 6, S) else if w = 1 then (S 0 7, S) else (-2, bdS S)
abbrev CnM (g : Gt) (M : MM) (d : Nat) (as : List Value) (h : AH) (e : Int) (Q : AH → Prop) : Prop := Cn g M d as h (fun v h' => v = some (.long (lI e)) ∧ Q h')
theorem q_m {e a : Int} {h : AH} {sz : Nat} {Q : AH → Prop} (h1 : a = e) (h2 : Q h) : (some (Value.long (lI a)) = some (Value.long (lI e)) ∧ Q h) ∧ sz = sz := ⟨⟨by rw [h1], h2⟩, rfl⟩
theorem hrN_s (m : Nat) (f : Int → Int) (h : f 0 < 999) : hrN (m + 1) f = hrN m (goBy f) := if_pos h
theorem hrN_b (m : Nat) (f : Int → Int) (h : ¬ f 0 < 999) : hrN m f = f := by cases m with | zero => rfl | succ m => exact if_neg h
theorem hrN_i {n k : Int} {f : Int → Int} (h1 : k < n) (h : f 0 < 999) : hrN (n - k).toNat f = hrN (n - (k + 1)).toNat (goBy f) := by
  have : (n - k).toNat = (n - (k + 1)).toNat + 1 := by omega
  rw [this, hrN_s _ _ h]
theorem tkn_ext {f g : Int → Int} (e : ∀ j, 0 ≤ j → j < 58 → g j = f j) (h : f 37 ≤ 6) : tkn g = tkn f := by
  unfold tkn msk
  rw [e 37 (by decide) (by decide)]
  exact itI_congr (fun i s h1 h2 => by simp only [e (17 + i) (by omega) (by omega)])
theorem whN_s {p m : Int} {T : Int → Int} (hm : m ≤ 40) (h1 : ¬ T (17 + p) = 6) (h2 : ¬ goBy T (17 + p) = 6) : whN p (41 - m).toNat m T = whN p (41 - (m + 1)).toNat (m + 1) (goBy T) := by
  have : (41 - m).toNat = (41 - (m + 1)).toNat + 1 := by omega
  rw [this]
  show (if T (17 + p) = 6 then (-1, T) else if goBy T (17 + p) = 6 then (m, goBy T) else whN p _ (m + 1) (goBy T)) = _
  rw [if_neg h1, if_neg h2]
theorem whN_t {p m : Int} {T : Int → Int} (hm : m ≤ 40) (h1 : ¬ T (17 + p) = 6) (h2 : goBy T (17 + p) = 6) : whN p (41 - m).toNat m T = (m, goBy T) := by
  have : (41 - m).toNat = (41 - (m + 1)).toNat + 1 := by omega
  rw [this]
  show (if T (17 + p) = 6 then (-1, T) else if goBy T (17 + p) = 6 then (m, goBy T) else whN p _ (m + 1) (goBy T)) = _
  rw [if_neg h1, if_pos h2]
theorem whN_6 {p m : Int} {T : Int → Int} (h1 : T (17 + p) = 6) : whN p (41 - m).toNat m T = (-1, T) := by
  cases (41 - m).toNat with
  | zero => rfl
  | succ k => exact if_pos h1
theorem whN_z {p m : Int} {T : Int → Int} (h1 : 40 < m) : whN p (41 - m).toNat m T = (-1, T) := by
  rw [show (41 - m).toNat = 0 by omega]; rfl
theorem itI_fn0 {n : Int} {G : Int → (Int → Int) → (Int → Int)} {f : Int → Int} (hn : 0 ≤ n) (j : Int) (h : ∀ i g, 0 ≤ i → i < n → G i g j = g j) : itI n G f j = f j :=
  itI_ind (fun _ g => g j = f j) G f hn rfl (fun i g h1 h2 h3 => (h i g h1 h2).trans h3)
theorem goes_0 (f : Int → Int) {p : Int} (hp : 0 ≤ p) : goes f p 0 = f 0 := by
  unfold goes
  split
  · rfl
  · split
    · exact fup_n (by omega)
    · exact fup_n (by omega)
theorem goBy_0 (f : Int → Int) : goBy f 0 = f 0 + 1 := by
  have a1 : ∀ (n : Int) (g : Int → Int), itI n goeG g 0 = g 0 := by
    intro n g
    by_cases h : 0 ≤ n
    · exact itI_fn0 h 0 (fun i g h1 h2 => by unfold goeG; split; exact goes_0 g h1; rfl)
    · unfold itI; rw [show n.toNat = 0 by omega]; rfl
  have a2 : ∀ (n s : Int) (g : Int → Int), itI n (takG s) g 0 = g 0 := by
    intro n s g
    by_cases h : 0 ≤ n
    · exact itI_fn0 h 0 (fun i g h1 h2 => by unfold takG; exact fup_n (by omega))
    · unfold itI; rw [show n.toNat = 0 by omega]; rfl
  have a3 : ∀ (g : Int → Int) (s : Int), 0 ≤ s → hunts g s 0 = g 0 := by
    intro g s hs
    unfold hunts
    rw [a2]
    unfold hun1
    split
    · rfl
    · exact fup_n (by omega)
  have a4 : ∀ (g : Int → Int), sheL g 0 = g 0 := by
    intro g
    unfold sheL
    by_cases h : 0 ≤ g 38
    · exact itI_fn0 h 0 (fun i g h1 h2 => a3 g i h1)
    · unfold itI; rw [show (g 38).toNat = 0 by omega]; rfl
  have a5 : ∀ (k n : Int) (g : Int → Int), dnI n (werG k) g 0 = g 0 := by
    intro k n g
    by_cases h : 0 ≤ n
    · have := dnI_ind (fun _ g' => g' 0 = g 0) (werG k) h (fun i g' h1 h2 h3 => by unfold werG; rw [fup_n (by omega)]; exact h3) g rfl
      exact this
    · rw [dnI_0 _ _ (by omega)]
  have a6 : ∀ (g : Int → Int) (k : Int), 0 ≤ k → wears g k 0 = g 0 := by
    intro g k hk
    unfold wears
    rw [a5]
    unfold wer1
    exact fup_n (by omega)
  have a7 : ∀ (g : Int → Int), weaL g 0 = g 0 := by
    intro g
    unfold weaL
    by_cases h : 0 ≤ g 26
    · exact itI_fn0 h 0 (fun i g h1 h2 => a6 g i h1)
    · unfold itI; rw [show (g 26).toNat = 0 by omega]; rfl
  unfold goBy endH
  rw [fup_s, a7, a4, a1]
