/-! the class: an hour, pure -/
theorem sst_ss (S : Nat → Int → Int) (j : Nat) (a b : Int → Int) : sst (sst S j a) j b = sst S j b := by funext q; unfold sst; split <;> rfl
def fle (f : Int → Int) (p w : Int) : Int → Int := if w = -1 then goes f p else cho f p w
def fleG (r w : Int) : Int → (Int → Int) → (Int → Int) := fun p g => if g (17 + p) = 0 then (if p = r then cho g p w else goes g p) else g
def hrW (f : Int → Int) (r w : Int) : Int → Int := endH (itI (f 37) (fleG r w) f)
theorem fleG_p {g : Int → Int} {p w : Int} (h : g (17 + p) = 0) : fleG p w p g = cho g p w := (if_pos h).trans (if_pos rfl)
theorem hrW_go {f : Int → Int} {r w : Int} (hr : r < 0) : hrW f r w = goBy f := by
  unfold hrW goBy
  congr 1
  refine itI_congr (fun i g h1 h2 => ?_)
  unfold fleG goeG
  rw [if_neg (show ¬ i = r by omega)]
theorem goes_oth {f : Int → Int} {q j : Int} (h1 : j ≠ 17 + q) (h2 : j ≠ 11 + q) : goes f q j = f j := by
  unfold goes
  split
  · rfl
  · split
    · exact fup_n h1
    · exact fup_n h2
theorem cho_oth {f : Int → Int} {q w j : Int} (h1 : j ≠ 17 + q) (h2 : j ≠ 11 + q) : cho f q w j = f j := by
  unfold cho
  split
  · split
    · exact fup_n h1
    · rfl
  · exact fup_n h2
theorem fleG_oth {f : Int → Int} {r w q j : Int} (h1 : j ≠ 17 + q) (h2 : j ≠ 11 + q) : fleG r w q f j = f j := by
  unfold fleG
  split
  · split
    · exact cho_oth h1 h2
    · exact goes_oth h1 h2
  · rfl
theorem hrW_gob {f : Int → Int} {p w : Int} (h7 : f 37 ≤ 6) (hp : 0 ≤ p ∧ p < f 37) (h0 : f (17 + p) = 0) (hv : vld f p w) : gob f p w = (1, hrW f p w) := by
  have key : ∀ m : Nat, (m : Int) ≤ f 37 → itI (m : Int) (gobG p w) (1, f) = (1, itI (m : Int) (fleG p w) f) ∧ ((m : Int) ≤ p → itI (m : Int) (fleG p w) f (17 + p) = f (17 + p) ∧ itI (m : Int) (fleG p w) f (11 + p) = f (11 + p)) := by
    intro m
    induction m with
    | zero => intro _; exact ⟨rfl, fun _ => ⟨rfl, rfl⟩⟩
    | succ m ih =>
      intro hm
      obtain ⟨e1, e2⟩ := ih (by omega)
      rw [show ((m + 1 : Nat) : Int) = (m : Int) + 1 by omega, itI_s _ _ (by omega), itI_s _ _ (by omega), e1]
      refine ⟨?_, fun h => ?_⟩
      · unfold gobG
        dsimp only
        rw [if_neg (by decide)]
        by_cases c : (m : Int) = p
        · obtain ⟨a1, a2⟩ := e2 (by omega)
          have hv' : vld (itI (m : Int) (fleG p w) f) p w := by unfold vld at hv ⊢; rw [a2]; exact hv
          rw [if_pos c, if_pos ⟨a1.trans h0, hv'⟩]
          rw [c] at a1 ⊢
          rw [fleG_p (a1.trans h0)]
        · rw [if_neg c]
          unfold goeG
          conv => rhs; rw [fleG]
          rw [if_neg c]
      · obtain ⟨a1, a2⟩ := e2 (by omega)
        rw [fleG_oth (by omega) (by omega), fleG_oth (by omega) (by omega)]
        exact ⟨a1, a2⟩
  have k := (key (f 37).toNat (by omega)).1
  rw [Int.toNat_of_nonneg (by omega)] at k
  unfold gob gobL
  rw [k]
  exact if_neg (show ¬ (1 : Int) = 0 by decide)
theorem inv_fle {f : Int → Int} (h : inv f) {p w : Int} (hp : 0 ≤ p ∧ p < f 37) (h0 : f (17 + p) = 0) (hw : w = -1 ∨ ((0 ≤ w ∧ w ≤ 4) ∧ vld f p w)) : inv (fle f p w) ∧ cfx f (fle f p w) := by
  unfold fle
  split
  · exact inv_goes h hp h0
  · next c => exact inv_cho h hp h0 (by rcases hw with q | q; exact absurd q c; exact q.2)
theorem RU_ce {F : Nat → Int → Int} {f : Int → Int} (h : RU F f) (h26 : f 26 ≤ 5) {p v : Int} {g : Int → Int} (hp : 0 ≤ p ∧ p < 6) : RU (sst F 5 g) (fup f (11 + p) v) := by
  intro k a b
  rw [fup_n (by omega)] at b
  rw [sst_n (by decide), sst_n (by decide), hlf_ext (f := f) (fup_n (by omega)) (fup_n (by omega)) (fup_n (by omega)), und_ext (f := f) (fup_n (by omega)) (fun q _ _ => by rw [fup_n (by omega)])]
  exact h k a b
theorem RU_add {F : Nat → Int → Int} {f g : Int → Int} (h : RU F f) (hI : inv f) {p j : Int} (hp : 0 ≤ p ∧ p < f 37) (h0 : f (17 + p) = 0) (hj : 0 ≤ j ∧ j < f 26) : RU (sst (sst (sst F 6 g) 8 (fup (F 8) j (F 8 j - 1))) 9 (fup (F 9) j (F 9 j + 1))) (fup f (17 + p) (1 + j)) := by
  have hn := hI.n
  intro k a b
  rw [fup_n (by omega)] at b
  rw [sst_s, sst_n (j := 9) (q := 8) (by decide), sst_s, hlf_ext (f := f) (fup_n (by omega)) (fup_n (by omega)) (fup_n (by omega))]
  have e := h k a b
  by_cases c : k = j
  · subst c
    rw [fup_s, fup_s, pcu_add hn.2.1 hp (by omega)]
    omega
  · rw [fup_n c, fup_n c, und_oth (by omega) (by omega) hp.1 (by omega)]
    exact e
theorem RLC_fill {F : Nat → Int → Int} {f : Int → Int} {a b : Int → Int} (h : RLC F f) : RLC (sst (sst F 8 a) 9 b) f := RLC_ru (RLC_ru h (by decide)) (by decide)
-- rooms counted
def RUn (F : Nat → Int → Int) (f : Int → Int) (n : Int) : Prop := ∀ k, 0 ≤ k → k < f 26 → F 8 k = hlf f k - cnI (fun q => f (17 + q) = 1 + k) n ∧ F 9 k = cnI (fun q => f (17 + q) = 1 + k) n
theorem RUn_y {F G : Nat → Int → Int} {f : Int → Int} {n j : Int} (h : RUn F f n) (hn : 0 ≤ n) (h0 : f (17 + n) = 1 + j) (e : G = sst (sst F 8 (fup (F 8) j (F 8 j - 1))) 9 (fup (F 9) j (F 9 j + 1))) : RUn G f (n + 1) := by
  subst e
  intro k a b
  have q := h k a b
  rw [cnI_s _ hn, sst_s, sst_n (j := 9) (q := 8) (by decide), sst_s]
  by_cases c : k = j
  · subst c
    rw [if_pos h0, fup_s, fup_s]; omega
  · rw [if_neg (by omega), fup_n c, fup_n c]; exact q
theorem RUn_n {F : Nat → Int → Int} {f : Int → Int} {n : Int} (h : RUn F f n) (hn : 0 ≤ n) (h0 : ∀ k, 0 ≤ k → k < f 26 → f (17 + n) ≠ 1 + k) : RUn F f (n + 1) := by
  intro k a b
  rw [cnI_s _ hn, if_neg (h0 k a b)]; exact h k a b
theorem RUn_e {F : Nat → Int → Int} {f : Int → Int} (hI : inv f) (h : RUn F f (f 37)) : RU F f := by
  intro k a b
  rw [pcu_eq hI.n.2.1]; exact h k a b
theorem RUn_0 {F : Nat → Int → Int} {f g8 g9 : Int → Int} (h : ∀ q, 0 ≤ q → q < f 26 → g8 q = hlf f q ∧ g9 q = 0) : RUn (sst (sst F 8 g8) 9 g9) f 0 := by
  intro k a b
  have e : cnI (fun q => f (17 + q) = 1 + k) 0 = 0 := rfl
  rw [e, sst_s, sst_n (j := 9) (q := 8) (by decide), sst_s]
  have := h k a b; omega
-- the sheriffs
theorem hbeG_y {f : Int → Int} {s p b : Int} (c : f (17 + p) = 0 ∧ (b = -1 ∨ far (f (11 + p)) (f (23 + s)) < far (f (11 + b)) (f (23 + s)))) : hbeG f s p b = p := if_pos c
theorem hbeG_n {f : Int → Int} {s p b : Int} (c : ¬ (f (17 + p) = 0 ∧ (b = -1 ∨ far (f (11 + p)) (f (23 + s)) < far (f (11 + b)) (f (23 + s))))) : hbeG f s p b = b := if_neg c
theorem hbe_none {f : Int → Int} {s : Int} {n : Int} (hn : 0 ≤ n) (h : itI n (hbeG f s) (-1) = -1) : ∀ p, 0 ≤ p → p < n → f (17 + p) ≠ 0 := by
  have key : ∀ m : Nat, itI (m : Int) (hbeG f s) (-1) = -1 → ∀ p, 0 ≤ p → p < (m : Int) → f (17 + p) ≠ 0 := by
    intro m
    induction m with
    | zero => intro _ p a b; omega
    | succ m ih =>
      rw [show ((m + 1 : Nat) : Int) = (m : Int) + 1 by omega, itI_s _ _ (by omega)]
      intro e p a b
      have r := hbe_rg (f := f) (s := s) (n := (m : Int)) (by omega)
      by_cases c : f (17 + (m : Int)) = 0 ∧ (itI (m : Int) (hbeG f s) (-1) = -1 ∨ far (f (11 + (m : Int))) (f (23 + s)) < far (f (11 + itI (m : Int) (hbeG f s) (-1))) (f (23 + s)))
      · rw [hbeG_y c] at e; omega
      · rw [hbeG_n c] at e
        have e9 := e
        by_cases w : p = (m : Int)
        · subst w; intro z; exact c ⟨z, Or.inl e9⟩
        · exact ih e9 p a (by omega)
  have := key n.toNat
  rw [Int.toNat_of_nonneg hn] at this
  exact this h
theorem tak_y {f : Int → Int} {s q : Int} (h1 : f (17 + q) = 0) (h2 : f (11 + q) = f (23 + s)) : takG s q f = fup f (17 + q) 6 := by unfold takG; rw [if_pos ⟨h1, h2⟩]
theorem tak_n {f : Int → Int} {s q : Int} (h : ¬ (f (17 + q) = 0 ∧ f (11 + q) = f (23 + s))) : takG s q f = f := by unfold takG; rw [if_neg h]; exact fup_id rfl
theorem hunts_none {f : Int → Int} {s : Int} (hn : 0 ≤ f 37) (h : hbe f s = -1) : hunts f s = f := by
  have h0 := hbe_none hn h
  unfold hunts hun1
  rw [if_pos h]
  exact itI_ind (fun _ g => g = f) _ _ hn rfl (fun i g a b e => by subst e; exact tak_n (fun w => h0 i a b w.1))
def kpH (f g : Int → Int) : Prop := (∀ j, 0 ≤ j → j < 11 → g j = f j) ∧ cfx f g ∧ ∀ k, 0 ≤ k → k < 5 → und g k = und f k
theorem kpH.rf {f : Int → Int} : kpH f f := ⟨fun _ _ _ => rfl, cfx.rf, fun _ _ _ => rfl⟩
theorem kpH.tr {f g e : Int → Int} (a : kpH f g) (b : kpH g e) : kpH f e := ⟨fun j x y => (b.1 j x y).trans (a.1 j x y), a.2.1.tr b.2.1, fun k x y => (b.2.2 k x y).trans (a.2.2 k x y)⟩
theorem kp_tak {g : Int → Int} {s p : Int} (hp : 0 ≤ p ∧ p < 6) : kpH g (takG s p g) := by
  by_cases c : g (17 + p) = 0 ∧ g (11 + p) = g (23 + s)
  · rw [tak_y c.1 c.2]
    exact ⟨fun j a b => fup_n (by omega), cfx_fup (by omega), fun k a b => und_oth (by omega) (by omega) hp.1 (by omega)⟩
  · rw [tak_n c]; exact kpH.rf
theorem kp_hun1 {f : Int → Int} (hn : 0 ≤ f 37 ∧ f 37 ≤ 6) {s : Int} (hs : 0 ≤ s ∧ s < 3) : kpH f (hun1 f s) := by
  unfold hun1
  split
  · exact kpH.rf
  · exact ⟨fun j a b => fup_n (by omega), cfx_fup (by omega), fun k a b => und_ext (fup_n (by omega)) (fun q _ _ => by rw [fup_n (by omega)])⟩
theorem kp_hunts {f : Int → Int} (hn : 0 ≤ f 37 ∧ f 37 ≤ 6) {s : Int} (hs : 0 ≤ s ∧ s < 3) : kpH f (hunts f s) := by
  unfold hunts
  exact itI_ind (fun _ g => kpH f g) _ _ hn.1 (kp_hun1 hn hs) (fun i g a b e => e.tr (kp_tak ⟨a, by omega⟩))
theorem RU_kp {F G : Nat → Int → Int} {f g : Int → Int} (h : RU F f) (h26 : f 26 ≤ 5) (k9 : kpH f g) (e8 : G 8 = F 8) (e9 : G 9 = F 9) : RU G g := by
  intro k a b
  rw [k9.2.1 26 (by decide)] at b
  rw [e8, e9, hlf_ext (f := f) (k9.2.1 _ (by omega)) (k9.2.1 _ (by omega)) (k9.1 _ (by omega) (by omega)), k9.2.2 k a (by omega)]
  exact h k a b
-- the wear
def RV (F : Nat → Int → Int) (f : Int → Int) (n : Int) : Prop := ∀ k, n ≤ k → k < f 26 → F 9 k = popc (und f k)
def QV (h : AH) (c : Nat) (f' : Int → Int) (n : Int) : AH → Prop := fun h' => ∃ F', CM h' c F' ∧ RLC F' f' ∧ RV F' f' n ∧ Fr h h' c 10
theorem RU.v {F : Nat → Int → Int} {f : Int → Int} (h : RU F f) : RV F f 0 := fun k a b => (h k a b).2
theorem wer_stop {g : Int → Int} {k : Int} (h : popc (und g k) ≤ hlf g k) (n : Int) : dnI n (werG k) g = g := by
  have e : ∀ p, werG k p g = g := fun p => by unfold werG; rw [if_neg (by omega)]; exact fup_id rfl
  have key : ∀ m : Nat, dnN (werG k) m g = g := by
    intro m
    induction m with
    | zero => rfl
    | succ m ih => show dnN (werG k) m (werG k m g) = g; rw [e]; exact ih
  exact key _
theorem werG_y {g : Int → Int} {k p : Int} (h1 : g (17 + p) = 1 + k) (h2 : hlf g k < popc (und g k)) : werG k p g = fup g (17 + p) 0 := by unfold werG; rw [if_pos ⟨h1, h2⟩]
theorem werG_n {g : Int → Int} {k p : Int} (h1 : g (17 + p) ≠ 1 + k) : werG k p g = g := by unfold werG; rw [if_neg (fun w => h1 w.1)]; exact fup_id rfl
theorem RLC_free {F : Nat → Int → Int} {f : Int → Int} (h : RLC F f) (hn : (0 ≤ f 26 ∧ f 26 ≤ 5) ∧ (0 ≤ f 37 ∧ f 37 ≤ 6) ∧ (0 ≤ f 38 ∧ f 38 ≤ 3)) {p v : Int} (hp : 0 ≤ p ∧ p < f 37) (hv : v = f (11 + p)) : RLC (sst (sst F 5 (fup (F 5) p v)) 6 (fup (F 6) p (-1))) (fup f (17 + p) 0) := by
  have a := RLC_ce h hn (p := p) (v := v) hp
  rw [fup_id hv] at a
  exact RLC_st a hn hp (by decide)
theorem RV_wer1 {F : Nat → Int → Int} {f g : Int → Int} {k v : Int} (h : RV F f k) (hk : 0 ≤ k ∧ k < f 26) (h26 : f 26 ≤ 5) : RV (sst F 4 g) (fup f (6 + k) v) k := by
  intro j a b
  rw [fup_n (by omega)] at b
  rw [sst_n (by decide), und_ext (f := f) (fup_n (by omega)) (fun q _ _ => by rw [fup_n (by omega)])]
  exact h j a b
theorem RV_free {F : Nat → Int → Int} {f a b : Int → Int} {p k : Int} (h : RV F f (k + 1)) (hp : 0 ≤ p ∧ p < 6) (hk : 0 ≤ k) (h26 : f 26 ≤ 5) (h0 : f (17 + p) = 1 + k) : RV (sst (sst F 5 a) 6 b) (fup f (17 + p) 0) (k + 1) := by
  intro j x y
  rw [fup_n (by omega)] at y
  rw [sst_n (by decide), sst_n (by decide), und_oth (by omega) (by omega) hp.1 (by omega)]
  exact h j x y
theorem RV.lt {F : Nat → Int → Int} {f : Int → Int} {n m : Int} (h : RV F f n) (hm : n ≤ m) : RV F f m := fun k a b => h k (by omega) b
