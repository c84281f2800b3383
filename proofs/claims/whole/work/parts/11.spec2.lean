/-! the reference's hour, as functions of the row of numbers -/
def inv (f : Int → Int) : Prop :=
  (∀ j, j ≠ 0 → 0 ≤ f j ∧ f j ≤ 2000) ∧ (f 26 ≤ 5 ∧ f 37 ≤ 6 ∧ f 38 ≤ 3) ∧
  (∀ k, 0 ≤ k ∧ k < 5 → f (1 + k) < 24 ∧ f (6 + k) ≤ 40 ∧ f (27 + k) ≤ 5 ∧ f (32 + k) ≤ 4 ∧ (f 26 ≤ k → f (6 + k) = 0)) ∧
  (∀ p, 0 ≤ p ∧ p < 6 → f (11 + p) < 24 ∧ f (17 + p) ≤ 6 ∧ (f 37 ≤ p → f (17 + p) = 0) ∧ (1 ≤ f (17 + p) → f (17 + p) ≤ 5 → f (17 + p) ≤ f 26 ∧ f (11 + p) = f (f (17 + p)))) ∧
  (∀ s, 0 ≤ s ∧ s < 3 → f (23 + s) < 24)
theorem inv.rg {f : Int → Int} (h : inv f) (j : Int) (hj : j ≠ 0) : 0 ≤ f j ∧ f j ≤ 2000 := h.1 j hj
theorem inv.n {f : Int → Int} (h : inv f) : (0 ≤ f 26 ∧ f 26 ≤ 5) ∧ (0 ≤ f 37 ∧ f 37 ≤ 6) ∧ (0 ≤ f 38 ∧ f 38 ≤ 3) := ⟨⟨(h.1 26 (by decide)).1, h.2.1.1⟩, ⟨(h.1 37 (by decide)).1, h.2.1.2.1⟩, ⟨(h.1 38 (by decide)).1, h.2.1.2.2⟩⟩
theorem inv.k {f : Int → Int} (h : inv f) (k : Int) (hk : 0 ≤ k ∧ k < 5) : (0 ≤ f (1 + k) ∧ f (1 + k) < 24) ∧ (0 ≤ f (6 + k) ∧ f (6 + k) ≤ 40) ∧ (0 ≤ f (27 + k) ∧ f (27 + k) ≤ 5) ∧ (0 ≤ f (32 + k) ∧ f (32 + k) ≤ 4) ∧ (f 26 ≤ k → f (6 + k) = 0) := by
  obtain ⟨a, b, c, d, e⟩ := h.2.2.1 k hk
  exact ⟨⟨(h.1 _ (by omega)).1, a⟩, ⟨(h.1 _ (by omega)).1, b⟩, ⟨(h.1 _ (by omega)).1, c⟩, ⟨(h.1 _ (by omega)).1, d⟩, e⟩
theorem inv.p {f : Int → Int} (h : inv f) (p : Int) (hp : 0 ≤ p ∧ p < 6) : (0 ≤ f (11 + p) ∧ f (11 + p) < 24) ∧ (0 ≤ f (17 + p) ∧ f (17 + p) ≤ 6) ∧ (f 37 ≤ p → f (17 + p) = 0) ∧ (1 ≤ f (17 + p) → f (17 + p) ≤ 5 → f (17 + p) ≤ f 26 ∧ f (11 + p) = f (f (17 + p))) := by
  obtain ⟨a, b, c, d⟩ := h.2.2.2.1 p hp
  exact ⟨⟨(h.1 _ (by omega)).1, a⟩, ⟨(h.1 _ (by omega)).1, b⟩, c, d⟩
theorem inv.s {f : Int → Int} (h : inv f) (s : Int) (hs : 0 ≤ s ∧ s < 3) : 0 ≤ f (23 + s) ∧ f (23 + s) < 24 := ⟨(h.1 _ (by omega)).1, h.2.2.2.2 s hs⟩
/-- nothing at 26 or behind has changed -/
def cfx (f g : Int → Int) : Prop := ∀ j, 26 ≤ j → g j = f j
theorem cfx.rf {f : Int → Int} : cfx f f := fun _ _ => rfl
theorem cfx.tr {f g h : Int → Int} (a : cfx f g) (b : cfx g h) : cfx f h := fun j hj => (b j hj).trans (a j hj)
theorem cfx_fup {f : Int → Int} {i v : Int} (hi : i < 26) : cfx f (fup f i v) := fun j hj => fup_n (by omega)
theorem inv_st {f : Int → Int} (h : inv f) {p v : Int} (hp : 0 ≤ p ∧ p < f 37) (hv : 0 ≤ v ∧ v ≤ 6) (hc : 1 ≤ v → v ≤ 5 → v ≤ f 26 ∧ f (11 + p) = f v) : inv (fup f (17 + p) v) := by
  have hn := h.n
  obtain ⟨h1, h2, h3, h4, h5⟩ := h
  refine ⟨fun j hj => ?_, ?_, fun k hk => ?_, fun q hq => ?_, fun s hs => ?_⟩
  · have := h1 j hj; unfold fup; split <;> omega
  · rw [fup_n (by omega), fup_n (by omega), fup_n (by omega)]; exact h2
  · rw [fup_n (by omega), fup_n (by omega), fup_n (by omega), fup_n (by omega), fup_n (by omega)]; exact h3 k hk
  · have e := h4 q hq
    rw [fup_n (q := 11 + q) (by omega), fup_n (q := 37) (by omega), fup_n (q := 26) (by omega)]
    by_cases hqp : q = p
    · subst hqp
      rw [fup_s]
      refine ⟨e.1, hv.2, fun c => by omega, fun a b => ⟨(hc a b).1, ?_⟩⟩
      rw [fup_n (by omega)]; exact (hc a b).2
    · rw [fup_n (q := 17 + q) (by omega)]
      refine ⟨e.1, e.2.1, e.2.2.1, fun a b => ⟨(e.2.2.2 a b).1, ?_⟩⟩
      rw [fup_n (by omega)]; exact (e.2.2.2 a b).2
  · rw [fup_n (by omega)]; exact h5 s hs
theorem inv_ce {f : Int → Int} (h : inv f) {p v : Int} (hp : 0 ≤ p ∧ p < 6) (hv : 0 ≤ v ∧ v < 24) (hc : f (17 + p) = 0 ∨ f (17 + p) = 6) : inv (fup f (11 + p) v) := by
  have hn := h.n
  obtain ⟨h1, h2, h3, h4, h5⟩ := h
  refine ⟨fun j hj => ?_, ?_, fun k hk => ?_, fun q hq => ?_, fun s hs => ?_⟩
  · have := h1 j hj; unfold fup; split <;> omega
  · rw [fup_n (by omega), fup_n (by omega), fup_n (by omega)]; exact h2
  · rw [fup_n (by omega), fup_n (by omega), fup_n (by omega), fup_n (by omega), fup_n (by omega)]; exact h3 k hk
  · have e := h4 q hq
    rw [fup_n (q := 17 + q) (by omega), fup_n (q := 37) (by omega), fup_n (q := 26) (by omega)]
    by_cases hqp : q = p
    · subst hqp
      rw [fup_s]
      exact ⟨hv.2, e.2.1, e.2.2.1, fun a b => by omega⟩
    · rw [fup_n (q := 11 + q) (by omega)]
      refine ⟨e.1, e.2.1, e.2.2.1, fun a b => ⟨(e.2.2.2 a b).1, ?_⟩⟩
      rw [fup_n (by omega)]; exact (e.2.2.2 a b).2
  · rw [fup_n (by omega)]; exact h5 s hs
theorem inv_sh {f : Int → Int} (h : inv f) {t v : Int} (ht : 0 ≤ t ∧ t < 3) (hv : 0 ≤ v ∧ v < 24) : inv (fup f (23 + t) v) := by
  obtain ⟨h1, h2, h3, h4, h5⟩ := h
  refine ⟨fun j hj => ?_, ?_, fun k hk => ?_, fun q hq => ?_, fun s hs => ?_⟩
  · have := h1 j hj; unfold fup; split <;> omega
  · rw [fup_n (by omega), fup_n (by omega), fup_n (by omega)]; exact h2
  · rw [fup_n (by omega), fup_n (by omega), fup_n (by omega), fup_n (by omega), fup_n (by omega)]; exact h3 k hk
  · have e := h4 q hq
    have e1 := h1 (17 + q) (by omega)
    rw [fup_n (q := 11 + q) (by omega), fup_n (q := 17 + q) (by omega), fup_n (q := 37) (by omega), fup_n (q := 26) (by omega), fup_n (q := f (17 + q)) (by omega)]
    exact e
  · unfold fup; split; omega; exact h5 s hs
theorem inv_we {f : Int → Int} (h : inv f) {t v : Int} (ht : 0 ≤ t ∧ t < f 26) (hv : 0 ≤ v ∧ v ≤ 40) : inv (fup f (6 + t) v) := by
  have hn := h.n
  obtain ⟨h1, h2, h3, h4, h5⟩ := h
  refine ⟨fun j hj => ?_, ?_, fun k hk => ?_, fun q hq => ?_, fun s hs => ?_⟩
  · have := h1 j hj; unfold fup; split <;> omega
  · rw [fup_n (by omega), fup_n (by omega), fup_n (by omega)]; exact h2
  · have e := h3 k hk
    rw [fup_n (q := 1 + k) (by omega), fup_n (q := 27 + k) (by omega), fup_n (q := 32 + k) (by omega), fup_n (q := 26) (by omega)]
    by_cases hkt : k = t
    · subst hkt; rw [fup_s]; omega
    · rw [fup_n (q := 6 + k) (by omega)]; exact e
  · have e := h4 q hq
    have e1 := h1 (17 + q) (by omega)
    rw [fup_n (q := 11 + q) (by omega), fup_n (q := 17 + q) (by omega), fup_n (q := 37) (by omega), fup_n (q := 26) (by omega)]
    refine ⟨e.1, e.2.1, e.2.2.1, fun a b => ⟨(e.2.2.2 a b).1, ?_⟩⟩
    rw [fup_n (by omega)]; exact (e.2.2.2 a b).2
  · rw [fup_n (by omega)]; exact h5 s hs
theorem inv_ho {f : Int → Int} (h : inv f) {v : Int} : inv (fup f 0 v) := by
  have hn := h.n
  obtain ⟨h1, h2, h3, h4, h5⟩ := h
  refine ⟨fun j hj => by rw [fup_n hj]; exact h1 j hj, ?_, fun k hk => ?_, fun q hq => ?_, fun s hs => ?_⟩
  · rw [fup_n (by omega), fup_n (by omega), fup_n (by omega)]; exact h2
  · rw [fup_n (by omega), fup_n (by omega), fup_n (by omega), fup_n (by omega), fup_n (by omega)]; exact h3 k hk
  · have e := h4 q hq
    have e1 := h1 (17 + q) (by omega)
    rw [fup_n (q := 11 + q) (by omega), fup_n (q := 17 + q) (by omega), fup_n (q := 37) (by omega), fup_n (q := 26) (by omega)]
    refine ⟨e.1, e.2.1, e.2.2.1, fun a b => ⟨(e.2.2.2 a b).1, ?_⟩⟩
    rw [fup_n (by omega)]; exact (e.2.2.2 a b).2
  · rw [fup_n (by omega)]; exact h5 s hs
-- masks and counts
def msk (c : Int → Prop) [DecidablePred c] (n : Int) : Int := itI n (fun p m => if c p then m + pw p else m) 0
def cnI (c : Int → Prop) [DecidablePred c] (n : Int) : Int := itI n (fun p m => if c p then m + 1 else m) 0
theorem msk_s (c : Int → Prop) [DecidablePred c] {n : Int} (h : 0 ≤ n) : msk c (n + 1) = if c n then msk c n + pw n else msk c n := itI_s _ _ h
theorem cnI_s (c : Int → Prop) [DecidablePred c] {n : Int} (h : 0 ≤ n) : cnI c (n + 1) = if c n then cnI c n + 1 else cnI c n := itI_s _ _ h
theorem msk_rg (c : Int → Prop) [DecidablePred c] {n : Int} (hn : 0 ≤ n ∧ n ≤ 6) : 0 ≤ msk c n ∧ msk c n < pw n := by
  unfold msk
  refine itI_ind (fun i m => 0 ≤ m ∧ m < pw i) _ _ hn.1 ⟨by decide, by decide⟩ (fun i m h1 h2 h3 => ?_)
  have e1 := pw_s h1
  have e2 := pw_rg (p := i) ⟨h1, by omega⟩
  split <;> omega
theorem pw_64 {n : Int} (hn : 0 ≤ n ∧ n ≤ 6) : 1 ≤ pw n ∧ pw n ≤ 64 := by
  have : n = 0 ∨ n = 1 ∨ n = 2 ∨ n = 3 ∨ n = 4 ∨ n = 5 ∨ n = 6 := by omega
  rcases this with rfl | rfl | rfl | rfl | rfl | rfl | rfl <;> decide
theorem msk_64 (c : Int → Prop) [DecidablePred c] {n : Int} (hn : 0 ≤ n ∧ n ≤ 6) : 0 ≤ msk c n ∧ msk c n < 64 := by
  have := msk_rg c hn
  have := pw_64 hn
  omega
theorem popc_t : ∀ p : Fin 6, ∀ m : Fin 64, m.val < 2 ^ p.val → popc ((m.val : Int) + (2 ^ p.val : Int)) = popc (m.val : Int) + 1 := by decide +kernel
theorem popc_pw {m p : Int} (hp : 0 ≤ p ∧ p < 6) (h : 0 ≤ m ∧ m < pw p) : popc (m + pw p) = popc m + 1 := by
  have h2 := pw_rg hp
  have h3 : m.toNat < 2 ^ p.toNat := by
    have : ((2 ^ p.toNat : Nat) : Int) = pw p := by unfold pw; simp
    omega
  have := popc_t ⟨p.toNat, by omega⟩ ⟨m.toNat, by omega⟩ h3
  simpa [Int.toNat_of_nonneg h.1, pw] using this
theorem popc_msk (c : Int → Prop) [DecidablePred c] {n : Int} (hn : 0 ≤ n ∧ n ≤ 6) : popc (msk c n) = cnI c n := by
  have key : ∀ i : Nat, (i : Int) ≤ 6 → popc (msk c (i : Int)) = cnI c (i : Int) := by
    intro i
    induction i with
    | zero => intro _; rfl
    | succ i ih =>
      intro hi
      have e : ((i + 1 : Nat) : Int) = (i : Int) + 1 := by omega
      rw [e, msk_s c (by omega), cnI_s c (by omega)]
      have := ih (by omega)
      split
      · rw [popc_pw (by omega) (msk_rg c (by omega)), this]
      · exact this
  have := key n.toNat (by omega)
  rwa [Int.toNat_of_nonneg hn.1] at this
theorem cnI_rg (c : Int → Prop) [DecidablePred c] {n : Int} (hn : 0 ≤ n) : 0 ≤ cnI c n ∧ cnI c n ≤ n := by
  unfold cnI
  refine itI_ind (fun i m => 0 ≤ m ∧ m ≤ i) _ _ hn ⟨by decide, by decide⟩ (fun i m h1 h2 h3 => ?_)
  split <;> omega
def hlf (f : Int → Int) (k : Int) : Int := hol (f (27 + k)) (f (32 + k)) (f (6 + k))
def und (f : Int → Int) (k : Int) : Int := msk (fun p => f (17 + p) = 1 + k) (f 37)
def tkn (f : Int → Int) : Int := msk (fun p => f (17 + p) = 6) (f 37)
def una (f : Int → Int) : Int := cnI (fun p => f (17 + p) ≠ 0 ∧ f (17 + p) ≠ 6) (f 37)
def golG (f : Int → Int) (p : Int) : Int → Int → Int := fun k b => if popc (und f k) < hlf f k ∧ (b = -1 ∨ far (f (1 + k)) (f (11 + p)) < far (f (1 + b)) (f (11 + p))) then k else b
def goal (f : Int → Int) (p : Int) : Int := itI (f 26) (golG f p) (-1)
def goes (f : Int → Int) (p : Int) : Int → Int := if goal f p = -1 then f else if f (1 + goal f p) = f (11 + p) then fup f (17 + p) (1 + goal f p) else fup f (11 + p) (stp (f (11 + p)) (f (1 + goal f p)))
def hbeG (f : Int → Int) (s : Int) : Int → Int → Int := fun p b => if f (17 + p) = 0 ∧ (b = -1 ∨ far (f (11 + p)) (f (23 + s)) < far (f (11 + b)) (f (23 + s))) then p else b
def hbe (f : Int → Int) (s : Int) : Int := itI (f 37) (hbeG f s) (-1)
def takG (s : Int) : Int → (Int → Int) → (Int → Int) := fun p g => fup g (17 + p) (if g (17 + p) = 0 ∧ g (11 + p) = g (23 + s) then 6 else g (17 + p))
def hun1 (f : Int → Int) (s : Int) : Int → Int := if hbe f s = -1 then f else fup f (23 + s) (stp (f (23 + s)) (f (11 + hbe f s)))
def hunts (f : Int → Int) (s : Int) : Int → Int := itI (f 37) (takG s) (hun1 f s)
def wer1 (f : Int → Int) (k : Int) : Int → Int := fup f (6 + k) (if 40 < f (6 + k) + wby (f (27 + k)) (popc (und f k)) then 40 else f (6 + k) + wby (f (27 + k)) (popc (und f k)))
def werG (k : Int) : Int → (Int → Int) → (Int → Int) := fun p g => fup g (17 + p) (if g (17 + p) = 1 + k ∧ hlf g k < popc (und g k) then 0 else g (17 + p))
def wears (f : Int → Int) (k : Int) : Int → Int := dnI (f 37) (werG k) (wer1 f k)
def huG : Int → (Int → Int) → (Int → Int) := fun s g => hunts g s
def weG : Int → (Int → Int) → (Int → Int) := fun k g => wears g k
def sheL (f : Int → Int) : Int → Int := itI (f 38) huG f
def weaL (f : Int → Int) : Int → Int := itI (f 26) weG f
def endH (f : Int → Int) : Int → Int := fup (weaL (sheL f)) 0 (weaL (sheL f) 0 + 1)
def goeG : Int → (Int → Int) → (Int → Int) := fun p g => if g (17 + p) = 0 then goes g p else g
def goBy (f : Int → Int) : Int → Int := endH (itI (f 37) goeG f)
theorem hlf_rg {f : Int → Int} (h : inv f) {k : Int} (hk : 0 ≤ k ∧ k < 5) : 0 ≤ hlf f k ∧ hlf f k ≤ 7 := by
  have e := h.k k hk
  exact hol_rg e.2.2.1 e.2.2.2.1 e.2.1
theorem und_rg {f : Int → Int} (h : inv f) (k : Int) : 0 ≤ und f k ∧ und f k < 64 := msk_64 _ h.n.2.1
theorem tkn_rg {f : Int → Int} (h : inv f) : 0 ≤ tkn f ∧ tkn f < 64 := msk_64 _ h.n.2.1
theorem pcu_rg {f : Int → Int} (h : inv f) (k : Int) : 0 ≤ popc (und f k) ∧ popc (und f k) ≤ 6 := by
  have e := popc_msk (fun p => f (17 + p) = 1 + k) h.n.2.1
  have e2 := cnI_rg (fun p => f (17 + p) = 1 + k) h.n.2.1.1
  have := h.n.2.1
  unfold und
  omega
theorem gol_rg {f : Int → Int} {p n : Int} (hn : 0 ≤ n) : (itI n (golG f p) (-1) = -1) ∨ (0 ≤ itI n (golG f p) (-1) ∧ itI n (golG f p) (-1) < n ∧ popc (und f (itI n (golG f p) (-1))) < hlf f (itI n (golG f p) (-1))) := by
  refine itI_ind (fun i b => b = -1 ∨ (0 ≤ b ∧ b < i ∧ popc (und f b) < hlf f b)) _ _ hn (Or.inl rfl) (fun i b h1 h2 h3 => ?_)
  unfold golG
  split
  · next c => exact Or.inr ⟨h1, by omega, c.1⟩
  · rcases h3 with h3 | h3
    · exact Or.inl h3
    · exact Or.inr ⟨h3.1, by omega, h3.2.2⟩
theorem hbe_rg {f : Int → Int} {s n : Int} (hn : 0 ≤ n) : (itI n (hbeG f s) (-1) = -1) ∨ (0 ≤ itI n (hbeG f s) (-1) ∧ itI n (hbeG f s) (-1) < n ∧ f (17 + itI n (hbeG f s) (-1)) = 0) := by
  refine itI_ind (fun i b => b = -1 ∨ (0 ≤ b ∧ b < i ∧ f (17 + b) = 0)) _ _ hn (Or.inl rfl) (fun i b h1 h2 h3 => ?_)
  unfold hbeG
  split
  · next c => exact Or.inr ⟨h1, by omega, c.1⟩
  · rcases h3 with h3 | h3
    · exact Or.inl h3
    · exact Or.inr ⟨h3.1, by omega, h3.2.2⟩
theorem inv_goes {f : Int → Int} (h : inv f) {p : Int} (hp : 0 ≤ p ∧ p < f 37) (h0 : f (17 + p) = 0) : inv (goes f p) ∧ cfx f (goes f p) := by
  have hn := h.n
  have g := gol_rg (f := f) (p := p) hn.1.1
  unfold goes goal
  split
  · exact ⟨h, cfx.rf⟩
  · next c =>
    have g2 : 0 ≤ itI (f 26) (golG f p) (-1) ∧ itI (f 26) (golG f p) (-1) < f 26 := by omega
    have ek := h.k (itI (f 26) (golG f p) (-1)) (by omega)
    have ep := h.p p (by omega)
    split
    · next c2 => exact ⟨inv_st h hp (by omega) (fun a b => ⟨by omega, c2.symm⟩), cfx_fup (by omega)⟩
    · exact ⟨inv_ce h (by omega) (stp_rg ep.1 ek.1) (Or.inl h0), cfx_fup (by omega)⟩
theorem inv_tak {f : Int → Int} (h : inv f) {p s : Int} (hp : 0 ≤ p ∧ p < f 37) : inv (takG s p f) ∧ cfx f (takG s p f) := by
  have hn := h.n
  have ep := h.p p (by omega)
  unfold takG
  refine ⟨inv_st h hp (by split <;> omega) (fun a b => ?_), cfx_fup (by omega)⟩
  split at b
  · omega
  · next c =>
    rw [if_neg c] at a
    rw [if_neg c]
    exact ep.2.2.2 a b
theorem inv_hun1 {f : Int → Int} (h : inv f) {s : Int} (hs : 0 ≤ s ∧ s < f 38) : inv (hun1 f s) ∧ cfx f (hun1 f s) := by
  have hn := h.n
  have g := hbe_rg (f := f) (s := s) hn.2.1.1
  unfold hun1 hbe
  split
  · exact ⟨h, cfx.rf⟩
  · have ep := h.p (itI (f 37) (hbeG f s) (-1)) (by omega)
    exact ⟨inv_sh h (by omega) (stp_rg (h.s s (by omega)) ep.1), cfx_fup (by omega)⟩
theorem inv_itI {f g0 : Int → Int} {n : Int} {G : Int → (Int → Int) → (Int → Int)} (h : inv g0 ∧ cfx f g0) (hn : 0 ≤ n) (hs : ∀ i g, 0 ≤ i → i < n → inv g → cfx f g → inv (G i g) ∧ cfx g (G i g)) : inv (itI n G g0) ∧ cfx f (itI n G g0) :=
  itI_ind (fun i g => inv g ∧ cfx f g) G g0 hn h (fun i g h1 h2 h3 => ⟨(hs i g h1 h2 h3.1 h3.2).1, h3.2.tr (hs i g h1 h2 h3.1 h3.2).2⟩)
theorem inv_hunts {f : Int → Int} (h : inv f) {s : Int} (hs : 0 ≤ s ∧ s < f 38) : inv (hunts f s) ∧ cfx f (hunts f s) :=
  inv_itI (inv_hun1 h hs) h.n.2.1.1 (fun i g h1 h2 h3 h4 => inv_tak h3 ⟨h1, by rw [h4 37 (by decide)]; exact h2⟩)
theorem inv_wer1 {f : Int → Int} (h : inv f) {k : Int} (hk : 0 ≤ k ∧ k < f 26) : inv (wer1 f k) ∧ cfx f (wer1 f k) := by
  have hn := h.n
  have ek := h.k k (by omega)
  have e2 := wby_rg (k := f (27 + k)) (pcu_rg h k)
  unfold wer1
  exact ⟨inv_we h hk (by split <;> omega), cfx_fup (by omega)⟩
theorem inv_werG {f : Int → Int} (h : inv f) {p k : Int} (hp : 0 ≤ p ∧ p < f 37) : inv (werG k p f) ∧ cfx f (werG k p f) := by
  have hn := h.n
  have ep := h.p p (by omega)
  unfold werG
  refine ⟨inv_st h hp (by split <;> omega) (fun a b => ?_), cfx_fup (by omega)⟩
  split at b
  · next c => rw [if_pos c] at a; omega
  · next c =>
    rw [if_neg c] at a
    rw [if_neg c]
    exact ep.2.2.2 a b
theorem inv_wears {f : Int → Int} (h : inv f) {k : Int} (hk : 0 ≤ k ∧ k < f 26) : inv (wears f k) ∧ cfx f (wears f k) :=
  dnI_ind (fun _ g => inv g ∧ cfx f g) (werG k) h.n.2.1.1 (fun i g h1 h2 h3 => ⟨(inv_werG h3.1 ⟨h1, by rw [h3.2 37 (by decide)]; exact h2⟩).1, h3.2.tr (inv_werG h3.1 ⟨h1, by rw [h3.2 37 (by decide)]; exact h2⟩).2⟩) _ (inv_wer1 h hk)
theorem inv_sheL {f : Int → Int} (h : inv f) : inv (sheL f) ∧ cfx f (sheL f) := inv_itI ⟨h, cfx.rf⟩ h.n.2.2.1 (fun i g h1 h2 h3 h4 => inv_hunts h3 ⟨h1, by rw [h4 38 (by decide)]; exact h2⟩)
theorem inv_weaL {f : Int → Int} (h : inv f) : inv (weaL f) ∧ cfx f (weaL f) := inv_itI ⟨h, cfx.rf⟩ h.n.1.1 (fun i g h1 h2 h3 h4 => inv_wears h3 ⟨h1, by rw [h4 26 (by decide)]; exact h2⟩)
theorem inv_endH {f : Int → Int} (h : inv f) : inv (endH f) ∧ cfx f (endH f) := by
  have h1 := inv_sheL h
  have h2 := inv_weaL h1.1
  exact ⟨inv_ho h2.1, (h1.2.tr h2.2).tr (cfx_fup (by decide))⟩
theorem inv_goeG {f : Int → Int} (h : inv f) {p : Int} (hp : 0 ≤ p ∧ p < f 37) : inv (goeG p f) ∧ cfx f (goeG p f) := by
  unfold goeG
  split
  · next c => exact inv_goes h hp c
  · exact ⟨h, cfx.rf⟩
theorem inv_goeL {f : Int → Int} (h : inv f) {n : Int} (hn : 0 ≤ n ∧ n ≤ f 37) : inv (itI n goeG f) ∧ cfx f (itI n goeG f) := inv_itI ⟨h, cfx.rf⟩ hn.1 (fun i g h1 h2 h3 h4 => inv_goeG h3 ⟨h1, by rw [h4 37 (by decide)]; omega⟩)
theorem inv_goBy {f : Int → Int} (h : inv f) : inv (goBy f) ∧ cfx f (goBy f) := by
  have h1 := inv_goeL h (n := f 37) ⟨h.n.2.1.1, Int.le_refl _⟩
  have h2 := inv_endH h1.1
  exact ⟨h2.1, h1.2.tr h2.2⟩
def QA (h : AH) (a n : Nat) (F : Int → Int) : AH → Prop := fun h' => h' a = some (.inl (0, n, F)) ∧ Fr h h' a 1
def tel (f : Int → Int) (p w : Int) : Int := if w = 0 then f (11 + p) else if w = 2 then (if f (17 + p) = 6 then 1 else 0) else (if f (17 + p) = 6 then -1 else f (17 + p) - 1)
def brtG (k c : Int) : Int → (Int → Int) → (Int → Int) := fun p g => fup g (11 + p) (if g (17 + p) = 1 + k then c else g (11 + p))
def brt (f : Int → Int) (k c : Int) : Int → Int := itI (f 37) (brtG k c) (fup f (1 + k) c)
def invR (f g : Int → Int) : Prop := (∀ j, j ≠ 0 → 0 ≤ g j ∧ g j ≤ 2000) ∧ cfx f g
theorem invR.rg {f g : Int → Int} (h : invR f g) (j : Int) (hj : j ≠ 0) : 0 ≤ g j ∧ g j ≤ 2000 := h.1 j hj
theorem invR_fup {f g : Int → Int} (h : invR f g) {i v : Int} (hi : i < 26) (hv : i ≠ 0 → 0 ≤ v ∧ v ≤ 2000) : invR f (fup g i v) := ⟨fun j hj => by unfold fup; split; exact hv (by omega); exact h.1 j hj, h.2.tr (cfx_fup hi)⟩
theorem brt_at {f : Int → Int} {k c : Int} (hk : 0 ≤ k ∧ k < 5) {n : Int} (hn : 0 ≤ n ∧ n ≤ 6) (j : Int) : itI n (brtG k c) (fup f (1 + k) c) j = if j = 1 + k then c else if (11 ≤ j ∧ j < 11 + n) ∧ f (j + 6) = 1 + k then c else f j := by
  have key : ∀ i : Int, 0 ≤ i → i ≤ 6 → ∀ j, itI i (brtG k c) (fup f (1 + k) c) j = if j = 1 + k then c else if (11 ≤ j ∧ j < 11 + i) ∧ f (j + 6) = 1 + k then c else f j := by
    intro i hi
    obtain ⟨m, rfl⟩ := Int.eq_ofNat_of_zero_le hi
    induction m with
    | zero =>
      intro _ j
      show (if j = 1 + k then c else f j) = _
      by_cases h1 : j = 1 + k
      · rw [if_pos h1, if_pos h1]
      · rw [if_neg h1, if_neg h1, if_neg (fun w => absurd w.1 (by omega))]
    | succ m ih =>
      intro h6 j
      have e : ((m + 1 : Nat) : Int) = (m : Int) + 1 := by omega
      rw [e, itI_s _ _ (by omega)]
      have ihj := ih (by omega) (by omega)
      generalize itI (m : Int) (brtG k c) (fup f (1 + k) c) = G at ihj
      have e17 := ihj (17 + (m : Int))
      rw [if_neg (by omega), if_neg (fun w => absurd w.1 (by omega))] at e17
      have e11 := ihj (11 + (m : Int))
      rw [if_neg (by omega), if_neg (fun w => absurd w.1 (by omega))] at e11
      show (if j = 11 + (m : Int) then (if G (17 + (m : Int)) = 1 + k then c else G (11 + (m : Int))) else G j) = _
      rw [e17, e11]
      by_cases h1 : j = 11 + (m : Int)
      · subst h1
        rw [if_pos rfl, if_neg (show ¬ (11 + (m : Int) = 1 + k) by omega)]
        rw [show 11 + (m : Int) + 6 = 17 + (m : Int) by omega]
        by_cases h2 : f (17 + (m : Int)) = 1 + k
        · rw [if_pos h2, if_pos ⟨by omega, h2⟩]
        · rw [if_neg h2, if_neg (fun w => h2 w.2)]
      · rw [if_neg h1, ihj j]
        by_cases h3 : j = 1 + k
        · rw [if_pos h3, if_pos h3]
        · rw [if_neg h3, if_neg h3]
          by_cases h4 : (11 ≤ j ∧ j < 11 + (m : Int)) ∧ f (j + 6) = 1 + k
          · rw [if_pos h4, if_pos ⟨by omega, h4.2⟩]
          · rw [if_neg h4, if_neg (fun w => h4 ⟨by omega, w.2⟩)]
  exact key n hn.1 hn.2 j
theorem inv_brt {f : Int → Int} (h : inv f) {k c : Int} (hk : 0 ≤ k ∧ k < f 26) (hc : 0 ≤ c ∧ c < 24) : inv (brt f k c) ∧ cfx f (brt f k c) := by
  have hn := h.n
  have at9 := fun j => brt_at (f := f) (k := k) (c := c) (by omega) (n := f 37) hn.2.1 j
  have hc9 : cfx f (brt f k c) := fun j hj => by
    have := at9 j
    unfold brt
    rw [this, if_neg (by omega), if_neg (by omega)]
  refine ⟨?_, hc9⟩
  obtain ⟨h1, h2, h3, h4, h5⟩ := h
  refine ⟨fun j hj => ?_, ?_, fun q hq => ?_, fun q hq => ?_, fun s hs => ?_⟩
  · have := at9 j
    have := h1 j hj
    unfold brt
    omega
  · rw [hc9 26 (by decide), hc9 37 (by decide), hc9 38 (by decide)]; exact h2
  · have e := h3 q hq
    rw [hc9 26 (by decide), hc9 (27 + q) (by omega), hc9 (32 + q) (by omega)]
    have a1 := at9 (1 + q)
    have a2 := at9 (6 + q)
    rw [if_neg (by omega), if_neg (by omega)] at a2
    unfold brt
    rw [a2]
    refine ⟨?_, e.2⟩
    rw [a1]
    split
    · omega
    · rw [if_neg (by omega)]; exact e.1
  · have e := h4 q hq
    have r1 := h1 (17 + q) (by omega)
    rw [hc9 26 (by decide), hc9 37 (by decide)]
    have a1 := at9 (11 + q)
    have a2 := at9 (17 + q)
    rw [if_neg (by omega), if_neg (by omega)] at a2
    rw [if_neg (by omega)] at a1
    unfold brt
    rw [a2, a1]
    rw [show 11 + q + 6 = 17 + q by omega]
    refine ⟨by split <;> omega, e.2.1, e.2.2.1, fun b1 b2 => ⟨(e.2.2.2 b1 b2).1, ?_⟩⟩
    have a3 := at9 (f (17 + q))
    rw [a3]
    have e9 := e.2.2.2 b1 b2
    by_cases h7 : f (17 + q) = 1 + k
    · have : q < f 37 := by
        rcases Int.lt_or_le q (f 37) with w | w
        · exact w
        · have := e.2.2.1 w; omega
      rw [if_pos ⟨by omega, h7⟩, if_pos h7]
    · rw [if_neg (fun w => h7 w.2), if_neg h7, if_neg (by omega)]
      exact e9.2
  · have a1 := at9 (23 + s)
    rw [if_neg (by omega), if_neg (by omega)] at a1
    unfold brt
    rw [a1]
    exact h5 s hs
abbrev vld (f : Int → Int) (p w : Int) : Prop := bsd (f (11 + p)) w ≠ -1
def cho (f : Int → Int) (p w : Int) : Int → Int := if w = 4 then (if goal f p ≠ -1 ∧ f (1 + goal f p) = f (11 + p) then fup f (17 + p) (1 + goal f p) else f) else fup f (11 + p) (bsd (f (11 + p)) w)
def acs (f : Int → Int) (k c s : Int) : Int → Int := fup (fup (fup (fup f (27 + f 26) k) (1 + f 26) c) (32 + f 26) s) 26 (f 26 + 1)
def ahu (f : Int → Int) (c : Int) : Int → Int := fup (fup f (11 + f 37) c) 37 (f 37 + 1)
def ash (f : Int → Int) (c : Int) : Int → Int := fup (fup f (23 + f 38) c) 38 (f 38 + 1)
def cpy (f g : Int → Int) (i j n : Int) : Int → Int := fcp f g i j n
theorem una_rg {f : Int → Int} (h : inv f) : 0 ≤ una f ∧ una f ≤ 6 := by
  have := cnI_rg (fun p => f (17 + p) ≠ 0 ∧ f (17 + p) ≠ 6) h.n.2.1.1
  have := h.n.2.1
  unfold una
  omega
theorem tel_rg {f : Int → Int} (h : inv f) {p w : Int} (hp : 0 ≤ p ∧ p < 6) : -1 ≤ tel f p w ∧ tel f p w ≤ 23 := by
  have := h.p p hp
  unfold tel
  split
  · omega
  · split
    · split <;> omega
    · split <;> omega
def beg (f : Int → Int) : Int → Int := fun j => if 0 ≤ j ∧ j < 267 then 0 else f j
theorem inv_beg {f : Int → Int} (h : ∀ j, j ≠ 0 → 0 ≤ f j ∧ f j ≤ 2000) : inv (beg f) := by
  have e : ∀ j, 0 ≤ j → j < 267 → beg f j = 0 := fun j h1 h2 => if_pos ⟨h1, h2⟩
  refine ⟨fun j hj => ?_, ?_, fun k hk => ?_, fun p hp => ?_, fun s hs => ?_⟩
  · unfold beg; split; omega; exact h j hj
  · rw [e 26 (by decide) (by decide), e 37 (by decide) (by decide), e 38 (by decide) (by decide)]; decide
  · rw [e (1 + k) (by omega) (by omega), e (6 + k) (by omega) (by omega), e (27 + k) (by omega) (by omega), e (32 + k) (by omega) (by omega)]; omega
  · rw [e (11 + p) (by omega) (by omega), e (17 + p) (by omega) (by omega)]; omega
  · rw [e (23 + s) (by omega) (by omega)]; decide
theorem fcp_0 (f g : Int → Int) (i j : Int) : fcp f g i j 0 = g := by funext q; unfold fcp; rw [if_neg (by omega)]
theorem fcp_s {f g : Int → Int} {i j n : Int} (hn : 0 ≤ n) : fup (fcp f g i j n) (j + n) (f (i + n)) = fcp f g i j (n + 1) := by
  funext q
  unfold fup fcp
  by_cases h1 : q = j + n
  · rw [if_pos h1, if_pos (by omega)]; congr 1; omega
  · rw [if_neg h1]
    by_cases h2 : j ≤ q ∧ q < j + n
    · rw [if_pos h2, if_pos (by omega)]
    · rw [if_neg h2, if_neg (by omega)]
theorem vld_0 {f : Int → Int} {p : Int} (h : 0 ≤ f (11 + p)) : vld f p 0 ↔ f (11 + p) % 6 < 5 := by unfold vld bsd; rw [if_pos rfl]; split <;> omega
theorem vld_1 {f : Int → Int} {p : Int} (h : 0 ≤ f (11 + p)) : vld f p 1 ↔ f (11 + p) / 6 < 3 := by unfold vld bsd; rw [if_neg (by decide), if_pos rfl]; split <;> omega
theorem vld_2 {f : Int → Int} {p : Int} (h : 0 ≤ f (11 + p)) : vld f p 2 ↔ 0 < f (11 + p) % 6 := by unfold vld bsd; rw [if_neg (by decide), if_neg (by decide), if_pos rfl]; split <;> omega
theorem vld_3 {f : Int → Int} {p : Int} (h : 0 ≤ f (11 + p)) : vld f p 3 ↔ 0 < f (11 + p) / 6 := by unfold vld bsd; rw [if_neg (by decide), if_neg (by decide), if_neg (by decide), if_pos rfl]; split <;> omega
theorem vld_4 {f : Int → Int} {p : Int} (h : 0 ≤ f (11 + p)) : vld f p 4 ↔ 0 ≤ f (11 + p) := by unfold vld bsd; rw [if_neg (by decide), if_neg (by decide), if_neg (by decide), if_neg (by decide)]; omega
theorem bsd_0 {c : Int} (h : c % 6 < 5) : bsd c 0 = c + 1 := by unfold bsd; rw [if_pos rfl, if_pos h]
theorem bsd_1 {c : Int} (h : c / 6 < 3) : bsd c 1 = c + 6 := by unfold bsd; rw [if_neg (by decide), if_pos rfl, if_pos h]
theorem bsd_2 {c : Int} (h : 0 < c % 6) : bsd c 2 = c - 1 := by unfold bsd; rw [if_neg (by decide), if_neg (by decide), if_pos rfl, if_pos h]
theorem bsd_3 {c : Int} (h : 0 < c / 6) : bsd c 3 = c - 6 := by unfold bsd; rw [if_neg (by decide), if_neg (by decide), if_neg (by decide), if_pos rfl, if_pos h]
