/-! the class's reader against the reference's, pure -/
def lo9 (w i : Int) : Int := if w = 1 ∧ i = 2 then 1 else 0
def hi9 (w i : Int) (r : Int → Int) : Int := if w = 1 then (if i = 0 then 5 else if i = 1 then 23 else 4) else if w = 4 then (if i = 0 then r 26 - 1 else 40) else 23
def cn9 (w : Int) : Int := if w = 0 then 0 else if w = 1 then 3 else if w = 4 then 2 else 1
def ad9 (w : Int) (ns r : Int → Int) : Int → Int := if w = 1 then acs r (ns 0) (ns 1) (ns 2) else if w = 2 then ahu r (ns 0) else if w = 3 then ash r (ns 0) else if w = 4 then fup r (6 + ns 0) (ns 1) else r
abbrev rm9 (w : Int) (r : Int → Int) : Prop := (w = 1 → r 26 < 5) ∧ (w = 2 → r 37 < 6) ∧ (w = 3 → r 38 < 3)
theorem lo9_c (w i : Int) : (w = 1 ∧ i = 2 ∧ lo9 w i = 1) ∨ (¬ (w = 1 ∧ i = 2) ∧ lo9 w i = 0) := by unfold lo9; split <;> omega
theorem cn9_c (w : Int) : (w = 0 ∧ cn9 w = 0) ∨ (w = 1 ∧ cn9 w = 3) ∨ (w = 4 ∧ cn9 w = 2) ∨ ((w ≠ 0 ∧ w ≠ 1 ∧ w ≠ 4) ∧ cn9 w = 1) := by unfold cn9; (repeat' split) <;> omega
def ctN (t r : Int → Int) (w : Int) : Nat → Int → (Int → Int) → (Int → Int) → Int × (Int → Int) × (Int → Int)
  | 0, _, ns, Z => (1, Z, ad9 w ns r)
  | k + 1, nr, ns, Z => if num (nxZ Z t) (lo9 w nr) (hi9 w nr r) then ctN t r w k (nr + 1) (fup ns nr (nxZ Z t 13)) (nxZ Z t) else (0, nxZ Z t, r)
def rdK (t : Int → Int) (m : Nat) (o : Int × (Int → Int) × (Int → Int)) : Int × (Int → Int) × (Int → Int) :=
  if o.1 = 0 then (0, o.2.1, o.2.2) else if nxZ o.2.1 t 12 = 3 then rdN t m (nxZ (fup (nxZ o.2.1 t) 15 (nxZ o.2.1 t 15 + 1)) t) o.2.2 else (0, nxZ o.2.1 t, o.2.2)
theorem rdN_K (t : Int → Int) (m : Nat) (Z r : Int → Int) : rdN t (m + 1) Z r = if Z 12 = 0 ∧ Z 15 ≠ 0 then (1, Z, r) else rdK t m (itm t Z r) := rfl
theorem fp3 (ns : Int → Int) (a b c : Int) : fup (fup (fup ns 0 a) (0 + 1) b) (0 + 1 + 1) c 0 = a ∧ fup (fup (fup ns 0 a) (0 + 1) b) (0 + 1 + 1) c 1 = b ∧ fup (fup (fup ns 0 a) (0 + 1) b) (0 + 1 + 1) c 2 = c := ⟨rfl, rfl, rfl⟩
theorem num_if {P Q : Prop} [Decidable P] [Decidable Q] {α : Type} {a b c d : α} (h : P ↔ Q) (h1 : a = c) (h2 : b = d) : (if P then a else b) = (if Q then c else d) := by
  by_cases p : P
  · rw [if_pos p, if_pos (h.mp p)]; exact h1
  · rw [if_neg p, if_neg (fun q => p (h.mpr q))]; exact h2
theorem itm_C {t Z r ns : Int → Int} : (if num (nxZ Z t) 0 5 then (if num (nxZ (nxZ Z t) t) 0 23 then (if num (nxZ (nxZ (nxZ Z t) t) t) 1 4 then ((1 : Int), nxZ (nxZ (nxZ Z t) t) t, acs r (nxZ Z t 13) (nxZ (nxZ Z t) t 13) (nxZ (nxZ (nxZ Z t) t) t 13)) else (0, nxZ (nxZ (nxZ Z t) t) t, r)) else (0, nxZ (nxZ Z t) t, r)) else (0, nxZ Z t, r)) = ctN t r 1 3 0 ns Z :=
  num_if Iff.rfl (num_if Iff.rfl (num_if Iff.rfl rfl rfl) rfl) rfl
theorem itm_H {t Z r ns : Int → Int} : (if num (nxZ Z t) 0 23 then ((1 : Int), nxZ Z t, ahu r (nxZ Z t 13)) else (0, nxZ Z t, r)) = ctN t r 2 1 0 ns Z := num_if Iff.rfl rfl rfl
theorem itm_S {t Z r ns : Int → Int} : (if num (nxZ Z t) 0 23 then ((1 : Int), nxZ Z t, ash r (nxZ Z t 13)) else (0, nxZ Z t, r)) = ctN t r 3 1 0 ns Z := num_if Iff.rfl rfl rfl
theorem itm_W {t Z r ns : Int → Int} : itW t Z r = ctN t r 4 2 0 ns Z := num_if Iff.rfl (num_if Iff.rfl rfl rfl) rfl
/-- a word that can stand there -/
theorem itm_y {t Z r ns : Int → Int} (hn : (0 ≤ r 26 ∧ r 26 ≤ 5) ∧ (0 ≤ r 37 ∧ r 37 ≤ 6) ∧ (0 ≤ r 38 ∧ r 38 ≤ 3)) (h12 : Z 12 = 1) {k : Int} (hk : 0 ≤ k ∧ k ≤ 4) (h14 : Z 14 = hW k.toNat) (h15 : Z 15 = 0 ↔ k = 0) (hr : rm9 k r) : itm t Z r = ctN t r k (cn9 k - 0).toNat 0 ns Z := by
  have hc : k = 0 ∨ k = 1 ∨ k = 2 ∨ k = 3 ∨ k = 4 := by omega
  obtain ⟨r1, r2, r3⟩ := hr
  unfold itm
  rw [if_pos h12]
  rcases hc with rfl | rfl | rfl | rfl | rfl
  · rw [if_pos (h15.mpr rfl), if_pos (show Z 14 = 109330228408174 from h14)]; rfl
  · rw [if_neg (fun q => absurd (h15.mp q) (by decide)), h14]
    show (if (1668248441 : Int) = 109330228408174 then _ else if (1668248441 : Int) = 1668248441 then itC t Z r else _) = _
    rw [if_neg (by decide), if_pos rfl]
    unfold itC
    rw [if_neg (by have := r1 rfl; omega)]
    exact itm_C
  · rw [if_neg (fun q => absurd (h15.mp q) (by decide)), h14]
    show (if (114853573584228 : Int) = 109330228408174 then _ else if (114853573584228 : Int) = 1668248441 then itC t Z r else if (114853573584228 : Int) = 114853573584228 then itH t Z r else _) = _
    rw [if_neg (by decide), if_neg (by decide), if_pos rfl]
    unfold itH
    rw [if_neg (by have := r2 rfl; omega)]
    exact itm_H
  · rw [if_neg (fun q => absurd (h15.mp q) (by decide)), h14]
    show (if (32484407242221158 : Int) = 109330228408174 then _ else if (32484407242221158 : Int) = 1668248441 then itC t Z r else if (32484407242221158 : Int) = 114853573584228 then itH t Z r else if (32484407242221158 : Int) = 32484407242221158 then itS t Z r else _) = _
    rw [if_neg (by decide), if_neg (by decide), if_neg (by decide), if_pos rfl]
    unfold itS
    rw [if_neg (by have := r3 rfl; omega)]
    exact itm_S
  · rw [if_neg (fun q => absurd (h15.mp q) (by decide)), h14]
    show (if (2003132786 : Int) = 109330228408174 then _ else if (2003132786 : Int) = 1668248441 then itC t Z r else if (2003132786 : Int) = 114853573584228 then itH t Z r else if (2003132786 : Int) = 32484407242221158 then itS t Z r else if (2003132786 : Int) = 2003132786 then itW t Z r else _) = _
    rw [if_neg (by decide), if_neg (by decide), if_neg (by decide), if_neg (by decide), if_pos rfl]
    exact itm_W
/-- a token that can not -/
theorem itm_n {t Z r : Int → Int} (hn : (0 ≤ r 26 ∧ r 26 ≤ 5) ∧ (0 ≤ r 37 ∧ r 37 ≤ 6) ∧ (0 ≤ r 38 ∧ r 38 ≤ 3)) (h : Z 12 = 1 → ∀ k : Int, 0 ≤ k → k ≤ 4 → Z 14 = hW k.toNat → (Z 15 = 0 ↔ k = 0) → ¬ rm9 k r) : itm t Z r = (0, Z, r) := by
  unfold itm
  by_cases c : Z 12 = 1
  · rw [if_pos c]
    have hh := h c
    by_cases c0 : Z 15 = 0
    · rw [if_pos c0]
      by_cases d : Z 14 = 109330228408174
      · exact absurd ⟨fun q => absurd q (by decide), fun q => absurd q (by decide), fun q => absurd q (by decide)⟩ (hh 0 (by decide) (by decide) d (by omega))
      · rw [if_neg d]
    · rw [if_neg c0]
      by_cases d0 : Z 14 = 109330228408174
      · rw [if_pos d0]
      · rw [if_neg d0]
        by_cases d1 : Z 14 = 1668248441
        · rw [if_pos d1]; unfold itC
          have := hh 1 (by decide) (by decide) d1 (by omega)
          rw [if_pos (by by_cases z : r 26 = 5; exact z; exact absurd ⟨fun _ => by omega, fun q => absurd q (by decide), fun q => absurd q (by decide)⟩ this)]
        · rw [if_neg d1]
          by_cases d2 : Z 14 = 114853573584228
          · rw [if_pos d2]; unfold itH
            have := hh 2 (by decide) (by decide) d2 (by omega)
            rw [if_pos (by by_cases z : r 37 = 6; exact z; exact absurd ⟨fun q => absurd q (by decide), fun _ => by omega, fun q => absurd q (by decide)⟩ this)]
          · rw [if_neg d2]
            by_cases d3 : Z 14 = 32484407242221158
            · rw [if_pos d3]; unfold itS
              have := hh 3 (by decide) (by decide) d3 (by omega)
              rw [if_pos (by by_cases z : r 38 = 3; exact z; exact absurd ⟨fun q => absurd q (by decide), fun q => absurd q (by decide), fun _ => by omega⟩ this)]
            · rw [if_neg d3]
              by_cases d4 : Z 14 = 2003132786
              · exact absurd ⟨fun q => absurd q (by decide), fun q => absurd q (by decide), fun q => absurd q (by decide)⟩ (hh 4 (by decide) (by decide) d4 (by omega))
              · rw [if_neg d4]
  · rw [if_neg c]
/-- the class's token is the reference's -/
def TKZ (Z1 : Int → Int) (L b1 b2 b3 b4 : Int) : Prop := b1 = Z1 11 ∧ ((b3 = 0 ∧ Z1 12 = 0 ∧ b1 = L) ∨ (b3 = 1 ∧ Z1 12 = 3 ∧ b2 = Z1 10) ∨ (b3 = 2 ∧ Z1 12 = 2 ∧ b4 = Z1 13 ∧ b2 = Z1 10) ∨
  (b3 = 3 ∧ Z1 12 = 1 ∧ (0 ≤ b4 ∧ b4 ≤ 4) ∧ Z1 14 = hW b4.toNat ∧ b2 = Z1 10) ∨ (b3 = 4 ∧ (Z1 12 = 4 ∨ (Z1 12 = 1 ∧ ∀ k : Nat, k < 5 → Z1 14 ≠ hW k))))
theorem nx5_v (Z : Int → Int) (p a k n w : Int) : nx5 Z p a k n w 10 = p ∧ nx5 Z p a k n w 11 = a ∧ nx5 Z p a k n w 12 = k ∧ nx5 Z p a k n w 13 = n ∧ nx5 Z p a k n w 14 = w := ⟨rfl, rfl, rfl, rfl, rfl⟩
theorem TK_Z {L : Int} {f Z : Int → Int} {e b1 b2 b3 b4 : Int} (h8 : Z 8 = L) (h10 : Z 10 = e) (he : e ≤ L) (h : TKd L f e b1 b2 b3 b4) : TKZ (nxZ Z f) L b1 b2 b3 b4 := by
  obtain ⟨h1, h2⟩ := h
  have hs := skp_rg (t := f) he
  rw [← h1] at hs
  have en : nxZ Z f = nxA L f b1 Z := by unfold nxZ; rw [h8, h10, ← h1]
  rw [en]
  have hkd := kd_c L f b1
  rcases h2 with ⟨q1, q2⟩ | ⟨q1, q2, q3, q4⟩ | ⟨q1, q2, q3⟩ | ⟨q1, q2, q3⟩ | ⟨q1, q2, q3, q4⟩
  · have ez : nxA L f b1 Z = nx5 Z b1 b1 0 0 0 := if_pos q1
    rw [ez]; exact ⟨rfl, Or.inl ⟨q2, rfl, q1⟩⟩
  · have ez : nxA L f b1 Z = nx5 Z (b1 + 1) b1 3 0 0 := by unfold nxA; rw [if_neg (by omega), if_pos (by omega), if_pos q2]
    rw [ez]; exact ⟨rfl, Or.inr (Or.inl ⟨q3, rfl, q4⟩)⟩
  · rcases q3 with ⟨p1, p2, p3, p4⟩ | ⟨p1, p2⟩
    · have ez : nxA L f b1 Z = nx5 Z (tkR L f b1).1 b1 2 (tkR L f b1).2.2 (tkR L f b1).2.1 := by unfold nxA; rw [if_neg (by omega), if_neg (by omega), if_neg (by omega), q2]
      rw [ez]; exact ⟨rfl, Or.inr (Or.inr (Or.inl ⟨p1, rfl, p4, p3⟩))⟩
    · have ez : nxA L f b1 Z = nx5 Z (tkR L f b1).1 b1 4 (tkR L f b1).2.2 (tkR L f b1).2.1 := by unfold nxA; rw [if_neg (by omega), if_neg (by omega), if_pos ⟨q2, p2⟩]
      rw [ez]; exact ⟨rfl, Or.inr (Or.inr (Or.inr (Or.inr ⟨p1, Or.inl rfl⟩)))⟩
  · have ez : nxA L f b1 Z = nx5 Z (tkR L f b1).1 b1 1 (tkR L f b1).2.2 (tkR L f b1).2.1 := by unfold nxA; rw [if_neg (by omega), if_neg (by omega), if_neg (by omega), q2]
    rw [ez]
    rcases q3 with ⟨p1, p2, p3, p4⟩ | ⟨p1, p2⟩
    · exact ⟨rfl, Or.inr (Or.inr (Or.inr (Or.inl ⟨p1, rfl, p3, p4, p2⟩)))⟩
    · exact ⟨rfl, Or.inr (Or.inr (Or.inr (Or.inr ⟨p1, Or.inr ⟨rfl, p2⟩⟩)))⟩
  · have ez : nxA L f b1 Z = nx5 Z (b1 + 1) b1 4 0 0 := by unfold nxA; rw [if_neg (by omega), if_pos q2, if_neg q3]
    rw [ez]; exact ⟨rfl, Or.inr (Or.inr (Or.inr (Or.inr ⟨q4, Or.inl rfl⟩)))⟩
/-- where a reading stands: between items, or in one -/
def RSt (t : Int → Int) (X : Int × (Int → Int) × (Int → Int)) (w nr : Int) (nb Z r : Int → Int) (m : Nat) : Prop :=
  (w = -1 ∧ X = rdN t (m + 1) (nxZ Z t) r) ∨ ((0 ≤ w ∧ w ≤ 4) ∧ (0 ≤ nr ∧ nr ≤ cn9 w) ∧ rm9 w r ∧ (∀ i, 0 ≤ i → i < nr → lo9 w i ≤ nb i ∧ nb i ≤ hi9 w i r) ∧ X = rdK t m (ctN t r w (cn9 w - nr).toNat nr nb Z))
abbrev TP (w nr b3 b4 it : Int) (r : Int → Int) : Prop := (w = -1 → b3 = 3 ∧ (it = 0 ↔ b4 = 0) ∧ rm9 b4 r) ∧ (w ≠ -1 → nr < cn9 w → b3 = 2 ∧ lo9 w nr ≤ b4 ∧ b4 ≤ hi9 w nr r) ∧ (w ≠ -1 → ¬ nr < cn9 w → b3 = 1)
theorem hW_inj {i j : Nat} (hi : i < 5) (hj : j < 5) (h : hW i = hW j) : i = j := by
  rcases i5 hi with rfl | rfl | rfl | rfl | rfl <;> rcases i5 hj with rfl | rfl | rfl | rfl | rfl <;> first | rfl | exact absurd h (by decide)
section Rd
variable {t : Int → Int} {X : Int × (Int → Int) × (Int → Int)} {w nr it L b1 b2 b3 b4 : Int} {nb Z r : Int → Int} {m : Nat}
theorem S_end (h : RSt t X w nr nb Z r m) (hz : TKZ (nxZ Z t) L b1 b2 b3 b4) (h15 : nxZ Z t 15 ≠ 0) (hw : w = -1) (h3 : b3 = 0) : X = (1, nxZ Z t, r) := by
  rcases h with ⟨_, hX⟩ | ⟨h0, _⟩
  · rw [hX, rdN_K, if_pos]
    obtain ⟨_, q | q | q | q | q⟩ := hz <;> first | exact ⟨q.2.1, h15⟩ | (exfalso; have := q.1; omega)
  · omega
theorem S_bad (h : RSt t X w nr nb Z r m) (hz : TKZ (nxZ Z t) L b1 b2 b3 b4) (hn : (0 ≤ r 26 ∧ r 26 ≤ 5) ∧ (0 ≤ r 37 ∧ r 37 ≤ 6) ∧ (0 ≤ r 38 ∧ r 38 ≤ 3)) (h15 : nxZ Z t 15 = it) (he : ¬ (b3 = 0 ∧ w = -1 ∧ it ≠ 0)) (hb : ¬ TP w nr b3 b4 it r) : X.1 = 0 ∧ X.2.1 11 = b1 := by
  have z1 := hz.1
  have z2 := hz.2
  rcases h with ⟨hw, hX⟩ | ⟨h0, h1, h2, h3, hX⟩
  · have hno : itm t (nxZ Z t) r = (0, nxZ Z t, r) := itm_n hn (fun c k k0 k4 e14 e15 er => by
      rcases z2 with q | q | q | q | q
      · omega
      · omega
      · omega
      · have ek : b4 = k := by
          have := hW_inj (i := b4.toNat) (j := k.toNat) (by omega) (by omega) (q.2.2.2.1.symm.trans e14)
          omega
        exact hb ⟨fun _ => ⟨q.1, by rw [← h15, ek]; exact e15, by rw [ek]; exact er⟩, fun w9 => absurd hw w9, fun w9 => absurd hw w9⟩
      · rcases q.2 with q2 | q2
        · omega
        · exact q2.2 k.toNat (by omega) e14)
    have e0 : ¬ (nxZ Z t 12 = 0 ∧ nxZ Z t 15 ≠ 0) := by
      intro q
      rcases z2 with p | p | p | p | p
      · exact he ⟨p.1, hw, by omega⟩
      · omega
      · omega
      · omega
      · omega
    rw [hX, rdN_K, if_neg e0, hno]
    show (rdK t m (0, nxZ Z t, r)).1 = 0 ∧ _
    exact ⟨rfl, z1.symm⟩
  · by_cases c : nr < cn9 w
    · have en : (cn9 w - nr).toNat = (cn9 w - (nr + 1)).toNat + 1 := by omega
      have hno : ¬ num (nxZ Z t) (lo9 w nr) (hi9 w nr r) := by
        intro q
        rcases z2 with p | p | p | p | p
        · omega
        · omega
        · exact hb ⟨fun w9 => by omega, fun _ _ => ⟨p.1, by rw [p.2.2.1]; exact q.2.1, by rw [p.2.2.1]; exact q.2.2⟩, fun _ w9 => absurd c w9⟩
        · omega
        · omega
      have ec : ctN t r w (cn9 w - nr).toNat nr nb Z = (0, nxZ Z t, r) := by rw [en]; exact if_neg hno
      rw [hX, ec]
      exact ⟨rfl, z1.symm⟩
    · have ec : ctN t r w (cn9 w - nr).toNat nr nb Z = (1, Z, ad9 w nb r) := by rw [show (cn9 w - nr).toNat = 0 by omega]; rfl
      have hno : ¬ nxZ Z t 12 = 3 := by
        intro q
        rcases z2 with p | p | p | p | p
        · omega
        · exact hb ⟨fun w9 => by omega, fun _ w9 => absurd w9 c, fun _ _ => p.1⟩
        · omega
        · omega
        · omega
      have ek : rdK t m (1, Z, ad9 w nb r) = (0, nxZ Z t, ad9 w nb r) := by
        unfold rdK
        rw [if_neg (show ¬ (1 : Int) = 0 by decide)]
        exact if_neg hno
      rw [hX, ec, ek]
      exact ⟨rfl, z1.symm⟩
theorem S_ok1 (h : RSt t X w nr nb Z r m) (hz : TKZ (nxZ Z t) L b1 b2 b3 b4) (hn : (0 ≤ r 26 ∧ r 26 ≤ 5) ∧ (0 ≤ r 37 ∧ r 37 ≤ 6) ∧ (0 ≤ r 38 ∧ r 38 ≤ 3)) (h15 : nxZ Z t 15 = it) (hw : w = -1) (hp : TP w nr b3 b4 it r) : RSt t X b4 0 nb (nxZ Z t) r m ∧ b2 = nxZ Z t 10 ∧ nxZ Z t 12 ≠ 0 := by
  have p := hp.1 hw
  have z2 := hz.2
  rcases z2 with q | q | q | q | q
  · omega
  · omega
  · omega
  · rcases h with ⟨_, hX⟩ | ⟨h0, _⟩
    · refine ⟨Or.inr ⟨q.2.2.1, by have := cn9_c b4; omega, p.2.2, fun i a b => by omega, ?_⟩, q.2.2.2.2, by omega⟩
      rw [hX, rdN_K, if_neg (by omega), itm_y hn q.2.1 q.2.2.1 q.2.2.2.1 (by rw [h15]; exact p.2.1) p.2.2]
    · omega
  · omega
theorem S_ok2 (h : RSt t X w nr nb Z r m) (hz : TKZ (nxZ Z t) L b1 b2 b3 b4) (hw : w ≠ -1) (hc : nr < cn9 w) (hp : TP w nr b3 b4 it r) : RSt t X w (nr + 1) (fup nb nr b4) (nxZ Z t) r m ∧ b2 = nxZ Z t 10 ∧ nxZ Z t 12 ≠ 0 := by
  have p := hp.2.1 hw hc
  have z2 := hz.2
  rcases z2 with q | q | q | q | q
  · omega
  · omega
  · rcases h with ⟨h0, _⟩ | ⟨h0, h1, h2, h3, hX⟩
    · omega
    · have en : (cn9 w - nr).toNat = (cn9 w - (nr + 1)).toNat + 1 := by omega
      have hy : num (nxZ Z t) (lo9 w nr) (hi9 w nr r) := ⟨q.2.1, by rw [← q.2.2.1]; exact p.2.1, by rw [← q.2.2.1]; exact p.2.2⟩
      refine ⟨Or.inr ⟨h0, by omega, h2, fun i a b => ?_, ?_⟩, q.2.2.2, by omega⟩
      · by_cases c : i = nr
        · rw [c, fup_s]; exact p.2
        · rw [fup_n c]; exact h3 i a (by omega)
      · have ec : ctN t r w (cn9 w - nr).toNat nr nb Z = ctN t r w (cn9 w - (nr + 1)).toNat (nr + 1) (fup nb nr (nxZ Z t 13)) (nxZ Z t) := by rw [en]; exact if_pos hy
        rw [hX, ec, q.2.2.1]
  · omega
  · omega
theorem S_ok3 (h : RSt t X w nr nb Z r m) (hz : TKZ (nxZ Z t) L b1 b2 b3 b4) (hw : w ≠ -1) (hc : ¬ nr < cn9 w) (hp : TP w nr b3 b4 it r) (hm : 1 ≤ m) : RSt t X (-1) nr nb (fup (nxZ Z t) 15 (nxZ Z t 15 + 1)) (ad9 w nb r) (m - 1) ∧ b2 = nxZ Z t 10 ∧ nxZ Z t 12 ≠ 0 := by
  have p := hp.2.2 hw hc
  have z2 := hz.2
  rcases z2 with q | q | q | q | q
  · omega
  · rcases h with ⟨h0, _⟩ | ⟨h0, h1, h2, h3, hX⟩
    · omega
    · have ec : ctN t r w (cn9 w - nr).toNat nr nb Z = (1, Z, ad9 w nb r) := by rw [show (cn9 w - nr).toNat = 0 by omega]; rfl
      refine ⟨Or.inl ⟨rfl, ?_⟩, q.2.2, by omega⟩
      rw [hX, ec, show m - 1 + 1 = m by omega]
      unfold rdK
      rw [if_neg (show ¬ (1 : Int) = 0 by decide)]
      exact if_pos q.2.1
  · omega
  · omega
  · omega
/-- the row after an item -/
theorem inv_ad9 (hI : inv r) (hw : 0 ≤ w ∧ w ≤ 4) (hr : rm9 w r) (hv : ∀ i, 0 ≤ i → i < cn9 w → lo9 w i ≤ nb i ∧ nb i ≤ hi9 w i r) : inv (ad9 w nb r) := by
  have hn := hI.n
  have hc : w = 0 ∨ w = 1 ∨ w = 2 ∨ w = 3 ∨ w = 4 := by omega
  rcases hc with rfl | rfl | rfl | rfl | rfl
  · exact hI
  · have v0 : 0 ≤ nb 0 ∧ nb 0 ≤ 5 := hv 0 (by decide) (by decide)
    have v1 : 0 ≤ nb 1 ∧ nb 1 ≤ 23 := hv 1 (by decide) (by decide)
    have v2 : 1 ≤ nb 2 ∧ nb 2 ≤ 4 := hv 2 (by decide) (by decide)
    exact inv_acs hI (hr.1 rfl) v0 (by omega) (by omega)
  · have v0 : 0 ≤ nb 0 ∧ nb 0 ≤ 23 := hv 0 (by decide) (by decide)
    exact inv_ahu hI (hr.2.1 rfl) (by omega)
  · have v0 : 0 ≤ nb 0 ∧ nb 0 ≤ 23 := hv 0 (by decide) (by decide)
    exact inv_ash hI (hr.2.2 rfl) (by omega)
  · have v0 : 0 ≤ nb 0 ∧ nb 0 ≤ r 26 - 1 := hv 0 (by decide) (by decide)
    have v1 : 0 ≤ nb 1 ∧ nb 1 ≤ 40 := hv 1 (by decide) (by decide)
    exact inv_we hI (by omega) v1
end Rd
