/-! the reference's reader: its items, the whole text -/
def itP (Z0 : Int → Int) (X : Int × (Int → Int) × (Int → Int)) : Prop := (∀ j, j < 10 ∨ 14 < j → X.2.1 j = Z0 j) ∧ (Z0 10 ≤ X.2.1 10 ∧ X.2.1 10 ≤ Z0 8) ∧ (X.1 = 0 ∨ X.1 = 1) ∧ inv X.2.2 ∧ (0 ≤ X.2.1 11 ∧ X.2.1 11 ≤ 150)
theorem nxZ_it {Z0 Z t : Int → Int} (hL : 0 ≤ Z0 8 ∧ Z0 8 ≤ 150) (h0 : 0 ≤ Z0 10) (e : ∀ j, j < 10 ∨ 14 < j → Z j = Z0 j) (hp : Z0 10 ≤ Z 10 ∧ Z 10 ≤ Z0 8) : (∀ j, j < 10 ∨ 14 < j → nxZ Z t j = Z0 j) ∧ (Z0 10 ≤ nxZ Z t 10 ∧ nxZ Z t 10 ≤ Z0 8) ∧ (0 ≤ nxZ Z t 11 ∧ nxZ Z t 11 ≤ 150) := by
  have e8 := e 8 (by decide)
  have r := nxZ_rg (Z := Z) (t := t) (by omega)
  exact ⟨fun j hj => (nxZ_n hj).trans (e j hj), by omega, by omega⟩
theorem itH_P {t Z r : Int → Int} (hL : 0 ≤ Z 8 ∧ Z 8 ≤ 150) (hP : 0 ≤ Z 10 ∧ Z 10 ≤ Z 8) (h1 : 0 ≤ Z 11 ∧ Z 11 ≤ 150) (hR : inv r) : itP Z (itH t Z r) := by
  have a := nxZ_it (t := t) hL hP.1 (Z := Z) (fun _ _ => rfl) ⟨Int.le_refl _, hP.2⟩
  have hn := hR.n
  unfold itH
  split
  · exact ⟨fun _ _ => rfl, ⟨Int.le_refl _, hP.2⟩, Or.inl rfl, hR, h1⟩
  · split
    · next c1 c2 => exact ⟨a.1, a.2.1, Or.inr rfl, inv_ahu hR (by omega) (by have := c2.2; omega), a.2.2⟩
    · exact ⟨a.1, a.2.1, Or.inl rfl, hR, a.2.2⟩
theorem itS_P {t Z r : Int → Int} (hL : 0 ≤ Z 8 ∧ Z 8 ≤ 150) (hP : 0 ≤ Z 10 ∧ Z 10 ≤ Z 8) (h1 : 0 ≤ Z 11 ∧ Z 11 ≤ 150) (hR : inv r) : itP Z (itS t Z r) := by
  have a := nxZ_it (t := t) hL hP.1 (Z := Z) (fun _ _ => rfl) ⟨Int.le_refl _, hP.2⟩
  have hn := hR.n
  unfold itS
  split
  · exact ⟨fun _ _ => rfl, ⟨Int.le_refl _, hP.2⟩, Or.inl rfl, hR, h1⟩
  · split
    · next c1 c2 => exact ⟨a.1, a.2.1, Or.inr rfl, inv_ash hR (by omega) (by have := c2.2; omega), a.2.2⟩
    · exact ⟨a.1, a.2.1, Or.inl rfl, hR, a.2.2⟩
theorem itW_P {t Z r : Int → Int} (hL : 0 ≤ Z 8 ∧ Z 8 ≤ 150) (hP : 0 ≤ Z 10 ∧ Z 10 ≤ Z 8) (hR : inv r) : itP Z (itW t Z r) := by
  have a := nxZ_it (t := t) hL hP.1 (Z := Z) (fun _ _ => rfl) ⟨Int.le_refl _, hP.2⟩
  have b := nxZ_it (t := t) hL hP.1 (Z := nxZ Z t) a.1 a.2.1
  have hn := hR.n
  unfold itW
  split
  · next c1 =>
    split
    · next c2 => exact ⟨b.1, b.2.1, Or.inr rfl, inv_we hR (by have := c1.2; omega) (by have := c2.2; omega), b.2.2⟩
    · exact ⟨b.1, b.2.1, Or.inl rfl, hR, b.2.2⟩
  · exact ⟨a.1, a.2.1, Or.inl rfl, hR, a.2.2⟩
theorem itC_P {t Z r : Int → Int} (hL : 0 ≤ Z 8 ∧ Z 8 ≤ 150) (hP : 0 ≤ Z 10 ∧ Z 10 ≤ Z 8) (h1 : 0 ≤ Z 11 ∧ Z 11 ≤ 150) (hR : inv r) : itP Z (itC t Z r) := by
  have a := nxZ_it (t := t) hL hP.1 (Z := Z) (fun _ _ => rfl) ⟨Int.le_refl _, hP.2⟩
  have b := nxZ_it (t := t) hL hP.1 (Z := nxZ Z t) a.1 a.2.1
  have d := nxZ_it (t := t) hL hP.1 (Z := nxZ (nxZ Z t) t) b.1 b.2.1
  have hn := hR.n
  unfold itC
  split
  · exact ⟨fun _ _ => rfl, ⟨Int.le_refl _, hP.2⟩, Or.inl rfl, hR, h1⟩
  · split
    · next c0 c1 =>
      split
      · next c2 =>
        split
        · next c3 => exact ⟨d.1, d.2.1, Or.inr rfl, inv_acs hR (by omega) (by have := c1.2; omega) (by have := c2.2; omega) (by have := c3.2; omega), d.2.2⟩
        · exact ⟨d.1, d.2.1, Or.inl rfl, hR, d.2.2⟩
      · exact ⟨b.1, b.2.1, Or.inl rfl, hR, b.2.2⟩
    · exact ⟨a.1, a.2.1, Or.inl rfl, hR, a.2.2⟩

