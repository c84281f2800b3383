/-! what every answer leaves: the row now, the images, the trial row -/
theorem invN_of {g : Int → Int} (hg : inv g) (h0 : 0 ≤ g 0 ∧ g 0 ≤ 999) (h39 : g 39 ≤ 6) (h58 : g 58 ≤ 8)
    (hm : ∀ i, 0 ≤ i → i < g 58 → ∃ f' : Int → Int, inv f' ∧ (0 ≤ f' 0 ∧ f' 0 ≤ 999) ∧ ∀ j, 0 ≤ j → j < 39 → mixF g i j = f' j)
    (hno : ∀ i, 0 ≤ i → i < g 39 → g (40 + 3 * i) < 5 ∧ g (41 + 3 * i) ≤ 40 ∧ g (42 + 3 * i) ≤ 9) : invN g := by
  refine ⟨hg, ⟨h0.2, h0.1⟩, h39, h58, fun i a b => ?_, hno⟩
  obtain ⟨f', h1, h2, h3⟩ := hm i a b
  refine ⟨inv_ext h1 h3 (fun j hj => ?_), ?_, ?_⟩
  · by_cases c : 0 ≤ j ∧ j < 26
    · rw [mixF_lo c]; exact hg.1 _ (by omega)
    · rw [mixF_hi c]; exact hg.1 j hj
  · rw [h3 0 (by decide) (by decide)]; exact h2.1
  · rw [h3 0 (by decide) (by decide)]; exact h2.2
theorem invN.m0 {f : Int → Int} (h : invN f) (i : Int) (hi : 0 ≤ i ∧ i < f 58) : inv (mixF f i) ∧ 0 ≤ mixF f i 0 ∧ mixF f i 0 ≤ 999 := h.2.2.2.2.1 i hi.1 hi.2
theorem invN_hi {f g : Int → Int} (h : invN f) (hg : inv g) (h0 : 0 ≤ g 0 ∧ g 0 ≤ 999) (e : ∀ j, 26 ≤ j → j < 267 → g j = f j) : invN g := by
  have h39 := h.2.2.1
  have h58 := h.2.2.2.1
  refine invN_of hg h0 (by rw [e 39 (by decide) (by decide)]; exact h39) (by rw [e 58 (by decide) (by decide)]; exact h58) (fun i a b => ?_) (fun i a b => ?_)
  · rw [e 58 (by decide) (by decide)] at b
    have q := h.m0 i ⟨a, b⟩
    refine ⟨mixF f i, q.1, q.2, fun j x y => ?_⟩
    by_cases c : 0 ≤ j ∧ j < 26
    · rw [mixF_lo c, mixF_lo c]; exact e _ (by omega) (by omega)
    · rw [mixF_hi c, mixF_hi c]; exact e _ (by omega) (by omega)
  · rw [e 39 (by decide) (by decide)] at b
    rw [e _ (by omega) (by omega), e _ (by omega) (by omega), e _ (by omega) (by omega)]
    exact h.2.2.2.2.2 i a b
theorem invN_cfx {f g : Int → Int} (h : invN f) (hg : inv g) (e : cfx f g) (h0 : 0 ≤ g 0 ∧ g 0 ≤ 999) : invN g := invN_hi h hg h0 (fun j a _ => e j a)
theorem invN.r58 {f : Int → Int} (h : invN f) : 0 ≤ f 58 ∧ f 58 ≤ 8 := ⟨(h.1.rg 58 (by decide)).1, h.2.2.2.1⟩
theorem invN.r39 {f : Int → Int} (h : invN f) : 0 ≤ f 39 ∧ f 39 ≤ 6 := ⟨(h.1.rg 39 (by decide)).1, h.2.2.1⟩
theorem invN.r0 {f : Int → Int} (h : invN f) : 0 ≤ f 0 ∧ f 0 ≤ 999 := ⟨h.2.1.2, h.2.1.1⟩
/-- as f, but without rows to give back -/
theorem invN_z {f g : Int → Int} (h : invN f) (hg : inv g) (h0 : 0 ≤ g 0 ∧ g 0 ≤ 999) (z : g 58 = 0) (e : ∀ j, 39 ≤ j → j < 58 → g j = f j) : invN g := by
  have h39 := h.r39
  refine invN_of hg h0 (by rw [e 39 (by decide) (by decide)]; exact h39.2) (by omega) (fun i a b => by omega) (fun i a b => ?_)
  rw [e 39 (by decide) (by decide)] at b
  rw [e _ (by omega) (by omega), e _ (by omega) (by omega), e _ (by omega) (by omega)]
  exact h.2.2.2.2.2 i a b
theorem invN_kpb {f : Int → Int} (h : invN f) : invN (kpb f) := by
  have h58 := h.r58
  have h0 := h.r0
  have e := kpb1_58 h58
  refine invN_of (inv_kpb h.1 h58 h0) (by rw [kpb_lo h58 (by decide)]; exact h0) (by rw [kpb_lo h58 (by decide)]; exact h.2.2.1) (by rw [kpb_58]; omega) (fun i a b => ?_) (fun i a b => ?_)
  · rw [kpb_58] at b
    by_cases c : i = kpb1 f 58
    · subst c; exact ⟨f, h.1, h0, fun j x y => mix_eq h58 ⟨x, y⟩⟩
    · by_cases c8 : f 58 = 8
      · have e7 : kpb1 f 58 = 7 := by unfold kpb1; rw [if_pos c8]; exact fup_s _ _ _
        have q := h.m0 (i + 1) (by omega)
        exact ⟨mixF f (i + 1), q.1, q.2, fun j x y => by rw [mix_lt h58 (by omega) ⟨x, y⟩, mix_1 c8 (by omega) ⟨x, y⟩]⟩
      · have e1 := mix_n c8
        rw [e1] at c b
        have q := h.m0 i (by omega)
        exact ⟨mixF f i, q.1, q.2, fun j x y => by rw [mix_lt h58 (by rw [e1]; omega) ⟨x, y⟩, e1]⟩
  · have h39 := h.r39
    rw [kpb_lo h58 (by decide)] at b
    rw [kpb_lo h58 (by omega), kpb_lo h58 (by omega), kpb_lo h58 (by omega)]
    exact h.2.2.2.2.2 i a b
theorem und1_rg {f : Int → Int} (h : invN f) (h1 : 1 ≤ f 58) : inv (und1 f) ∧ 0 ≤ und1 f 0 ∧ und1 f 0 ≤ 999 := by
  have h58 := h.r58
  have q := h.m0 (f 58 - 1) (by omega)
  have e := fun (j : Int) (x : 0 ≤ j) (y : j < 39) => und1_lo (f := f) (by omega) ⟨x, y⟩
  refine ⟨inv_ext q.1 e (fun j hj => ?_), ?_⟩
  · by_cases c : 0 ≤ j ∧ j < 26
    · rw [e j c.1 (by omega)]; exact q.1.1 j hj
    · unfold und1; rw [fcp_out (by omega)]; unfold fup; split; omega; exact h.1.1 j hj
  · rw [e 0 (by decide) (by decide)]; exact q.2
theorem invN_und1 {f : Int → Int} (h : invN f) (h1 : 1 ≤ f 58) : invN (und1 f) := by
  have h58 := h.r58
  have q := und1_rg h h1
  have e : ∀ j, 26 ≤ j → j ≠ 58 → und1 f j = f j := fun j x y => by unfold und1; rw [fcp_out (by omega), fup_n y]
  refine invN_of q.1 q.2 (by rw [e 39 (by decide) (by decide)]; exact h.2.2.1) (by rw [und1_58]; omega) (fun i a b => ?_) (fun i a b => ?_)
  · rw [und1_58] at b
    have q := h.m0 i (by omega)
    exact ⟨mixF f i, q.1, q.2, fun j x y => und1_mix a ⟨x, y⟩⟩
  · have h39 := h.r39
    rw [e 39 (by decide) (by decide)] at b
    rw [e _ (by omega) (by omega), e _ (by omega) (by omega), e _ (by omega) (by omega)]
    exact h.2.2.2.2.2 i a b
theorem invN_0 {g : Int → Int} (hg : inv g) (h0 : 0 ≤ g 0 ∧ g 0 ≤ 999) (z : g 58 = 0) (y : g 39 = 0) : invN g :=
  invN_of hg h0 (by omega) (by omega) (fun i a b => by omega) (fun i a b => by omega)
theorem inv_58 {f : Int → Int} (h : inv f) : inv (fup f 58 0) := inv_ext h (fun j a b => fup_n (by omega)) (fun j hj => by unfold fup; split; omega; exact h.1 j hj)
theorem invN_nt {f : Int → Int} (h : invN f) {k w n : Int} (h6 : f 39 < 6) (hk : 0 ≤ k ∧ k < 5) (hw : 0 ≤ w ∧ w ≤ 40) (hn : 0 ≤ n ∧ n ≤ 9) : invN (ntF f k w n) := by
  have h39 := h.r39
  have h58 := h.r58
  have lo : ∀ j, j < 39 ∨ 58 ≤ j → ntF f k w n j = f j := fun j hj => ntF_n (by omega) hj
  have at9 : ∀ j, ntF f k w n j = if j = 39 then f 39 + 1 else if j = 40 + 3 * f 39 + 2 then n else if j = 40 + 3 * f 39 + 1 then w else if j = 40 + 3 * f 39 then k else f j := fun j => rfl
  refine invN_of (inv_ext h.1 (fun j a b => lo j (by omega)) (fun j hj => ?_)) (by rw [lo 0 (by decide)]; exact h.r0) (by rw [ntF_39]; omega) (by rw [lo 58 (by decide)]; exact h58.2) (fun i a b => ?_) (fun i a b => ?_)
  · have := h.1.1 j hj
    rw [at9 j]; (repeat' split) <;> omega
  · rw [lo 58 (by decide)] at b
    have q := h.m0 i ⟨a, b⟩
    refine ⟨mixF f i, q.1, q.2, fun j x y => ?_⟩
    by_cases c : 0 ≤ j ∧ j < 26
    · rw [mixF_lo c, mixF_lo c]; exact lo _ (by omega)
    · rw [mixF_hi c, mixF_hi c]; exact lo _ (by omega)
  · rw [ntF_39] at b
    have a0 := at9 (40 + 3 * i); have a1 := at9 (41 + 3 * i); have a2 := at9 (42 + 3 * i)
    by_cases c : i = f 39
    · rw [if_neg (by omega), if_neg (by omega), if_neg (by omega), if_pos (by omega)] at a0
      rw [if_neg (by omega), if_neg (by omega), if_pos (by omega)] at a1
      rw [if_neg (by omega), if_pos (by omega)] at a2
      omega
    · have q := h.2.2.2.2.2 i a (by omega)
      rw [if_neg (by omega), if_neg (by omega), if_neg (by omega), if_neg (by omega)] at a0 a1 a2
      omega
theorem invN_fg {f : Int → Int} (h : invN f) : invN (fup f 39 0) := by
  have h58 := h.r58
  have lo : ∀ j, j ≠ 39 → fup f 39 0 j = f j := fun j hj => fup_n hj
  refine invN_of (inv_ext h.1 (fun j a b => lo j (by omega)) (fun j hj => ?_)) (by rw [lo 0 (by decide)]; exact h.r0) (by rw [fup_s]; decide) (by rw [lo 58 (by decide)]; exact h58.2) (fun i a b => ?_) (fun i a b => by rw [fup_s] at b; omega)
  · unfold fup; split; omega; exact h.1.1 j hj
  · rw [lo 58 (by decide)] at b
    have q := h.m0 i ⟨a, b⟩
    refine ⟨mixF f i, q.1, q.2, fun j x y => ?_⟩
    by_cases c : 0 ≤ j ∧ j < 26
    · rw [mixF_lo c, mixF_lo c]; exact lo _ (by omega)
    · rw [mixF_hi c, mixF_hi c]; exact lo _ (by omega)
/-- agreement on the whole row -/
theorem invN_ext {f g : Int → Int} (h : invN f) (hr : ∀ j, j ≠ 0 → 0 ≤ g j ∧ g j ≤ 2000) (e : ∀ j, 0 ≤ j → j < 267 → g j = f j) : invN g :=
  invN_hi h (inv_ext h.1 (fun j a b => e j a (by omega)) hr) (by rw [e 0 (by decide) (by decide)]; exact h.r0) (fun j a b => e j (by omega) b)
theorem invN_fcp {A f g : Int → Int} {a : Int} (h : invN (fcp A f a 0 267)) (hg : ∀ j, j ≠ 0 → 0 ≤ g j ∧ g j ≤ 2000) : invN (fcp A g a 0 267) :=
  invN_ext h (fun j hj => by
    by_cases c : 0 ≤ j ∧ j < 0 + 267
    · rw [fcp_in c]; have := h.1.1 j hj; rw [fcp_in c] at this; exact this
    · rw [fcp_out c]; exact hg j hj) (fun j x y => by rw [fcp_in (by omega), fcp_in (by omega)])
theorem invM_now {S : Nat → Int → Int} (h : invM S) {g : Int → Int} (hg : invN g) : invM (sst S 1 g) := by
  obtain ⟨h1, h2, h3, h4, h5, h6⟩ := h
  exact ⟨hg, h2, h3, h4, h5, fun i hi => (h6 i hi).imp id (fun q => ⟨q.1, invN_fcp (f := S 1) q.2 hg.1.1⟩)⟩
theorem invM_tri {S : Nat → Int → Int} (h : invM S) {T : Int → Int} (hT : outR T) : invM (sst S 2 T) := by
  obtain ⟨h1, h2, h3, h4, h5, h6⟩ := h
  exact ⟨h1, hT, h3, h4, h5, h6⟩
theorem invM_8 {S : Nat → Int → Int} (h : invM S) {T : Int → Int} : invM (sst S 8 T) := h
theorem invM_6 {S : Nat → Int → Int} (h : invM S) {T : Int → Int} : invM (sst S 6 T) := h
theorem invM_0 {S : Nat → Int → Int} (h : invM S) {T : Int → Int} (e : T 8 = S 0 8) : invM (sst S 0 T) := by
  obtain ⟨h1, h2, h3, h4, h5, h6⟩ := h
  exact ⟨h1, h2, h3, (show 0 ≤ T 8 ∧ T 8 ≤ 150 by omega), (fun j a b => h5 j a (show j < S 0 8 from e ▸ b)), h6⟩
theorem invM_img {S : Nat → Int → Int} (h : invM S) {i : Int} (hi : i = 0 ∨ i = 1) : invM (sst (sst S 4 (fcp (S 1) (S 4) 0 (267 * i) 267)) 5 (fup (S 5) i 1)) := by
  obtain ⟨h1, h2, h3, h4, h5, h6⟩ := h
  refine ⟨h1, h2, h3, h4, h5, fun k hk => ?_⟩
  by_cases c : k = i
  · refine Or.inr ⟨by rw [c]; exact fup_s _ _ _, ?_⟩
    refine invN_ext h1 (fun j hj => ?_) (fun j x y => ?_)
    · show 0 ≤ fcp (fcp (S 1) (S 4) 0 (267 * i) 267) (S 1) (267 * k) 0 267 j ∧ fcp (fcp (S 1) (S 4) 0 (267 * i) 267) (S 1) (267 * k) 0 267 j ≤ 2000
      by_cases d : 0 ≤ j ∧ j < 0 + 267
      · rw [fcp_in d, fcp_in (by omega)]; rw [show 0 + (267 * k + (j - 0) - 267 * i) = j by omega]; exact h1.1.1 j hj
      · rw [fcp_out d]; exact h1.1.1 j hj
    · show fcp (fcp (S 1) (S 4) 0 (267 * i) 267) (S 1) (267 * k) 0 267 j = _
      rw [fcp_in (by omega), fcp_in (by omega), show 0 + (267 * k + (j - 0) - 267 * i) = j by omega]
  · rcases h6 k hk with q | q
    · exact Or.inl (by show fup (S 5) i 1 k = 0; rw [fup_n c]; exact q)
    · refine Or.inr ⟨by show fup (S 5) i 1 k = 1; rw [fup_n c]; exact q.1, ?_⟩
      refine invN_ext q.2 (fun j hj => ?_) (fun j x y => ?_)
      · show 0 ≤ fcp (fcp (S 1) (S 4) 0 (267 * i) 267) (S 1) (267 * k) 0 267 j ∧ fcp (fcp (S 1) (S 4) 0 (267 * i) 267) (S 1) (267 * k) 0 267 j ≤ 2000
        have := q.2.1.1 j hj
        by_cases d : 0 ≤ j ∧ j < 0 + 267
        · rw [fcp_in d] at this ⊢; rw [fcp_out (by omega)]; exact this
        · rw [fcp_out d]; exact h1.1.1 j hj
      · show fcp (fcp (S 1) (S 4) 0 (267 * i) 267) (S 1) (267 * k) 0 267 j = _
        rw [fcp_in (by omega), fcp_out (by omega), fcp_in (by omega)]
theorem inv_T {S : Nat → Int → Int} (h : invM S) : inv (cpn (S 1) (S 2)) := inv_cpn h.1.1 h.2.1
theorem outR_gon {T : Int → Int} (h : inv T) {m : Int} (hm : 0 ≤ m) : outR (gon m T) := fun j hj => (inv_gon h hm).1.1 j (by omega)
theorem outR_inv {T : Int → Int} (h : inv T) : outR T := fun j hj => h.1 j (by omega)
/-- what every answer of the reference keeps -/
theorem iM_if {c : Prop} [Decidable c] {A B : Int × (Nat → Int → Int)} (hA : c → invM A.2) (hB : ¬ c → invM B.2) : invM (if c then A else B).2 := by
  by_cases w : c
  · rw [if_pos w]; exact hA w
  · rw [if_neg w]; exact hB w
theorem iM_common {S : Nat → Int → Int} (h : invM S) : invM (commonA S).2 := by
  have e : ∀ j, 0 ≤ j → j < 267 → beg (S 1) j = 0 := fun j h1 h2 => if_pos ⟨h1, h2⟩
  exact invM_now h (invN_0 (inv_beg h.1.1.1) (by rw [e 0 (by decide) (by decide)]; decide) (e 58 (by decide) (by decide)) (e 39 (by decide) (by decide)))
theorem acs_o {f : Int → Int} (hf : 0 ≤ f 26 ∧ f 26 < 5) {k c s j : Int} (hj : j = 0 ∨ 39 ≤ j) : acs f k c s j = f j := by
  unfold acs; rw [fup_n (by omega), fup_n (by omega), fup_n (by omega), fup_n (by omega)]
theorem ahu_o {f : Int → Int} (hf : 0 ≤ f 37 ∧ f 37 < 6) {c j : Int} (hj : j = 0 ∨ 39 ≤ j) : ahu f c j = f j := by unfold ahu; rw [fup_n (by omega), fup_n (by omega)]
theorem ash_o {f : Int → Int} (hf : 0 ≤ f 38 ∧ f 38 < 3) {c j : Int} (hj : j = 0 ∨ 39 ≤ j) : ash f c j = f j := by unfold ash; rw [fup_n (by omega), fup_n (by omega)]
theorem iM_cosy {S : Nat → Int → Int} (h : invM S) {k c s : Int} : invM (cosyA S k c s).2 := by
  have hn := h.1.1.n
  have h0 := h.1.r0
  have e58 : fup (S 1) 58 0 26 = S 1 26 := fup_n (by decide)
  refine iM_if (fun a => iM_if (fun b => iM_if (fun d => iM_if (fun e => h) (fun e => ?_)) (fun _ => h)) (fun _ => h)) (fun _ => h)
  exact invM_now h (invN_z h.1 (inv_acs (inv_58 h.1.1) (by omega) a (by omega) (by omega)) (by rw [acs_o (by omega) (Or.inl rfl), fup_n (by decide)]; exact h0) (by rw [acs_o (by omega) (by omega)]; exact fup_s _ _ _) (fun j x y => by rw [acs_o (by omega) (by omega), fup_n (by omega)]))
theorem iM_hunted {S : Nat → Int → Int} (h : invM S) {c : Int} : invM (huntedA S c).2 := by
  have hn := h.1.1.n
  have h0 := h.1.r0
  have e58 : fup (S 1) 58 0 37 = S 1 37 := fup_n (by decide)
  refine iM_if (fun a => iM_if (fun e => h) (fun e => ?_)) (fun _ => h)
  exact invM_now h (invN_z h.1 (inv_ahu (inv_58 h.1.1) (by omega) (by omega)) (by rw [ahu_o (by omega) (Or.inl rfl), fup_n (by decide)]; exact h0) (by rw [ahu_o (by omega) (by omega)]; exact fup_s _ _ _) (fun j x y => by rw [ahu_o (by omega) (by omega), fup_n (by omega)]))
theorem iM_sheriff {S : Nat → Int → Int} (h : invM S) {c : Int} : invM (sheriffA S c).2 := by
  have hn := h.1.1.n
  have h0 := h.1.r0
  have e58 : fup (S 1) 58 0 38 = S 1 38 := fup_n (by decide)
  refine iM_if (fun a => iM_if (fun e => h) (fun e => ?_)) (fun _ => h)
  exact invM_now h (invN_z h.1 (inv_ash (inv_58 h.1.1) (by omega) (by omega)) (by rw [ash_o (by omega) (Or.inl rfl), fup_n (by decide)]; exact h0) (by rw [ash_o (by omega) (by omega)]; exact fup_s _ _ _) (fun j x y => by rw [ash_o (by omega) (by omega), fup_n (by omega)]))
theorem iM_type {S : Nat → Int → Int} (h : invM S) {c : Int} : invM (typeA S c).2 := by
  obtain ⟨h1, h2, h3, h4, h5, h6⟩ := h
  refine iM_if (fun a => iM_if (fun e => ⟨h1, h2, h3, h4, h5, h6⟩) (fun e => ?_)) (fun _ => ⟨h1, h2, h3, h4, h5, h6⟩)
  refine ⟨h1, h2, h3, (show 0 ≤ S 0 8 + 1 ∧ S 0 8 + 1 ≤ 150 by omega), fun j x y => ?_, h6⟩
  have y2 : j < S 0 8 + 1 := y
  show 0 ≤ (if j = S 0 8 then c else S 7 j) ∧ (if j = S 0 8 then c else S 7 j) ≤ 127
  split
  · omega
  · exact h5 j x (by omega)
theorem iM_clear {S : Nat → Int → Int} (h : invM S) : invM (clearA S).2 := by
  obtain ⟨h1, h2, h3, h4, h5, h6⟩ := h
  exact ⟨h1, h2, h3, (show (0 : Int) ≤ 0 ∧ (0 : Int) ≤ 150 by decide), fun j x y => absurd (show j < 0 from y) (by omega), h6⟩
theorem inv_hrN (m : Nat) : ∀ {f : Int → Int}, inv f → 0 ≤ f 0 ∧ f 0 ≤ 999 → (inv (hrN m f) ∧ cfx f (hrN m f)) ∧ 0 ≤ hrN m f 0 ∧ hrN m f 0 ≤ 999 := by
  induction m with
  | zero => intro f h h0; exact ⟨⟨h, cfx.rf⟩, h0⟩
  | succ m ih =>
    intro f h h0
    by_cases c : f 0 < 999
    · rw [hrN_s m f c]
      have q := inv_goBy h
      have r := ih q.1 (by rw [goBy_0]; omega)
      exact ⟨⟨r.1.1, q.2.tr r.1.2⟩, r.2⟩
    · rw [hrN_b _ f c]; exact ⟨⟨h, cfx.rf⟩, h0⟩
theorem iM_hour {S : Nat → Int → Int} (h : invM S) {n : Int} : invM (hourA S n).2 := by
  have k := invN_kpb h.1
  have q := inv_hrN n.toNat k.1 k.r0
  exact iM_if (fun a => invM_now h (invN_cfx k q.1.1 q.1.2 q.2)) (fun _ => h)
theorem drn_rg {f : Int → Int} (h : inv f) {k n : Int} (hk : 0 ≤ k ∧ k < 5) (hn : 1 ≤ n) : 0 ≤ drn f k n ∧ drn f k n ≤ 40 := by
  have := h.k k hk
  unfold drn; split <;> omega
theorem iM_darn {S : Nat → Int → Int} (h : invM S) {k n : Int} : invM (darnA S k n).2 := by
  have hn := h.1.1.n
  have kk := invN_kpb h.1
  have e26 := kpb_lo h.1.r58 (j := 26) (by decide)
  refine iM_if (fun a => iM_if (fun b => ?_) (fun _ => h)) (fun _ => h)
  exact invM_now h (invN_cfx kk (inv_we kk.1 (by omega) (drn_rg h.1.1 (by omega) (by omega))) (cfx_fup (by omega)) (by rw [fup_n (by omega)]; exact kk.r0))
theorem brt_0 {f : Int → Int} {k c : Int} (hk : 0 ≤ k ∧ k < 5) (hn : 0 ≤ f 37 ∧ f 37 ≤ 6) : brt f k c 0 = f 0 := by
  have := brt_at (f := f) (k := k) (c := c) (by omega) (n := f 37) hn 0
  unfold brt
  rw [this, if_neg (by omega), if_neg (by omega)]
theorem iM_carry {S : Nat → Int → Int} (h : invM S) {k c : Int} : invM (carryA S k c).2 := by
  have kk := invN_kpb h.1
  have hn := kk.1.n
  have e26 := kpb_lo h.1.r58 (j := 26) (by decide)
  refine iM_if (fun a => iM_if (fun b => ?_) (fun _ => h)) (fun _ => h)
  have q := inv_brt kk.1 (k := k) (c := c) (by omega) (by omega)
  exact invM_now h (invN_cfx kk q.1 q.2 (by rw [brt_0 (by omega) hn.2.1]; exact kk.r0))
theorem iM_undo {S : Nat → Int → Int} (h : invM S) : invM (undoA S).2 := by
  have h58 := h.1.r58
  exact iM_if (fun a => h) (fun a => invM_now h (invN_und1 h.1 (by omega)))
theorem iM_of {S : Nat → Int → Int} (h : invM S) {k w : Int} : invM (ofA S k w).2 :=
  iM_if (fun _ => iM_if (fun _ => h) (fun _ => iM_if (fun _ => h) (fun _ => iM_if (fun _ => h) (fun _ => iM_if (fun _ => h) (fun _ => iM_if (fun _ => h) (fun _ => iM_if (fun _ => h) (fun _ => h))))))) (fun _ => h)
theorem iM_about {S : Nat → Int → Int} (h : invM S) {k w : Int} : invM (aboutA S k w).2 := iM_if (fun _ => iM_if (fun _ => h) (fun _ => h)) (fun _ => h)
theorem iM_where {S : Nat → Int → Int} (h : invM S) {k : Int} : invM (whereA S k).2 := iM_if (fun _ => h) (fun _ => h)
theorem iM_then {S : Nat → Int → Int} (h : invM S) {p m w : Int} : invM (thenA S p m w).2 := by
  refine iM_if (fun _ => iM_if (fun b => iM_if (fun _ => ?_) (fun _ => h)) (fun _ => h)) (fun _ => h)
  exact invM_tri h (outR_gon (inv_T h) b.1)
theorem iM_fate {S : Nat → Int → Int} (h : invM S) {m w : Int} : invM (fateA S m w).2 := by
  refine iM_if (fun b => iM_if (fun _ => ?_) (fun _ => h)) (fun _ => h)
  exact invM_tri h (outR_gon (inv_T h) b.1)
theorem inv_whN (p : Int) (k : Nat) : ∀ (m : Int) {T : Int → Int}, inv T → inv (whN p k m T).2 := by
  induction k with
  | zero => intro m T h; exact h
  | succ k ih =>
    intro m T h
    show inv (if T (17 + p) = 6 then (-1, T) else if goBy T (17 + p) = 6 then (m, goBy T) else whN p k (m + 1) (goBy T)).2
    by_cases c : T (17 + p) = 6
    · rw [if_pos c]; exact h
    · rw [if_neg c]
      by_cases d : goBy T (17 + p) = 6
      · rw [if_pos d]; exact (inv_goBy h).1
      · rw [if_neg d]; exact ih (m + 1) (inv_goBy h).1
theorem iM_when {S : Nat → Int → Int} (h : invM S) {p : Int} : invM (whenA S p).2 :=
  iM_if (fun _ => invM_tri h (outR_inv (inv_whN p 40 1 (inv_T h)))) (fun _ => h)
theorem outR_pl {f T : Int → Int} (h : inv f) (hT : outR T) {k m c : Int} (hk : 0 ≤ k ∧ k < f 26) (hm : 0 ≤ m) (hc : 0 ≤ c ∧ c < 24) : outR (plT f k m c T) :=
  outR_gon (inv_brt (inv_cpn h hT) (k := k) (by rw [cpn_in (by decide)]; exact hk) hc).1 hm
theorem iM_place {S : Nat → Int → Int} (h : invM S) {k m : Int} : invM (placeA S k m).2 := by
  refine iM_if (fun a => iM_if (fun b => ?_) (fun _ => h)) (fun _ => h)
  refine invM_tri h ?_
  refine itI_ind (fun _ s => outR s.2.2) (plG (S 1) k m) (-1, 0, S 2) (by decide) h.2.1 (fun c s x y z => ?_)
  have q := outR_pl (k := k) (m := m) (c := c) h.1.1 z (by omega) b.1 ⟨x, y⟩
  unfold plG
  split <;> exact q
theorem iM_stitches {S : Nat → Int → Int} (h : invM S) {k n : Int} : invM (stitchesA S k n).2 := iM_if (fun _ => iM_if (fun _ => h) (fun _ => h)) (fun _ => h)
theorem iM_note {S : Nat → Int → Int} (h : invM S) {k w n : Int} : invM (noteA S k w n).2 := by
  have hn := h.1.1.n
  have h39 := h.1.r39
  refine iM_if (fun a => iM_if (fun b => iM_if (fun c => iM_if (fun _ => h) (fun d => ?_)) (fun _ => h)) (fun _ => h)) (fun _ => h)
  exact invM_now h (invN_nt h.1 (by omega) (by omega) b c)
theorem iM_forget {S : Nat → Int → Int} (h : invM S) : invM (forgetA S).2 := invM_now h (invN_fg h.1)
theorem iM_from {S : Nat → Int → Int} (h : invM S) {i : Int} : invM (fromA S i).2 := by
  refine iM_if (fun a => iM_if (fun _ => h) (fun b => ?_)) (fun _ => h)
  have q := h.2.2.2.2.2 i (by omega)
  exact invM_now h (q.resolve_left b).2
theorem iM_image {S : Nat → Int → Int} (h : invM S) {i : Int} : invM (imageA S i).2 := iM_if (fun a => invM_img h (by omega)) (fun _ => h)
theorem iM_status {S : Nat → Int → Int} (h : invM S) {w : Int} : invM (statusA S w).2 := iM_if (fun _ => h) (fun _ => h)
theorem iM_count {S : Nat → Int → Int} (h : invM S) {w : Int} : invM (countA S w).2 := iM_if (fun _ => h) (fun _ => h)
theorem iM_part {S : Nat → Int → Int} (h : invM S) {w : Int} : invM (partA S w).2 := iM_if (fun _ => h) (fun _ => iM_if (fun _ => h) (fun _ => h))
theorem iM_is {S : Nat → Int → Int} (h : invM S) {k : Int} : invM (isA S k).2 := iM_if (fun _ => h) (fun _ => h)
theorem iM_feel {S : Nat → Int → Int} (h : invM S) {k : Int} : invM (feelA S k).2 := iM_if (fun _ => h) (fun _ => h)
theorem iM_inside {S : Nat → Int → Int} (h : invM S) {k x w : Int} : invM (insideA S k x w).2 := iM_if (fun _ => iM_if (fun _ => iM_if (fun _ => h) (fun _ => h)) (fun _ => h)) (fun _ => h)
theorem iM_two {S : Nat → Int → Int} (h : invM S) {a b k : Int} : invM (twoA S a b k).2 :=
  iM_if (fun _ => iM_if (fun _ => iM_if (fun _ => h) (fun _ => iM_if (fun _ => h) (fun _ => iM_if (fun _ => iM_if (fun _ => h) (fun _ => h)) (fun _ => h)))) (fun _ => h)) (fun _ => h)
theorem iM_rain {S : Nat → Int → Int} (h : invM S) {c : Int} : invM (rainA S c).2 := iM_if (fun _ => invM_0 h rfl) (fun _ => h)
theorem inv_yinL {f T : Int → Int} (h : inv f) (hT : outR T) (x : Int) (hx : 0 ≤ x) : inv (itI (f 37) yinG (x, cpn f T)).2 := by
  have hn := h.n
  have c37 : cpn f T 37 = f 37 := cpn_in (by decide)
  refine (itI_ind (fun _ r => 0 ≤ r.1 ∧ inv r.2 ∧ cfx (cpn f T) r.2) yinG (x, cpn f T) hn.2.1.1 ⟨hx, inv_cpn h hT, cfx.rf⟩ (fun p r a b q => ?_)).2.1
  have hy : 0 ≤ yrX r.1 := by unfold yrX; omega
  have w := inv_yin q.2.1 (p := p) (c := yrX r.1 / 65536 % 24) (by rw [q.2.2 37 (by decide), c37]; omega) (by omega)
  exact ⟨hy, w.1, q.2.2.tr w.2⟩
theorem yin_x {f T : Int → Int} (h : inv f) (x : Int) (hx : 0 ≤ x) : 0 ≤ (itI (f 37) yinG (x, cpn f T)).1 := by
  have hn := h.n
  exact itI_ind (fun _ r => 0 ≤ r.1) yinG (x, cpn f T) hn.2.1.1 hx (fun p r a b q => show 0 ≤ yrX r.1 by unfold yrX; omega)
theorem iM_years {S : Nat → Int → Int} (h : invM S) {s n : Int} : invM (yearsA S s n).2 := by
  refine iM_if (fun a => iM_if (fun b => ?_) (fun _ => h)) (fun _ => h)
  refine invM_tri h ?_
  refine (itI_ind (fun _ r => 0 ≤ r.1 ∧ outR r.2.2) (yrG (S 1)) (s, 0, S 2) b.1 ⟨a.1, h.2.1⟩ (fun c r x y q => ?_)).2
  exact ⟨yin_x h.1.1 r.1 q.1, outR_gon (inv_yinL h.1.1 q.2 r.1 q.1) (by decide)⟩
