/-! the class's tokens against the reference's, pure -/
def bt (L : Int) (t : Int → Int) (i : Int) : Int := if 0 ≤ i ∧ i < L then t i else -1
theorem bt_y {L : Int} {t : Int → Int} {i : Int} (h : 0 ≤ i ∧ i < L) : bt L t i = t i := if_pos h
theorem bt_n {L : Int} {t : Int → Int} {i : Int} (h : ¬ (0 ≤ i ∧ i < L)) : bt L t i = -1 := if_neg h
theorem bt_rg {L : Int} {t : Int → Int} (hT : ∀ j, 0 ≤ j → j < L → 0 ≤ t j ∧ t j ≤ 127) (i : Int) : (bt L t i = -1 ∧ ¬ (0 ≤ i ∧ i < L)) ∨ (bt L t i = t i ∧ (0 ≤ i ∧ i < L) ∧ 0 ≤ t i ∧ t i ≤ 127) := by
  by_cases c : 0 ≤ i ∧ i < L
  · exact Or.inr ⟨bt_y c, c, hT i c.1 c.2⟩
  · exact Or.inl ⟨bt_n c, c⟩
theorem kd_c (L : Int) (t : Int → Int) (i : Int) : (kd L t i = 1 ∧ i < L ∧ 97 ≤ t i ∧ t i ≤ 122) ∨ (kd L t i = 2 ∧ i < L ∧ 48 ≤ t i ∧ t i ≤ 57) ∨ (kd L t i = 0 ∧ (L ≤ i ∨ (¬ (97 ≤ t i ∧ t i ≤ 122) ∧ ¬ (48 ≤ t i ∧ t i ≤ 57)))) := by
  unfold kd; (repeat' split) <;> omega
def hsh (f : Int → Int) (a : Int) : Nat → Int
  | 0 => 0
  | n + 1 => 256 * hsh f a n + f (a + (n : Int))
/-- what a run of letters has told so far -/
def tkH (f : Int → Int) (a : Int) (s : Int × Int × Int) : Prop := a ≤ s.1 ∧ (∀ j, a ≤ j → j < s.1 → 97 ≤ f j ∧ f j ≤ 122) ∧ ((s.1 - a ≤ 7 ∧ s.2.1 = hsh f a (s.1 - a).toNat) ∨ (7 < s.1 - a ∧ s.2.1 = -1))
theorem tkH_s {L : Int} {f : Int → Int} {a : Int} {s : Int × Int × Int} (hk : kd L f s.1 = 1) (h : tkH f a s) : tkH f a (s.1 + 1, if s.1 - a < 7 then 256 * s.2.1 + f s.1 else -1, if s.1 - a < 2 then 10 * s.2.2 + f s.1 - 48 else s.2.2) := by
  have e := kd_c L f s.1
  obtain ⟨h0, h1, h2⟩ := h
  refine ⟨by dsimp only; omega, fun j x y => ?_, ?_⟩
  · dsimp only at y
    by_cases c : j = s.1
    · rw [c]; omega
    · exact h1 j x (by omega)
  · dsimp only
    by_cases c : s.1 - a < 7
    · rw [if_pos c]
      refine Or.inl ⟨by omega, ?_⟩
      rcases h2 with h2 | h2
      · rw [show (s.1 + 1 - a).toNat = (s.1 - a).toNat + 1 by omega]
        show _ = 256 * hsh f a (s.1 - a).toNat + f (a + ((s.1 - a).toNat : Int))
        rw [← h2.2, show a + ((s.1 - a).toNat : Int) = s.1 by omega]
      · omega
    · rw [if_neg c]; exact Or.inr ⟨by omega, rfl⟩
theorem tkN_H {L : Int} {f : Int → Int} {a : Int} : ∀ (m : Nat) (s : Int × Int × Int), tkH f a s → tkH f a (tkN L f a 1 m s) := by
  intro m
  induction m with
  | zero => intro s h; exact h
  | succ m ih =>
    intro s h
    show tkH f a (if kd L f s.1 = 1 then tkN L f a 1 m (s.1 + 1, _, _) else s)
    by_cases c : kd L f s.1 = 1
    · rw [if_pos c]; exact ih _ (tkH_s c h)
    · rw [if_neg c]; exact h
theorem tkR_H {L : Int} {f : Int → Int} {a : Int} (hk : kd L f a = 1) : tkH f a (tkR L f a) := by
  unfold tkR
  rw [hk]
  exact tkN_H _ _ ⟨Int.le_refl _, fun j x y => by dsimp only at y; omega, Or.inl ⟨by show a - a ≤ 7; omega, by show (0 : Int) = hsh f a (a - a).toNat; rw [show (a - a).toNat = 0 by omega]; rfl⟩⟩
theorem tkR_gt {L : Int} {f : Int → Int} {a k : Int} (hk : kd L f a = k) (hk0 : k ≠ 0) : a < (tkR L f a).1 := by
  have hL : a < L := by have := kd_c L f a; omega
  have key : ∀ (m : Nat) (s : Int × Int × Int), s.1 ≤ (tkN L f a k m s).1 := by
    intro m
    induction m with
    | zero => intro s; exact Int.le_refl _
    | succ m ih =>
      intro s
      show s.1 ≤ (if kd L f s.1 = k then tkN L f a k m (s.1 + 1, _, _) else s).1
      by_cases c : kd L f s.1 = k
      · rw [if_pos c]; have := ih (s.1 + 1, if s.1 - a < 7 then 256 * s.2.1 + f s.1 else -1, if s.1 - a < 2 then 10 * s.2.2 + f s.1 - 48 else s.2.2); dsimp only at this; omega
      · rw [if_neg c]; exact Int.le_refl _
  unfold tkR
  rw [hk, tkN_s hL hk]
  have := key (L - (a + 1)).toNat (a + 1, if a - a < 7 then 256 * 0 + f a else -1, if a - a < 2 then 10 * 0 + f a - 48 else 0)
  dsimp only at this
  omega
def hW (k : Nat) : Int := if k = 0 then 109330228408174 else if k = 1 then 1668248441 else if k = 2 then 114853573584228 else if k = 3 then 32484407242221158 else 2003132786
theorem hW_f {f : Int → Int} {a : Int} {d : Nat} (hd : 1 ≤ d ∧ d ≤ 7) (hl : ∀ n : Nat, n < d → 97 ≤ f (a + (n : Int)) ∧ f (a + (n : Int)) ≤ 122) :
    (hsh f a d = 109330228408174 ↔ (d = 6 ∧ f (a + ((0 : Nat) : Int)) = 99 ∧ f (a + ((1 : Nat) : Int)) = 111 ∧ f (a + ((2 : Nat) : Int)) = 109 ∧ f (a + ((3 : Nat) : Int)) = 109 ∧ f (a + ((4 : Nat) : Int)) = 111 ∧ f (a + ((5 : Nat) : Int)) = 110)) ∧
    (hsh f a d = 1668248441 ↔ (d = 4 ∧ f (a + ((0 : Nat) : Int)) = 99 ∧ f (a + ((1 : Nat) : Int)) = 111 ∧ f (a + ((2 : Nat) : Int)) = 115 ∧ f (a + ((3 : Nat) : Int)) = 121)) ∧
    (hsh f a d = 114853573584228 ↔ (d = 6 ∧ f (a + ((0 : Nat) : Int)) = 104 ∧ f (a + ((1 : Nat) : Int)) = 117 ∧ f (a + ((2 : Nat) : Int)) = 110 ∧ f (a + ((3 : Nat) : Int)) = 116 ∧ f (a + ((4 : Nat) : Int)) = 101 ∧ f (a + ((5 : Nat) : Int)) = 100)) ∧
    (hsh f a d = 32484407242221158 ↔ (d = 7 ∧ f (a + ((0 : Nat) : Int)) = 115 ∧ f (a + ((1 : Nat) : Int)) = 104 ∧ f (a + ((2 : Nat) : Int)) = 101 ∧ f (a + ((3 : Nat) : Int)) = 114 ∧ f (a + ((4 : Nat) : Int)) = 105 ∧ f (a + ((5 : Nat) : Int)) = 102 ∧ f (a + ((6 : Nat) : Int)) = 102)) ∧
    (hsh f a d = 2003132786 ↔ (d = 4 ∧ f (a + ((0 : Nat) : Int)) = 119 ∧ f (a + ((1 : Nat) : Int)) = 101 ∧ f (a + ((2 : Nat) : Int)) = 97 ∧ f (a + ((3 : Nat) : Int)) = 114)) := by
  have hc : d = 1 ∨ d = 2 ∨ d = 3 ∨ d = 4 ∨ d = 5 ∨ d = 6 ∨ d = 7 := by omega
  rcases hc with rfl | rfl | rfl | rfl | rfl | rfl | rfl
  · have l0 := hl 0 (by decide)
    simp only [hsh]; refine ⟨?_, ?_, ?_, ?_, ?_⟩ <;> first | omega | (constructor; (intro e; (repeat' apply And.intro) <;> first | trivial | omega); (first | (rintro ⟨_, e⟩; omega) | (intro e; omega)))
  · have l0 := hl 0 (by decide); have l1 := hl 1 (by decide)
    simp only [hsh]; refine ⟨?_, ?_, ?_, ?_, ?_⟩ <;> first | omega | (constructor; (intro e; (repeat' apply And.intro) <;> first | trivial | omega); (first | (rintro ⟨_, e⟩; omega) | (intro e; omega)))
  · have l0 := hl 0 (by decide); have l1 := hl 1 (by decide); have l2 := hl 2 (by decide)
    simp only [hsh]; refine ⟨?_, ?_, ?_, ?_, ?_⟩ <;> first | omega | (constructor; (intro e; (repeat' apply And.intro) <;> first | trivial | omega); (first | (rintro ⟨_, e⟩; omega) | (intro e; omega)))
  · have l0 := hl 0 (by decide); have l1 := hl 1 (by decide); have l2 := hl 2 (by decide); have l3 := hl 3 (by decide)
    simp only [hsh]; refine ⟨?_, ?_, ?_, ?_, ?_⟩ <;> first | omega | (constructor; (intro e; (repeat' apply And.intro) <;> first | trivial | omega); (first | (rintro ⟨_, e⟩; omega) | (intro e; omega)))
  · have l0 := hl 0 (by decide); have l1 := hl 1 (by decide); have l2 := hl 2 (by decide); have l3 := hl 3 (by decide); have l4 := hl 4 (by decide)
    simp only [hsh]; refine ⟨?_, ?_, ?_, ?_, ?_⟩ <;> first | omega | (constructor; (intro e; (repeat' apply And.intro) <;> first | trivial | omega); (first | (rintro ⟨_, e⟩; omega) | (intro e; omega)))
  · have l0 := hl 0 (by decide); have l1 := hl 1 (by decide); have l2 := hl 2 (by decide); have l3 := hl 3 (by decide); have l4 := hl 4 (by decide); have l5 := hl 5 (by decide)
    simp only [hsh]; refine ⟨?_, ?_, ?_, ?_, ?_⟩ <;> first | omega | (constructor; (intro e; (repeat' apply And.intro) <;> first | trivial | omega); (first | (rintro ⟨_, e⟩; omega) | (intro e; omega)))
  · have l0 := hl 0 (by decide); have l1 := hl 1 (by decide); have l2 := hl 2 (by decide); have l3 := hl 3 (by decide); have l4 := hl 4 (by decide); have l5 := hl 5 (by decide); have l6 := hl 6 (by decide)
    simp only [hsh]; refine ⟨?_, ?_, ?_, ?_, ?_⟩ <;> first | omega | (constructor; (intro e; (repeat' apply And.intro) <;> first | trivial | omega); (first | (rintro ⟨_, e⟩; omega) | (intro e; omega)))
theorem hsh_neg {f : Int → Int} {a : Int} {d : Nat} (hl : ∀ n : Nat, n < d → 97 ≤ f (a + (n : Int)) ∧ f (a + (n : Int)) ≤ 122) : 0 ≤ hsh f a d := by
  induction d with
  | zero => exact Int.le_refl _
  | succ d ih =>
    have := ih (fun n h => hl n (by omega))
    have := hl d (by omega)
    show 0 ≤ 256 * hsh f a d + f (a + (d : Int))
    omega
theorem wd_t (i : Nat) (hi : i < 5) {f : Int → Int} {a : Int} {d : Nat} (hd : 1 ≤ d ∧ d ≤ 7) (hl : ∀ n : Nat, n < d → 97 ≤ f (a + (n : Int)) ∧ f (a + (n : Int)) ≤ 122) : hsh f a d = hW i ↔ ((d : Int) = wLen i ∧ ∀ j, 0 ≤ j → j < wLen i → f (a + j) = wB i j) := by
  obtain ⟨h0, h1, h2, h3, h4⟩ := hW_f hd hl
  have num : ∀ (N : Nat) (P : Int → Prop), (∀ n : Nat, n < N → P (n : Int)) → ∀ j, 0 ≤ j → j < (N : Int) → P j := fun N P h j x y => by
    have := h j.toNat (by omega)
    rwa [Int.toNat_of_nonneg x] at this
  rcases i5 hi with rfl | rfl | rfl | rfl | rfl
  · rw [show hW 0 = 109330228408174 from rfl, h0]
    constructor
    · rintro ⟨e, q0, q1, q2, q3, q4, q5⟩
      refine ⟨by rw [e]; decide, num 6 (fun j => f (a + j) = wB 0 j) (fun n hn => ?_)⟩
      have hc : n = 0 ∨ n = 1 ∨ n = 2 ∨ n = 3 ∨ n = 4 ∨ n = 5 := by omega
      rcases hc with rfl | rfl | rfl | rfl | rfl | rfl
      · exact q0
      · exact q1
      · exact q2
      · exact q3
      · exact q4
      · exact q5
    · rintro ⟨e, q⟩
      have w : wLen 0 = 6 := by decide
      exact ⟨by omega, q 0 (by decide) (by decide), q 1 (by decide) (by decide), q 2 (by decide) (by decide), q 3 (by decide) (by decide), q 4 (by decide) (by decide), q 5 (by decide) (by decide)⟩
  · rw [show hW 1 = 1668248441 from rfl, h1]
    constructor
    · rintro ⟨e, q0, q1, q2, q3⟩
      refine ⟨by rw [e]; decide, num 4 (fun j => f (a + j) = wB 1 j) (fun n hn => ?_)⟩
      have hc : n = 0 ∨ n = 1 ∨ n = 2 ∨ n = 3 := by omega
      rcases hc with rfl | rfl | rfl | rfl
      · exact q0
      · exact q1
      · exact q2
      · exact q3
    · rintro ⟨e, q⟩
      have w : wLen 1 = 4 := by decide
      exact ⟨by omega, q 0 (by decide) (by decide), q 1 (by decide) (by decide), q 2 (by decide) (by decide), q 3 (by decide) (by decide)⟩
  · rw [show hW 2 = 114853573584228 from rfl, h2]
    constructor
    · rintro ⟨e, q0, q1, q2, q3, q4, q5⟩
      refine ⟨by rw [e]; decide, num 6 (fun j => f (a + j) = wB 2 j) (fun n hn => ?_)⟩
      have hc : n = 0 ∨ n = 1 ∨ n = 2 ∨ n = 3 ∨ n = 4 ∨ n = 5 := by omega
      rcases hc with rfl | rfl | rfl | rfl | rfl | rfl
      · exact q0
      · exact q1
      · exact q2
      · exact q3
      · exact q4
      · exact q5
    · rintro ⟨e, q⟩
      have w : wLen 2 = 6 := by decide
      exact ⟨by omega, q 0 (by decide) (by decide), q 1 (by decide) (by decide), q 2 (by decide) (by decide), q 3 (by decide) (by decide), q 4 (by decide) (by decide), q 5 (by decide) (by decide)⟩
  · rw [show hW 3 = 32484407242221158 from rfl, h3]
    constructor
    · rintro ⟨e, q0, q1, q2, q3, q4, q5, q6⟩
      refine ⟨by rw [e]; decide, num 7 (fun j => f (a + j) = wB 3 j) (fun n hn => ?_)⟩
      have hc : n = 0 ∨ n = 1 ∨ n = 2 ∨ n = 3 ∨ n = 4 ∨ n = 5 ∨ n = 6 := by omega
      rcases hc with rfl | rfl | rfl | rfl | rfl | rfl | rfl
      · exact q0
      · exact q1
      · exact q2
      · exact q3
      · exact q4
      · exact q5
      · exact q6
    · rintro ⟨e, q⟩
      have w : wLen 3 = 7 := by decide
      exact ⟨by omega, q 0 (by decide) (by decide), q 1 (by decide) (by decide), q 2 (by decide) (by decide), q 3 (by decide) (by decide), q 4 (by decide) (by decide), q 5 (by decide) (by decide), q 6 (by decide) (by decide)⟩
  · rw [show hW 4 = 2003132786 from rfl, h4]
    constructor
    · rintro ⟨e, q0, q1, q2, q3⟩
      refine ⟨by rw [e]; decide, num 4 (fun j => f (a + j) = wB 4 j) (fun n hn => ?_)⟩
      have hc : n = 0 ∨ n = 1 ∨ n = 2 ∨ n = 3 := by omega
      rcases hc with rfl | rfl | rfl | rfl
      · exact q0
      · exact q1
      · exact q2
      · exact q3
    · rintro ⟨e, q⟩
      have w : wLen 4 = 4 := by decide
      exact ⟨by omega, q 0 (by decide) (by decide), q 1 (by decide) (by decide), q 2 (by decide) (by decide), q 3 (by decide) (by decide)⟩
theorem hW_pos (i : Nat) : 0 < hW i := by unfold hW; (repeat' split) <;> decide
/-- a run of letters is the word i, if its number is -/
theorem wd_eq {i : Nat} (hi : i < 5) {L : Int} {f : Int → Int} {a : Int} (hk : kd L f a = 1) : (tkR L f a).2.1 = hW i ↔ ((tkR L f a).1 - a = wLen i ∧ ∀ j, 0 ≤ j → j < wLen i → f (a + j) = wB i j) := by
  obtain ⟨h0, h1, h2⟩ := tkR_H hk
  have hg := tkR_gt hk (by decide)
  have hw := hW_pos i
  have h7 := wLen_rg hi
  rcases h2 with ⟨h2, h3⟩ | ⟨h2, h3⟩
  · have := wd_t i hi (f := f) (a := a) (d := ((tkR L f a).1 - a).toNat) (by omega) (fun n hn => h1 _ (by omega) (by omega))
    rw [h3, this, Int.toNat_of_nonneg (by omega)]
  · constructor
    · intro e; omega
    · intro e; omega
/-- what a look at the next token finds -/
def TKd (L : Int) (f : Int → Int) (e b1 b2 b3 b4 : Int) : Prop := b1 = skp L f e ∧ ((b1 = L ∧ b3 = 0) ∨ (b1 < L ∧ f b1 = 59 ∧ b3 = 1 ∧ b2 = b1 + 1) ∨
  (b1 < L ∧ kd L f b1 = 2 ∧ ((b3 = 2 ∧ (tkR L f b1).1 - b1 ≤ 2 ∧ b2 = (tkR L f b1).1 ∧ b4 = (tkR L f b1).2.2) ∨ (b3 = 4 ∧ 2 < (tkR L f b1).1 - b1))) ∨
  (b1 < L ∧ kd L f b1 = 1 ∧ ((b3 = 3 ∧ b2 = (tkR L f b1).1 ∧ (0 ≤ b4 ∧ b4 ≤ 4) ∧ (tkR L f b1).2.1 = hW b4.toNat) ∨ (b3 = 4 ∧ ∀ k : Nat, k < 5 → (tkR L f b1).2.1 ≠ hW k))) ∨ (b1 < L ∧ kd L f b1 = 0 ∧ f b1 ≠ 59 ∧ b3 = 4))
