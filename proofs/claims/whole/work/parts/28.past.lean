/-! the class: calls that give an address or a long; what undo keeps; what an image keeps -/
abbrev CnR (g : Gt) (M : MM) (d : Nat) (as : List Value) (h : AH) (a : Nat) : Prop := Cn g M d as h (fun v h' => v = some (.ref a) ∧ h' = h)
abbrev CnN (g : Gt) (M : MM) (d : Nat) (as : List Value) (h : AH) : Prop := Cn g M d as h (fun v h' => v = some .null ∧ h' = h)
theorem q_r {a : Nat} {h : AH} {sz : Nat} : (some (Value.ref a) = some (Value.ref a) ∧ h = h) ∧ sz = sz := ⟨⟨rfl, rfl⟩, rfl⟩
theorem q_n {h : AH} {sz : Nat} : (some Value.null = some Value.null ∧ h = h) ∧ sz = sz := ⟨⟨rfl, rfl⟩, rfl⟩
section CallsR
variable {g : Gt} {x : Xt} {M M' : MM} {d d' cs ss idx n : Nat} {u : Nat × Nat × Nat} {h : AH} {pc : Nat} {lv : List (Nat × Value)} {st as rest : List Value} {e : Int} {b a : Nat} {Q : AH → Prop}
theorem z_cVR (hx : Ok g x M d cs ss) (hd : decode M.2.1 pc = .ok (.invokevirtual idx, 3)) (hk : Lnk M.1.cls idx M') (hi : Cond.instanceMethod M'.1 ∈ lw_tbl) (hv : Cond.selects M'.1.cls M'.1 M'.1 ∈ lw_tbl) (hrc : Rcv g x h b M'.1.cls) (hm : MoC M' n) (hc : CnR g M' d' (.ref b :: as) h a) (hdd : d' < d) (hst : st = as.reverse ++ .ref b :: rest) (hn : as.length = n) (hsum : (rest.map fun v => v.category).sum ≤ 8)
    (k : Zj g x u h (pc + 3) lv (.ref a :: rest)) : Zj g x u h pc lv st := z_cV hx hd hk hi hv hrc hm hc hdd hst hn hsum (fun v h' q => by obtain ⟨rfl, rfl⟩ := q; exact k)
theorem z_cVN (hx : Ok g x M d cs ss) (hd : decode M.2.1 pc = .ok (.invokevirtual idx, 3)) (hk : Lnk M.1.cls idx M') (hi : Cond.instanceMethod M'.1 ∈ lw_tbl) (hv : Cond.selects M'.1.cls M'.1 M'.1 ∈ lw_tbl) (hrc : Rcv g x h b M'.1.cls) (hm : MoC M' n) (hc : CnN g M' d' (.ref b :: as) h) (hdd : d' < d) (hst : st = as.reverse ++ .ref b :: rest) (hn : as.length = n) (hsum : (rest.map fun v => v.category).sum ≤ 8)
    (k : Zj g x u h (pc + 3) lv (.null :: rest)) : Zj g x u h pc lv st := z_cV hx hd hk hi hv hrc hm hc hdd hst hn hsum (fun v h' q => by obtain ⟨rfl, rfl⟩ := q; exact k)
theorem z_cVL (hx : Ok g x M d cs ss) (hd : decode M.2.1 pc = .ok (.invokevirtual idx, 3)) (hk : Lnk M.1.cls idx M') (hi : Cond.instanceMethod M'.1 ∈ lw_tbl) (hv : Cond.selects M'.1.cls M'.1 M'.1 ∈ lw_tbl) (hrc : Rcv g x h b M'.1.cls) (hm : MoC M' n) (hc : CnL g M' d' (.ref b :: as) h e) (hdd : d' < d) (hst : st = as.reverse ++ .ref b :: rest) (hn : as.length = n) (hsum : (rest.map fun v => v.category).sum ≤ 8)
    (k : Zj g x u h (pc + 3) lv (.long (lI e) :: rest)) : Zj g x u h pc lv st := z_cV hx hd hk hi hv hrc hm hc hdd hst hn hsum (fun v h' q => by obtain ⟨rfl, rfl⟩ := q; exact k)
theorem z_cVM (hx : Ok g x M d cs ss) (hd : decode M.2.1 pc = .ok (.invokevirtual idx, 3)) (hk : Lnk M.1.cls idx M') (hi : Cond.instanceMethod M'.1 ∈ lw_tbl) (hv : Cond.selects M'.1.cls M'.1 M'.1 ∈ lw_tbl) (hrc : Rcv g x h b M'.1.cls) (hm : MoC M' n) (hc : CnM g M' d' (.ref b :: as) h e Q) (hdd : d' < d) (hst : st = as.reverse ++ .ref b :: rest) (hn : as.length = n) (hsum : (rest.map fun v => v.category).sum ≤ 8)
    (k : ∀ h' : AH, Q h' → Zj g x u h' (pc + 3) lv (.long (lI e) :: rest)) : Zj g x u h pc lv st := z_cV hx hd hk hi hv hrc hm hc hdd hst hn hsum (fun v h' q => by obtain ⟨rfl, q⟩ := q; exact k h' q)
end CallsR
/-- the rows that undo gives back: pi says which block row i is, Fs what it holds -/
def PM (h : AH) (p : Nat) (pi : Int → Int) (Fs : Int → Nat → Int → Int) (n : Int) : Prop :=
  h p = some (.inr (.inr (4, [.ref (p + 1), .int (iI n)]))) ∧ (∃ r : Int → Option Nat, h (p + 1) = some (.inr (.inl (8, r))) ∧ ∀ i, 0 ≤ i → i < 8 → r i = some (p + 2 + 10 * (pi i).toNat)) ∧
  (∀ i, 0 ≤ i → i < 8 → (0 ≤ pi i ∧ pi i < 8) ∧ ∀ j, 0 ≤ j → j < 8 → pi i = pi j → i = j) ∧ ∀ i, 0 ≤ i → i < 8 → CM h (p + 2 + 10 * (pi i).toNat) (Fs i)
theorem PM.fr {h h' : AH} {p b n : Nat} {pi : Int → Int} {Fs : Int → Nat → Int → Int} {m : Int} (P : PM h p pi Fs m) (a : Fr h h' b n) (hd : p + 82 ≤ b ∨ b + n ≤ p) : PM h' p pi Fs m := by
  obtain ⟨p0, ⟨r, p1, p2⟩, p3, p4⟩ := P
  exact ⟨a.at (by omega) p0, ⟨r, a.at (by omega) p1, p2⟩, p3, fun i x y => (p4 i x y).fr a (by have := (p3 i x y).1; omega)⟩
theorem PM.up {h h' : AH} {p : Nat} {pi : Int → Int} {Fs : Int → Nat → Int → Int} {m i : Int} {F' : Nat → Int → Int} (P : PM h p pi Fs m) (hi : 0 ≤ i ∧ i < 8) (hc : CM h' (p + 2 + 10 * (pi i).toNat) F') (a : Fr h h' (p + 2 + 10 * (pi i).toNat) 10) : PM h' p pi (fun j => if j = i then F' else Fs j) m := by
  obtain ⟨p0, ⟨r, p1, p2⟩, p3, p4⟩ := P
  have e := (p3 i hi.1 hi.2).1
  refine ⟨a.at (by omega) p0, ⟨r, a.at (by omega) p1, p2⟩, p3, fun j x y => ?_⟩
  dsimp only
  by_cases c : j = i
  · subst c; rw [if_pos rfl]; exact hc
  · rw [if_neg c]
    have e2 := (p3 j x y).1
    have e3 : pi j ≠ pi i := fun w => c ((p3 j x y).2 i hi.1 hi.2 w)
    exact (p4 j x y).fr a (by omega)
theorem PM.row {h : AH} {p : Nat} {pi : Int → Int} {Fs : Int → Nat → Int → Int} {m : Int} (P : PM h p pi Fs m) {i : Int} (hi : 0 ≤ i ∧ i < 8) : CM h (p + 2 + 10 * (pi i).toNat) (Fs i) := P.2.2.2 i hi.1 hi.2
theorem PM.pi {h : AH} {p : Nat} {pi : Int → Int} {Fs : Int → Nat → Int → Int} {m : Int} (P : PM h p pi Fs m) {i : Int} (hi : 0 ≤ i ∧ i < 8) : 0 ≤ pi i ∧ pi i < 8 := (P.2.2.1 i hi.1 hi.2).1
/-- the rows have to do with the row of numbers -/
def PRl (Fs : Int → Nat → Int → Int) (f : Int → Int) : Prop := ∀ i, 0 ≤ i → i < f 58 → RLC (Fs i) (mixF f i)
theorem mixF_lo {f : Int → Int} {i j : Int} (h : 0 ≤ j ∧ j < 26) : mixF f i j = f (59 + 26 * i + j) := if_pos h
theorem mixF_hi {f : Int → Int} {i j : Int} (h : ¬ (0 ≤ j ∧ j < 26)) : mixF f i j = f j := if_neg h
theorem kpb_58 (f : Int → Int) : kpb f 58 = kpb1 f 58 + 1 := fup_s _ _ _
theorem mix_lt {f : Int → Int} (h : 0 ≤ f 58 ∧ f 58 ≤ 8) {i j : Int} (hi : 0 ≤ i ∧ i < kpb1 f 58) (hj : 0 ≤ j ∧ j < 39) : mixF (kpb f) i j = mixF (kpb1 f) i j := by
  have e := kpb1_58 h
  by_cases c : 0 ≤ j ∧ j < 26
  · rw [mixF_lo c, mixF_lo c]; unfold kpb; rw [fup_n (by omega), fcp_out (by omega)]
  · rw [mixF_hi c, mixF_hi c, kpb_lo h (by omega), kpb1_lo (by omega)]
theorem mix_eq {f : Int → Int} (h : 0 ≤ f 58 ∧ f 58 ≤ 8) {j : Int} (hj : 0 ≤ j ∧ j < 39) : mixF (kpb f) (kpb1 f 58) j = f j := by
  have e := kpb1_58 h
  by_cases c : 0 ≤ j ∧ j < 26
  · rw [mixF_lo c]; unfold kpb; rw [fup_n (by omega), fcp_in (by omega)]
    rw [show 0 + (59 + 26 * kpb1 f 58 + j - (59 + 26 * kpb1 f 58)) = j by omega]; exact kpb1_lo (by omega)
  · rw [mixF_hi c]; exact kpb_lo h (by omega)
theorem mix_1 {f : Int → Int} (h : f 58 = 8) {i j : Int} (hi : 0 ≤ i ∧ i < 7) (hj : 0 ≤ j ∧ j < 39) : mixF (kpb1 f) i j = mixF f (i + 1) j := by
  by_cases c : 0 ≤ j ∧ j < 26
  · rw [mixF_lo c, mixF_lo c]; unfold kpb1; rw [if_pos h, fup_n (by omega), fcp_in (by omega)]; congr 1; omega
  · rw [mixF_hi c, mixF_hi c]; exact kpb1_lo (by omega)
theorem mix_n {f : Int → Int} (h : f 58 ≠ 8) : kpb1 f = f := by unfold kpb1; rw [if_neg h]
theorem und1_58 {f : Int → Int} : und1 f 58 = f 58 - 1 := by unfold und1; rw [fcp_out (by omega), fup_s]
theorem und1_lo {f : Int → Int} (h : 1 ≤ f 58) {j : Int} (hj : 0 ≤ j ∧ j < 39) : und1 f j = mixF f (f 58 - 1) j := by
  by_cases c : 0 ≤ j ∧ j < 26
  · rw [mixF_lo c]; unfold und1; rw [fcp_in (by omega), fup_n (by omega)]; congr 1; omega
  · rw [mixF_hi c]; unfold und1; rw [fcp_out (by omega), fup_n (by omega)]
theorem und1_mix {f : Int → Int} {i j : Int} (hi : 0 ≤ i) (hj : 0 ≤ j ∧ j < 39) : mixF (und1 f) i j = mixF f i j := by
  by_cases c : 0 ≤ j ∧ j < 26
  · rw [mixF_lo c, mixF_lo c]; unfold und1; rw [fcp_out (by omega), fup_n (by omega)]
  · rw [mixF_hi c, mixF_hi c]; unfold und1; rw [fcp_out (by omega), fup_n (by omega)]
theorem PRl_keep {Fs : Int → Nat → Int → Int} {f : Int → Int} {F' : Nat → Int → Int} (h : PRl Fs f) (hI : inv f) (hm : ∀ i, 0 ≤ i → i < f 58 → inv (mixF f i)) (h58 : 0 ≤ f 58 ∧ f 58 ≤ 8) (hF : RLC F' f) :
    PRl (fun j => if j = kpb1 f 58 then F' else (if f 58 = 8 then Fs (j + 1) else Fs j)) (kpb f) := by
  have e := kpb1_58 h58
  intro i a b
  rw [kpb_58] at b
  dsimp only
  by_cases c : i = kpb1 f 58
  · rw [if_pos c, c]; exact RLC_ext hF hI.n (fun j x y => mix_eq h58 ⟨x, y⟩)
  · rw [if_neg c]
    by_cases c8 : f 58 = 8
    · rw [if_pos c8]
      have e7 : kpb1 f 58 = 7 := by unfold kpb1; rw [if_pos c8]; exact fup_s _ _ _
      exact RLC_ext (h (i + 1) (by omega) (by omega)) (hm (i + 1) (by omega) (by omega)).n (fun j x y => by rw [mix_lt h58 (by omega) ⟨x, y⟩, mix_1 c8 (by omega) ⟨x, y⟩])
    · rw [if_neg c8]
      rw [mix_n c8] at c b e
      exact RLC_ext (h i a (by omega)) (hm i a (by omega)).n (fun j x y => by rw [mix_lt h58 (by rw [mix_n c8]; omega) ⟨x, y⟩, mix_n c8])
theorem PRl_und {Fs : Int → Nat → Int → Int} {f : Int → Int} (h : PRl Fs f) (hm : ∀ i, 0 ≤ i → i < f 58 → inv (mixF f i)) : PRl Fs (und1 f) := by
  intro i a b
  rw [und1_58] at b
  exact RLC_ext (h i a (by omega)) (hm i a (by omega)).n (fun j x y => und1_mix a ⟨x, y⟩)
theorem PRl_ext {Fs : Int → Nat → Int → Int} {f g : Int → Int} (h : PRl Fs f) (hm : ∀ i, 0 ≤ i → i < f 58 → inv (mixF f i)) (h58 : f 58 ≤ 8) (e : ∀ j, (26 ≤ j ∧ j < 39) ∨ (58 ≤ j ∧ j < 267) → g j = f j) : PRl Fs g := by
  intro i a b
  rw [e 58 (by decide)] at b
  exact RLC_ext (h i a b) (hm i a b).n (fun j x y => by
    by_cases c : 0 ≤ j ∧ j < 26
    · rw [mixF_lo c, mixF_lo c]; exact e _ (by omega)
    · rw [mixF_hi c, mixF_hi c]; exact e _ (by omega))
