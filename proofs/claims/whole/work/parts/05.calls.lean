/-! THE LAYER, on: arrays, new cells, calls, returns -/
def fup (f : Int → Int) (i v : Int) : Int → Int := fun q => if q = i then v else f q
def fcp (f g : Int → Int) (sp dp n : Int) : Int → Int := fun j => if dp ≤ j ∧ j < dp + n then f (sp + (j - dp)) else g j
theorem gT_at (g : Gt) (k : Nat) (ty : FieldType) (h : (gT g)[k]? = some (gA g k, ty)) {s : State} (hK : KK g s) : ArrOfT s (gA g k) ty ∧ va_RA s (gA g k) ty := hK.1.2 k _ h
theorem z_iald {g : Gt} {x : Xt} {M : MM} {d cs ss : Nat} {u : Nat × Nat × Nat} {h : AH} {pc : Nat} {lv : List (Nat × Value)} {st : List Value} {a n : Nat} {f : Int → Int} {i : Int} (hx : Ok g x M d cs ss) (hd : decode M.2.1 pc = .ok (.iaload, 1)) (hc : h a = some (.inl (0, n, f))) (h0 : 0 ≤ i ∧ i < (n : Int)) (hn : n < 2147483648) (k : Zj g x u h (pc + 1) lv (.int (iI (f i)) :: st)) : Zj g x u h pc lv (.int (iI i) :: .ref a :: st) := by
  obtain ⟨p, e, R, s, m, args, below, meth, c, nL, Q⟩ := x
  obtain ⟨hx, hb, hml, hnL, hown, hts, hK, hlk, hnm, hrt, hfr, hlo, hcs, hss⟩ := hx
  intro H locs ls hW hz hu hS hl
  have h1 : va_at (gD g) clsL (a, toE g (.inl (0, n, f))) H := hW.at hc
  have hin : vp_in (iI i) n := iI_in h0.1 h0.2 (by omega)
  have hlt : (iI i).toNatClampNeg < n := Nat.not_le.mp fun q => hin (Or.inr q)
  have hi : (iI i).toNatClampNeg = i.toNat := iI_nat h0.1 h0.2 (by omega)
  have hv : iI (f (((iI i).toNatClampNeg : Nat) : Int)) = iI (f i) := by rw [hi, Int.toNat_of_nonneg h0.1]
  have kk := k H locs ls hW hz hu hS hl
  rw [← hv] at kk
  exact W.iald (v := .int (iI (f (((iI i).toNatClampNeg : Nat) : Int)))) hx hb h1 ((gT_at g 0 .int rfl hK).1 n (fun j => .int (iI (f (j : Int))))) (fun q => by cases q) (by show ¬ (_ ∨ (arrV _ _ _).slots.size ≤ _); rw [arrV_size]; exact hin) (by show (arrV _ _ _).slots[_]? = _; rw [arrV_read _ _ hlt]) rfl rfl hd kk
theorem z_cald {g : Gt} {x : Xt} {M : MM} {d cs ss : Nat} {u : Nat × Nat × Nat} {h : AH} {pc : Nat} {lv : List (Nat × Value)} {st : List Value} {a n : Nat} {f : Int → Int} {i : Int} (hx : Ok g x M d cs ss) (hd : decode M.2.1 pc = .ok (.caload, 1)) (hc : h a = some (.inl (1, n, f))) (h0 : 0 ≤ i ∧ i < (n : Int)) (hn : n < 2147483648) (k : Zj g x u h (pc + 1) lv (.int (iI (f i)) :: st)) : Zj g x u h pc lv (.int (iI i) :: .ref a :: st) := by
  obtain ⟨p, e, R, s, m, args, below, meth, c, nL, Q⟩ := x
  obtain ⟨hx, hb, hml, hnL, hown, hts, hK, hlk, hnm, hrt, hfr, hlo, hcs, hss⟩ := hx
  intro H locs ls hW hz hu hS hl
  have h1 : va_at (gD g) clsL (a, toE g (.inl (1, n, f))) H := hW.at hc
  have hin : vp_in (iI i) n := iI_in h0.1 h0.2 (by omega)
  have hlt : (iI i).toNatClampNeg < n := Nat.not_le.mp fun q => hin (Or.inr q)
  have hi : (iI i).toNatClampNeg = i.toNat := iI_nat h0.1 h0.2 (by omega)
  have hv : iI (f (((iI i).toNatClampNeg : Nat) : Int)) = iI (f i) := by rw [hi, Int.toNat_of_nonneg h0.1]
  have kk := k H locs ls hW hz hu hS hl
  rw [← hv] at kk
  exact W.cald (v := .int (iI (f (((iI i).toNatClampNeg : Nat) : Int)))) hx hb h1 ((gT_at g 1 .char rfl hK).1 n (fun j => .int (iI (f (j : Int))))) (fun q => by cases q) (by show ¬ (_ ∨ (arrV _ _ _).slots.size ≤ _); rw [arrV_size]; exact hin) (by show (arrV _ _ _).slots[_]? = _; rw [arrV_read _ _ hlt]) rfl rfl hd kk
theorem z_zald {g : Gt} {x : Xt} {M : MM} {d cs ss : Nat} {u : Nat × Nat × Nat} {h : AH} {pc : Nat} {lv : List (Nat × Value)} {st : List Value} {a n : Nat} {f : Int → Int} {i : Int} (hx : Ok g x M d cs ss) (hd : decode M.2.1 pc = .ok (.baload, 1)) (hc : h a = some (.inl (2, n, f))) (h0 : 0 ≤ i ∧ i < (n : Int)) (hn : n < 2147483648) (k : Zj g x u h (pc + 1) lv (.int (iI (f i)) :: st)) : Zj g x u h pc lv (.int (iI i) :: .ref a :: st) := by
  obtain ⟨p, e, R, s, m, args, below, meth, c, nL, Q⟩ := x
  obtain ⟨hx, hb, hml, hnL, hown, hts, hK, hlk, hnm, hrt, hfr, hlo, hcs, hss⟩ := hx
  intro H locs ls hW hz hu hS hl
  have h1 : va_at (gD g) clsL (a, toE g (.inl (2, n, f))) H := hW.at hc
  have hin : vp_in (iI i) n := iI_in h0.1 h0.2 (by omega)
  have hlt : (iI i).toNatClampNeg < n := Nat.not_le.mp fun q => hin (Or.inr q)
  have hi : (iI i).toNatClampNeg = i.toNat := iI_nat h0.1 h0.2 (by omega)
  have hv : iI (f (((iI i).toNatClampNeg : Nat) : Int)) = iI (f i) := by rw [hi, Int.toNat_of_nonneg h0.1]
  have kk := k H locs ls hW hz hu hS hl
  rw [← hv] at kk
  exact W.zald (v := .int (iI (f (((iI i).toNatClampNeg : Nat) : Int)))) hx hb h1 ((gT_at g 2 .boolean rfl hK).1 n (fun j => .int (iI (f (j : Int))))) (fun q => by cases q) (by show ¬ (_ ∨ (arrV _ _ _).slots.size ≤ _); rw [arrV_size]; exact hin) (by show (arrV _ _ _).slots[_]? = _; rw [arrV_read _ _ hlt]) rfl rfl hd kk
theorem z_aald {g : Gt} {x : Xt} {M : MM} {d cs ss : Nat} {u : Nat × Nat × Nat} {h : AH} {pc : Nat} {lv : List (Nat × Value)} {st : List Value} {a n r : Nat} {f : Int → Option Nat} {i : Int} (hx : Ok g x M d cs ss) (hd : decode M.2.1 pc = .ok (.aaload, 1)) (hc : h a = some (.inr (.inl (n, f)))) (h0 : 0 ≤ i ∧ i < (n : Int)) (hn : n < 2147483648) (hr : f i = some r) (k : Zj g x u h (pc + 1) lv (.ref r :: st)) : Zj g x u h pc lv (.int (iI i) :: .ref a :: st) := by
  obtain ⟨p, e, R, s, m, args, below, meth, c, nL, Q⟩ := x
  obtain ⟨hx, hb, hml, hnL, hown, hts, hK, hlk, hnm, hrt, hfr, hlo, hcs, hss⟩ := hx
  intro H locs ls hW hz hu hS hl
  have h1 : va_at (gD g) clsL (a, toE g (.inr (.inl (n, f)))) H := hW.at hc
  have hin : vp_in (iI i) n := iI_in h0.1 h0.2 (by omega)
  have hlt : (iI i).toNatClampNeg < n := Nat.not_le.mp fun q => hin (Or.inr q)
  have hi : (iI i).toNatClampNeg = i.toNat := iI_nat h0.1 h0.2 (by omega)
  have hv : va_rf (f (((iI i).toNatClampNeg : Nat) : Int)) = .ref r := by rw [hi, Int.toNat_of_nonneg h0.1, hr]; rfl
  have kk := k H locs ls hW hz hu hS hl
  rw [← hv] at kk
  exact W.aald (v := va_rf (f (((iI i).toNatClampNeg : Nat) : Int))) (ty := .object RX1) hx hb h1 ((gT_at g 3 (.object RX1) rfl hK).1 n (fun j => va_rf (f (j : Int)))) rfl (fun q => by cases q) (by show ¬ (_ ∨ (arrV _ _ _).slots.size ≤ _); rw [arrV_size]; exact hin) (by show (arrV _ _ _).slots[_]? = _; rw [arrV_read _ _ hlt]) rfl rfl hd kk
theorem z_iast {g : Gt} {x : Xt} {M : MM} {d cs ss : Nat} {u : Nat × Nat × Nat} {h : AH} {pc : Nat} {lv : List (Nat × Value)} {st : List Value} {a n : Nat} {f : Int → Int} {i v : Int} (hx : Ok g x M d cs ss) (hd : decode M.2.1 pc = .ok (.iastore, 1)) (hc : h a = some (.inl (0, n, f))) (h0 : 0 ≤ i ∧ i < (n : Int)) (hn : n < 2147483648) (k : Zj g x u (hup h a (.inl (0, n, fup f i v))) (pc + 1) lv st) : Zj g x u h pc lv (.int (iI v) :: .int (iI i) :: .ref a :: st) := by
  obtain ⟨p, e, R, s, m, args, below, meth, c, nL, Q⟩ := x
  obtain ⟨hx, hb, hml, hnL, hown, hts, hK, hlk, hnm, hrt, hfr, hlo, hcs, hss⟩ := hx
  intro H locs ls hW hz hu hS hl
  have hza : gz g ≤ a := (hW a _ hc).1
  have h1 : va_at (gD g) clsL (a, toE g (.inl (0, n, f))) H := hW.at hc
  have hin : vp_in (iI i) n := iI_in h0.1 h0.2 (by omega)
  have hi : (iI i).toNatClampNeg = i.toNat := iI_nat h0.1 h0.2 (by omega)
  refine W.iast hx hb h1 ((gT_at g 0 .int rfl hK).1 n (fun j => .int (iI (f (j : Int))))) (fun q => by cases q) (by show ¬ (_ ∨ (arrV _ _ _).slots.size ≤ _); rw [arrV_size]; exact hin) rfl rfl hd fun H1 e1 z oq => ?_
  refine k H1 _ ls (hW.up hza ?_ oq) (z.trans hz) hu (hS.put z oq hza) hl
  show H1[a]? = some (vp_cell _ _)
  rw [e1]
  show some ((arrV (gA g 0) n (fun j => .int (iI (f (j : Int))))).setSlot _ _) = some (arrV (gA g 0) n (fun j => .int (iI (fup f i v (j : Int)))))
  rw [arrV_store]
  congr 2
  funext q
  by_cases hq : (q : Int) = i
  · have : q = (iI i).toNatClampNeg := by rw [hi]; omega
    show updV _ _ _ q = .int (iI (if (q : Int) = i then v else f (q : Int)))
    rw [if_pos hq]; unfold updV; rw [if_pos this]
  · have : ¬ q = (iI i).toNatClampNeg := by rw [hi]; omega
    show updV _ _ _ q = .int (iI (if (q : Int) = i then v else f (q : Int)))
    rw [if_neg hq]; unfold updV; rw [if_neg this]
theorem z_cast {g : Gt} {x : Xt} {M : MM} {d cs ss : Nat} {u : Nat × Nat × Nat} {h : AH} {pc : Nat} {lv : List (Nat × Value)} {st : List Value} {a n : Nat} {f : Int → Int} {i v : Int} (hx : Ok g x M d cs ss) (hd : decode M.2.1 pc = .ok (.castore, 1)) (hc : h a = some (.inl (1, n, f))) (h0 : 0 ≤ i ∧ i < (n : Int)) (hn : n < 2147483648) (hnar : narrow .char (.int (iI v)) = .int (iI v)) (k : Zj g x u (hup h a (.inl (1, n, fup f i v))) (pc + 1) lv st) : Zj g x u h pc lv (.int (iI v) :: .int (iI i) :: .ref a :: st) := by
  obtain ⟨p, e, R, s, m, args, below, meth, c, nL, Q⟩ := x
  obtain ⟨hx, hb, hml, hnL, hown, hts, hK, hlk, hnm, hrt, hfr, hlo, hcs, hss⟩ := hx
  intro H locs ls hW hz hu hS hl
  have hza : gz g ≤ a := (hW a _ hc).1
  have h1 : va_at (gD g) clsL (a, toE g (.inl (1, n, f))) H := hW.at hc
  have hin : vp_in (iI i) n := iI_in h0.1 h0.2 (by omega)
  have hi : (iI i).toNatClampNeg = i.toNat := iI_nat h0.1 h0.2 (by omega)
  refine W.cast hx hb h1 ((gT_at g 1 .char rfl hK).1 n (fun j => .int (iI (f (j : Int))))) (fun q => by cases q) (by show ¬ (_ ∨ (arrV _ _ _).slots.size ≤ _); rw [arrV_size]; exact hin) rfl rfl hd fun H1 e1 z oq => ?_
  refine k H1 _ ls (hW.up hza ?_ oq) (z.trans hz) hu (hS.put z oq hza) hl
  show H1[a]? = some (vp_cell _ _)
  rw [e1, hnar]
  show some ((arrV (gA g 1) n (fun j => .int (iI (f (j : Int))))).setSlot _ _) = some (arrV (gA g 1) n (fun j => .int (iI (fup f i v (j : Int)))))
  rw [arrV_store]
  congr 2
  funext q
  by_cases hq : (q : Int) = i
  · have : q = (iI i).toNatClampNeg := by rw [hi]; omega
    show updV _ _ _ q = .int (iI (if (q : Int) = i then v else f (q : Int)))
    rw [if_pos hq]; unfold updV; rw [if_pos this]
  · have : ¬ q = (iI i).toNatClampNeg := by rw [hi]; omega
    show updV _ _ _ q = .int (iI (if (q : Int) = i then v else f (q : Int)))
    rw [if_neg hq]; unfold updV; rw [if_neg this]
theorem z_zast {g : Gt} {x : Xt} {M : MM} {d cs ss : Nat} {u : Nat × Nat × Nat} {h : AH} {pc : Nat} {lv : List (Nat × Value)} {st : List Value} {a n : Nat} {f : Int → Int} {i v : Int} (hx : Ok g x M d cs ss) (hd : decode M.2.1 pc = .ok (.bastore, 1)) (hc : h a = some (.inl (2, n, f))) (h0 : 0 ≤ i ∧ i < (n : Int)) (hn : n < 2147483648) (hnar : narrow .boolean (.int (iI v)) = .int (iI v)) (k : Zj g x u (hup h a (.inl (2, n, fup f i v))) (pc + 1) lv st) : Zj g x u h pc lv (.int (iI v) :: .int (iI i) :: .ref a :: st) := by
  obtain ⟨p, e, R, s, m, args, below, meth, c, nL, Q⟩ := x
  obtain ⟨hx, hb, hml, hnL, hown, hts, hK, hlk, hnm, hrt, hfr, hlo, hcs, hss⟩ := hx
  intro H locs ls hW hz hu hS hl
  have hza : gz g ≤ a := (hW a _ hc).1
  have h1 : va_at (gD g) clsL (a, toE g (.inl (2, n, f))) H := hW.at hc
  have hin : vp_in (iI i) n := iI_in h0.1 h0.2 (by omega)
  have hi : (iI i).toNatClampNeg = i.toNat := iI_nat h0.1 h0.2 (by omega)
  refine W.zast hx hb h1 ((gT_at g 2 .boolean rfl hK).1 n (fun j => .int (iI (f (j : Int))))) (fun q => by cases q) (by show ¬ (_ ∨ (arrV _ _ _).slots.size ≤ _); rw [arrV_size]; exact hin) rfl rfl hd fun H1 e1 z oq => ?_
  refine k H1 _ ls (hW.up hza ?_ oq) (z.trans hz) hu (hS.put z oq hza) hl
  show H1[a]? = some (vp_cell _ _)
  rw [e1, hnar]
  show some ((arrV (gA g 2) n (fun j => .int (iI (f (j : Int))))).setSlot _ _) = some (arrV (gA g 2) n (fun j => .int (iI (fup f i v (j : Int)))))
  rw [arrV_store]
  congr 2
  funext q
  by_cases hq : (q : Int) = i
  · have : q = (iI i).toNatClampNeg := by rw [hi]; omega
    show updV _ _ _ q = .int (iI (if (q : Int) = i then v else f (q : Int)))
    rw [if_pos hq]; unfold updV; rw [if_pos this]
  · have : ¬ q = (iI i).toNatClampNeg := by rw [hi]; omega
    show updV _ _ _ q = .int (iI (if (q : Int) = i then v else f (q : Int)))
    rw [if_neg hq]; unfold updV; rw [if_neg this]
theorem z_aast {g : Gt} {x : Xt} {M : MM} {d cs ss : Nat} {u : Nat × Nat × Nat} {h : AH} {pc : Nat} {lv : List (Nat × Value)} {st : List Value} {a n r ci : Nat} {f : Int → Option Nat} {fs : List Value} {i : Int} (hx : Ok g x M d cs ss) (hd : decode M.2.1 pc = .ok (.aastore, 1)) (hc : h a = some (.inr (.inl (n, f)))) (h0 : 0 ≤ i ∧ i < (n : Int)) (hn : n < 2147483648) (hr : h r = some (.inr (.inr (1, fs)))) (k : Zj g x u (hup h a (.inr (.inl (n, fun q => if q = i then some r else f q)))) (pc + 1) lv st) : Zj g x u h pc lv (.ref r :: .int (iI i) :: .ref a :: st) := by
  obtain ⟨p, e, R, s, m, args, below, meth, c, nL, Q⟩ := x
  obtain ⟨hx, hb, hml, hnL, hown, hts, hK, hlk, hnm, hrt, hfr, hlo, hcs, hss⟩ := hx
  intro H locs ls hW hz hu hS hl
  have hza : gz g ≤ a := (hW a _ hc).1
  have h1 : va_at (gD g) clsL (a, toE g (.inr (.inl (n, f)))) H := hW.at hc
  have hin : vp_in (iI i) n := iI_in h0.1 h0.2 (by omega)
  have hlt : (iI i).toNatClampNeg < n := Nat.not_le.mp fun q => hin (Or.inr q)
  have hneg : ¬ iI i < 0 := fun q => hin (Or.inl q)
  have hi : (iI i).toNatClampNeg = i.toNat := iI_nat h0.1 h0.2 (by omega)
  obtain ⟨r', hr', cellV, g1, g2, g3, -⟩ := hW.at hr
  have hcl1 : r' = (RX1, TX1, 13) := Option.some.inj (hr'.symm.trans rfl)
  subst hcl1
  have hcls := (hK.1.1 1 (RX1, TX1, 13) rfl).2
  obtain ⟨kA, comp, k1, k2, k3, -⟩ := (gT_at g 3 (.object RX1) rfl hK).2
  have hcomp : comp = (gD g).1 1 := Option.some.inj (k3.symm.trans hcls.1)
  subst hcomp
  obtain ⟨kC, hkC, -⟩ := hcls.2
  refine W.aast hx hb h1 (fun q h => by cases h) (fun h => by cases h) k1 k2 rfl hkC ⟨hneg, by show _ < (arrV _ _ _).slots.size; rw [arrV_size]; exact hlt⟩ g1 (fun q h => by rw [g3] at h; cases h) (by rw [g2]; exact hkC) (by rw [g2]; exact va_assign hcls) rfl rfl hd fun H1 e1 z oq => ?_
  refine k H1 _ ls (hW.up hza ?_ oq) (z.trans hz) hu (hS.put z oq hza) hl
  show H1[a]? = some (vp_cell _ _)
  rw [e1]
  show some ((arrV (gA g 3) n (fun j => va_rf (f (j : Int)))).setSlot _ _) = some (arrV (gA g 3) n (fun j => va_rf (if (j : Int) = i then some r else f (j : Int))))
  rw [arrV_store]
  congr 2
  funext q
  by_cases hq : (q : Int) = i
  · have : q = (iI i).toNatClampNeg := by rw [hi]; omega
    show updV _ _ _ q = va_rf (if (q : Int) = i then some r else f (q : Int))
    rw [if_pos hq]; unfold updV; rw [if_pos this]; rfl
  · have : ¬ q = (iI i).toNatClampNeg := by rw [hi]; omega
    show updV _ _ _ q = va_rf (if (q : Int) = i then some r else f (q : Int))
    rw [if_neg hq]; unfold updV; rw [if_neg this]
theorem z_copy {g : Gt} {x : Xt} {M : MM} {d cs ss : Nat} {u : Nat × Nat × Nat} {h : AH} {pc : Nat} {lv : List (Nat × Value)} {st : List Value} {idx a0 a n0 n1 : Nat} {f0 f1 : Int → Int} {sp dp n : Int} (hx : Ok g x M d cs ss) (hd : decode M.2.1 pc = .ok (.invokestatic idx, 3)) (hk : Cond.methodLink M.1.cls idx arraycopyName ∈ lw_tbl) (hc0 : h a0 = some (.inl (0, n0, f0))) (hc1 : h a = some (.inl (0, n1, f1))) (h1 : 0 ≤ sp ∧ sp + n ≤ (n0 : Int)) (h2 : 0 ≤ dp ∧ dp + n ≤ (n1 : Int)) (h3 : 0 ≤ n) (h4 : n0 < 2147483648 ∧ n1 < 2147483648) (hd1 : 1 ≤ d) (hsum : (st.map fun v => v.category).sum ≤ 8) (k : Zj g x u (hup h a (.inl (0, n1, fcp f0 f1 sp dp n))) (pc + 3) lv st) : Zj g x u h pc lv (.int (iI n) :: .int (iI dp) :: .ref a :: .int (iI sp) :: .ref a0 :: st) := by
  obtain ⟨p, e, R, s, m, args, below, meth, c, nL, Q⟩ := x
  obtain ⟨hx, hb, hml, hnL, hown, hts, hK, hlk, hnm, hrt, hfr, hlo, hcs, hss⟩ := hx
  intro H locs ls hW hz hu hS hl
  have hza : gz g ≤ a := (hW a _ hc1).1
  have g0 : H[a0]? = some (vp_cell (gA g 0) (n0, .inl (fun j : Nat => iI (f0 (j : Int))))) := hW.at hc0
  have g1 : H[a]? = some (vp_cell (gA g 0) (n1, .inl (fun j : Nat => iI (f1 (j : Int))))) := hW.at hc1
  have esp : (iI sp).toNatClampNeg = sp.toNat := by show (iI sp).toInt.toNat = _; rw [iI_toInt ⟨by omega, by omega⟩]
  have edp : (iI dp).toNatClampNeg = dp.toNat := by show (iI dp).toInt.toNat = _; rw [iI_toInt ⟨by omega, by omega⟩]
  have en : (iI n).toNatClampNeg = n.toNat := by show (iI n).toInt.toNat = _; rw [iI_toInt ⟨by omega, by omega⟩]
  have ns : ¬ iI sp < 0 := by rw [i0, iI_lt ⟨by omega, by omega⟩ (by decide)]; omega
  have nd : ¬ iI dp < 0 := by rw [i0, iI_lt ⟨by omega, by omega⟩ (by decide)]; omega
  have nn : ¬ iI n < 0 := by rw [i0, iI_lt ⟨by omega, by omega⟩ (by decide)]; omega
  obtain ⟨-, k0, hk0, cm0, hkk0⟩ := (gT_at g 0 .int rfl hK).1 n0 (fun j => .int (iI (f0 (j : Int))))
  obtain ⟨-, k1, hk1, cm1, hkk1⟩ := (gT_at g 0 .int rfl hK).1 n1 (fun j => .int (iI (f1 (j : Int))))
  intro T hT X
  obtain ⟨vm', X', step⟩ := X.arraycopy hx hown (hts _ (mg hk rfl)) (hts _ (mg wt_native rfl)) (hts _ (mg wt_arraycopy rfl)) (hts _ (mg wi_RJ10 rfl)) (src := a0) (dst := a) (cs := vp_cell (gA g 0) (n0, .inl (fun j : Nat => iI (f0 (j : Int))))) (cd := vp_cell (gA g 0) (n1, .inl (fun j : Nat => iI (f1 (j : Int))))) (srcPos := iI sp) (destPos := iI dp) (n := iI n) (by rw [hT]; exact g0) (by rw [hT]; exact g1)
    (fun _ h => by cases h) (fun _ h => by cases h) (fun h => by cases h) (fun h => by cases h) hk0 hk1 hkk0 hkk1 (by simp) ns nd nn
    (by rw [iI_toInt ⟨by omega, by omega⟩, iI_toInt ⟨by omega, by omega⟩]; show ¬ _ > ((arrV (gA g 0) n0 (fun j => .int (iI (f0 (j : Int))))).slots.size : Int); rw [arrV_size]; omega)
    (by rw [iI_toInt ⟨by omega, by omega⟩, iI_toInt ⟨by omega, by omega⟩]; show ¬ _ > ((arrV (gA g 0) n1 (fun j => .int (iI (f1 (j : Int))))).slots.size : Int); rw [arrV_size]; omega)
    (fun vm₁ _ i hi => by
      have e : (vp_cell (gA g 0) (n0, .inl (fun j : Nat => iI (f0 (j : Int))))).slots.getD ((iI sp).toNatClampNeg + i) .null = .int (iI (f0 ((((iI sp).toNatClampNeg + i : Nat)) : Int))) := by
        show (arrV (gA g 0) n0 (fun j => .int (iI (f0 (j : Int))))).slots.getD _ _ = _
        rw [Array.getD_eq_getD_getElem?, arrV_read _ _ (by rw [esp]; rw [en] at hi; omega)]
        rfl
      refine ⟨?_, ?_⟩
      · rw [e]
        rfl
      · rw [e]
        exact trivial)
    (g := F0 m pc ls (.int (iI n) :: .int (iI dp) :: .ref a :: .int (iI sp) :: .ref a0 :: st)) rfl (by rw [hml, ← hl.1]) (rest := st) rfl (by rw [hb]; exact hd) (by omega) (by
      have e5 : nativeFrameWords "java/lang/System" "arraycopy" 5 ≤ 40 := by decide +kernel
      show 2 * 0 + _ + _ ≤ _; omega)
  have e1 : copied (vp_cell (gA g 0) (n0, .inl (fun j : Nat => iI (f0 (j : Int))))) (vp_cell (gA g 0) (n1, .inl (fun j : Nat => iI (f1 (j : Int))))) (iI sp) (iI dp) (iI n) = vp_cell (gA g 0) (n1, .inl (va_cpy (fun j : Nat => iI (f0 (j : Int))) (fun j : Nat => iI (f1 (j : Int))) (iI sp).toNatClampNeg (iI dp).toNatClampNeg (iI n).toNatClampNeg)) := va_copied (fun z => .int z) (gA g 0) (gA g 0) (fun j : Nat => iI (f0 (j : Int))) (fun j : Nat => iI (f1 (j : Int))) (show (iI sp).toNatClampNeg + (iI n).toNatClampNeg ≤ n0 by rw [esp, en]; omega)
  have e2 : va_cpy (fun j : Nat => iI (f0 (j : Int))) (fun j : Nat => iI (f1 (j : Int))) (iI sp).toNatClampNeg (iI dp).toNatClampNeg (iI n).toNatClampNeg = fun j : Nat => iI (fcp f0 f1 sp dp n (j : Int)) := by
    funext j
    rw [esp, edp, en]
    by_cases hj : dp ≤ (j : Int) ∧ (j : Int) < dp + n
    · rw [pk_cpy_in (by omega) (by omega)]
      simp only [fcp, if_pos hj]
      congr 2
      omega
    · rw [pk_cpy_out (by omega)]
      simp only [fcp, if_neg hj]
  rw [e1, e2] at X' step
  have hl9 : a < H.size := (Array.getElem?_eq_some_iff.mp g1).1
  generalize hN : vp_cell (gA g 0) (n1, .inl (fun j : Nat => iI (fcp f0 f1 sp dp n (j : Int)))) = N at X' step
  have hheap : ((T.setVm vm').setCell a N).heap = H.setIfInBounds a N := by rw [← hT]; rfl
  have oq : ∀ q : Nat, q ≠ a → (H.setIfInBounds a N)[q]? = H[q]? := fun q hq => by simp [Array.getElem?_setIfInBounds, Ne.symm hq]
  obtain ⟨t, a1, b1⟩ := k (H.setIfInBounds a N) _ ls (hW.up hza (show (H.setIfInBounds a N)[a]? = some (vp_cell _ _) by simp only [toE]; rw [hN]; simp [Array.getElem?_setIfInBounds, hl9]) oq) (by simp; exact hz) hu ⟨by simp; exact hS.1, fun q g1 g2 => by
      rw [oq q (fun e => g2 (by rw [e]; exact hza))]
      exact hS.2.1 q g1 g2, fun q hq => by
      rcases List.mem_append.mp hq with h | h
      · exact hS.2.2 q h
      · obtain ⟨z, -, hz⟩ := List.mem_map.mp h
        rw [← hz]
        exact hza⟩ hl _ hheap X'
  exact ⟨t, step t a1, b1⟩
theorem z_new {g : Gt} {x : Xt} {M : MM} {d cs ss : Nat} {u : Nat × Nat × Nat} {h : AH} {pc : Nat} {lv : List (Nat × Value)} {st : List Value} {idx ci N : Nat} {C : String} {T : u_T} {ty0 : Nat → FieldType} {fs : List Value} (hx : Ok g x M d cs ss) (hd : decode M.2.1 pc = .ok (.new idx, 3)) (hcl : Cond.classLink M.1.cls idx C ∈ lw_tbl) (hin : Cond.instantiable C N ∈ lw_tbl) (hini : Cond.initialized C ∈ lw_tbl) (f1 : clsL[ci]? = some (C, T, N)) (f3 : ∀ w ∈ u_ws C T N, w ∈ lw_good) (f4 : ∀ k, k < N → parseFieldDescriptor (T k).2.2.1 = some (ty0 k)) (hfs : ∀ j, j < N → defaultValue (ty0 j) = vp_V fs j) (hr : u.2.1 + 1 ≤ cs ∧ u.2.2 + N ≤ ss) (k : Zj g x (u.1 + 1, u.2.1 + 1, u.2.2 + N) (hup h u.1 (.inr (.inr (ci, fs)))) (pc + 3) lv (.ref u.1 :: st)) : Zj g x u h pc lv st := by
  obtain ⟨p, e, R, s, m, args, below, meth, c, nL, Q⟩ := x
  obtain ⟨hx, hb, hml, hnL, hown, hts, hK, hlk, hnm, hrt, hfr, hlo, hcs, hss⟩ := hx
  intro H locs ls hW hz hu hS hl
  have hKn := hK.1.1 ci _ f1
  refine W.newcK hx hb hown (hts _ (mg hcl rfl)) (hts _ (mg hin rfl)) (hts _ (mg hini rfl)) rfl hd (by omega) (by omega) hKn.2.1 hz fun H1 kC hkC e1 z1 o1 => ?_
  have hgz : gz g ≤ u.1 := by rw [← hz]; exact Nat.le_trans hK.2.2.1 hS.1
  refine k H1 locs ls (hW.push hgz hz ⟨_, f1, (u_born ty0 hts f3 hKn hkC e1 f4).to hfs⟩ o1) z1 ⟨by show u.2.1 + 1 ≤ _; omega, by show u.2.2 + N ≤ _; omega⟩ ⟨Nat.le_trans hS.1 (by omega), fun q h1 h2 => (o1 q (by rw [← hz]; exact Nat.lt_of_lt_of_le h1 hS.1)).trans (hS.2.1 q h1 h2), hS.2.2⟩ hl
theorem z_newai {g : Gt} {x : Xt} {M : MM} {d cs ss : Nat} {u : Nat × Nat × Nat} {h : AH} {pc : Nat} {lv : List (Nat × Value)} {st : List Value} {n : Nat} {e0 : Int} (hx : Ok g x M d cs ss) (hd : decode M.2.1 pc = .ok (.newarray .int, 2)) (hn : n < 100000) (he : e0 = (n : Int)) (hr : u.2.1 + 1 ≤ cs ∧ u.2.2 + n ≤ ss) (k : Zj g x (u.1 + 1, u.2.1 + 1, u.2.2 + n) (hup h u.1 (.inl (0, n, fun _ => 0))) (pc + 2) lv (.ref u.1 :: st)) : Zj g x u h pc lv (.int (iI e0) :: st) := by
  obtain ⟨p, e, R, s, m, args, below, meth, c, nL, Q⟩ := x
  obtain ⟨hx, hb, hml, hnL, hown, hts, hK, hlk, hnm, hrt, hfr, hlo, hcs, hss⟩ := hx
  intro H locs ls hW hz hu hS hl
  have hgz : gz g ≤ u.1 := by rw [← hz]; exact Nat.le_trans hK.2.2.1 hS.1
  have hcn : (iI e0).toNatClampNeg = n := by show (iI e0).toInt.toNat = n; rw [iI_toInt ⟨by omega, by omega⟩]; omega
  have hng : ¬ iI e0 < 0 := by rw [i0, iI_lt ⟨by omega, by omega⟩ (by decide)]; omega
  refine va_newaK (atype := .int) hx hb (hts _ (mg wa_int rfl)) rfl hd rfl hng hcn (by show n * 4 ≤ _; omega) (by omega) (by omega) hz fun H1 cA e1 z1 o1 hAr hNm => ?_
  have hcA : cA = gA g 0 := by
    have h9 := (gT_at g 0 .int rfl hK).2
    exact Option.some.inj (hNm.symm.trans h9)
  subst hcA
  exact k H1 locs ls (hW.push hgz hz e1 o1) z1 ⟨by show u.2.1 + 1 ≤ _; omega, by show u.2.2 + n ≤ _; omega⟩ ⟨Nat.le_trans hS.1 (by omega), fun q h1 h2 => (o1 q (by rw [← hz]; exact Nat.lt_of_lt_of_le h1 hS.1)).trans (hS.2.1 q h1 h2), hS.2.2⟩ hl
theorem z_newac {g : Gt} {x : Xt} {M : MM} {d cs ss : Nat} {u : Nat × Nat × Nat} {h : AH} {pc : Nat} {lv : List (Nat × Value)} {st : List Value} {n : Nat} {e0 : Int} (hx : Ok g x M d cs ss) (hd : decode M.2.1 pc = .ok (.newarray .char, 2)) (hn : n < 100000) (he : e0 = (n : Int)) (hr : u.2.1 + 1 ≤ cs ∧ u.2.2 + n ≤ ss) (k : Zj g x (u.1 + 1, u.2.1 + 1, u.2.2 + n) (hup h u.1 (.inl (1, n, fun _ => 0))) (pc + 2) lv (.ref u.1 :: st)) : Zj g x u h pc lv (.int (iI e0) :: st) := by
  obtain ⟨p, e, R, s, m, args, below, meth, c, nL, Q⟩ := x
  obtain ⟨hx, hb, hml, hnL, hown, hts, hK, hlk, hnm, hrt, hfr, hlo, hcs, hss⟩ := hx
  intro H locs ls hW hz hu hS hl
  have hgz : gz g ≤ u.1 := by rw [← hz]; exact Nat.le_trans hK.2.2.1 hS.1
  have hcn : (iI e0).toNatClampNeg = n := by show (iI e0).toInt.toNat = n; rw [iI_toInt ⟨by omega, by omega⟩]; omega
  have hng : ¬ iI e0 < 0 := by rw [i0, iI_lt ⟨by omega, by omega⟩ (by decide)]; omega
  refine va_newaK (atype := .char) hx hb (hts _ (mg wa_char rfl)) rfl hd rfl hng hcn (by show n * 2 ≤ _; omega) (by omega) (by omega) hz fun H1 cA e1 z1 o1 hAr hNm => ?_
  have hcA : cA = gA g 1 := by
    have h9 := (gT_at g 1 .char rfl hK).2
    exact Option.some.inj (hNm.symm.trans h9)
  subst hcA
  exact k H1 locs ls (hW.push hgz hz e1 o1) z1 ⟨by show u.2.1 + 1 ≤ _; omega, by show u.2.2 + n ≤ _; omega⟩ ⟨Nat.le_trans hS.1 (by omega), fun q h1 h2 => (o1 q (by rw [← hz]; exact Nat.lt_of_lt_of_le h1 hS.1)).trans (hS.2.1 q h1 h2), hS.2.2⟩ hl
theorem z_newaz {g : Gt} {x : Xt} {M : MM} {d cs ss : Nat} {u : Nat × Nat × Nat} {h : AH} {pc : Nat} {lv : List (Nat × Value)} {st : List Value} {n : Nat} {e0 : Int} (hx : Ok g x M d cs ss) (hd : decode M.2.1 pc = .ok (.newarray .boolean, 2)) (hn : n < 100000) (he : e0 = (n : Int)) (hr : u.2.1 + 1 ≤ cs ∧ u.2.2 + n ≤ ss) (k : Zj g x (u.1 + 1, u.2.1 + 1, u.2.2 + n) (hup h u.1 (.inl (2, n, fun _ => 0))) (pc + 2) lv (.ref u.1 :: st)) : Zj g x u h pc lv (.int (iI e0) :: st) := by
  obtain ⟨p, e, R, s, m, args, below, meth, c, nL, Q⟩ := x
  obtain ⟨hx, hb, hml, hnL, hown, hts, hK, hlk, hnm, hrt, hfr, hlo, hcs, hss⟩ := hx
  intro H locs ls hW hz hu hS hl
  have hgz : gz g ≤ u.1 := by rw [← hz]; exact Nat.le_trans hK.2.2.1 hS.1
  have hcn : (iI e0).toNatClampNeg = n := by show (iI e0).toInt.toNat = n; rw [iI_toInt ⟨by omega, by omega⟩]; omega
  have hng : ¬ iI e0 < 0 := by rw [i0, iI_lt ⟨by omega, by omega⟩ (by decide)]; omega
  refine va_newaK (atype := .boolean) hx hb (hts _ (mg wa_boolean rfl)) rfl hd rfl hng hcn (by show n * 1 ≤ _; omega) (by omega) (by omega) hz fun H1 cA e1 z1 o1 hAr hNm => ?_
  have hcA : cA = gA g 2 := by
    have h9 := (gT_at g 2 .boolean rfl hK).2
    exact Option.some.inj (hNm.symm.trans h9)
  subst hcA
  exact k H1 locs ls (hW.push hgz hz e1 o1) z1 ⟨by show u.2.1 + 1 ≤ _; omega, by show u.2.2 + n ≤ _; omega⟩ ⟨Nat.le_trans hS.1 (by omega), fun q h1 h2 => (o1 q (by rw [← hz]; exact Nat.lt_of_lt_of_le h1 hS.1)).trans (hS.2.1 q h1 h2), hS.2.2⟩ hl
theorem z_newq {g : Gt} {x : Xt} {M : MM} {d cs ss : Nat} {u : Nat × Nat × Nat} {h : AH} {pc : Nat} {lv : List (Nat × Value)} {st : List Value} {idx n : Nat} {e0 : Int} (hx : Ok g x M d cs ss) (hd : decode M.2.1 pc = .ok (.anewarray idx, 3)) (hcl : Cond.classLink M.1.cls idx RX1 ∈ lw_tbl) (hn : n < 100000) (he : e0 = (n : Int)) (hr : u.2.1 + 1 ≤ cs ∧ u.2.2 + n ≤ ss) (k : Zj g x (u.1 + 1, u.2.1 + 1, u.2.2 + n) (hup h u.1 (.inr (.inl (n, fun _ => none)))) (pc + 3) lv (.ref u.1 :: st)) : Zj g x u h pc lv (.int (iI e0) :: st) := by
  obtain ⟨p, e, R, s, m, args, below, meth, c, nL, Q⟩ := x
  obtain ⟨hx, hb, hml, hnL, hown, hts, hK, hlk, hnm, hrt, hfr, hlo, hcs, hss⟩ := hx
  intro H locs ls hW hz hu hS hl
  have hgz : gz g ≤ u.1 := by rw [← hz]; exact Nat.le_trans hK.2.2.1 hS.1
  have hcn : (iI e0).toNatClampNeg = n := by show (iI e0).toInt.toNat = n; rw [iI_toInt ⟨by omega, by omega⟩]; omega
  have hng : ¬ iI e0 < 0 := by rw [i0, iI_lt ⟨by omega, by omega⟩ (by decide)]; omega
  refine W.anew hx hb hown (hts _ (mg hcl rfl)) (va_AO.use hK.2.2.2.1) rfl hd rfl hng (by rw [hcn]; omega) (by omega) (by rw [hcn]; omega) fun cA kA comp f1 f2 f3 f4 => ?_
  rw [hcn]
  obtain ⟨kA9, comp9, -, -, -, h9⟩ := (gT_at g 3 (.object RX1) rfl hK).2
  have hcA : cA = gA g 3 := Option.some.inj (f1.symm.trans h9)
  subst hcA
  rw [hz]
  generalize hH1 : H.push ({ cls := gA g 3, slots := Array.replicate n .null, vm := .none } : Cell) = H1
  have z1 : H1.size = u.1 + 1 := by rw [← hH1, Array.size_push, hz]
  have e1 : H1[u.1]? = some (arrV (gA g 3) n (fun _ => .null)) := by rw [← hH1, ← hz, Array.getElem?_push_size, ← arrV_new]
  have o1 : ∀ q : Nat, q < u.1 → H1[q]? = H[q]? := fun q hq => by rw [← hH1, Array.getElem?_push, if_neg (by rw [hz]; exact Nat.ne_of_lt hq)]
  exact k H1 locs ls (hW.push hgz hz e1 o1) z1 ⟨by show u.2.1 + 1 ≤ _; omega, by show u.2.2 + n ≤ _; omega⟩ ⟨Nat.le_trans hS.1 (by omega), fun q h1 h2 => (o1 q (by rw [← hz]; exact Nat.lt_of_lt_of_le h1 hS.1)).trans (hS.2.1 q h1 h2), hS.2.2⟩ hl
theorem z_objinit {g : Gt} {x : Xt} {M : MM} {d cs ss : Nat} {u : Nat × Nat × Nat} {h : AH} {pc : Nat} {lv : List (Nat × Value)} {st : List Value} {idx a : Nat} (hx : Ok g x M d cs ss) (hd : decode M.2.1 pc = .ok (.invokespecial idx, 3)) (hk : Cond.methodLink M.1.cls idx objectInit ∈ lw_tbl) (hd1 : 1 ≤ d) (hsum : (st.map fun v => v.category).sum ≤ 8) (k : Zj g x u h (pc + 3) lv st) : Zj g x u h pc lv (.ref a :: st) := by
  obtain ⟨p, e, R, s, m, args, below, meth, c, nL, Q⟩ := x
  obtain ⟨hx, hb, hml, hnL, hown, hts, hK, hlk, hnm, hrt, hfr, hlo, hcs, hss⟩ := hx
  intro H locs ls hW hz hu hS hl
  refine W.objInit hx hb hown (hts _ (mg hk rfl)) (hts _ (mg wm_object rfl)) (hts _ (mg wc_object rfl)) rfl (by rw [hml]; exact hl.1) rfl hd (by omega) (by show 2 * 0 + _ + 12 ≤ _; omega) ?_
  exact k H locs ls hW hz hu hS hl
theorem run_go {g : Gt} {p : Program} {e : Env} {R : Room} {s : State} {m : MethodId} {args : Array Value} {below : List Frame} {meth : Method} {c : Code} {H : Heap} {locs : List Loc} {cells slots mc ms : Nat} {Q : State → Prop} {pc : Nat} {ls : Array Slot} {st0 rest : List Value} {Qr : Option Value → AH → Nat → Prop} {a : Array Value}
    (hr : va_Run p (gl g) e R s m args below meth c H locs cells slots mc ms (F0 m pc ls st0) rest (Qof g Qr a) (gF g)) (hS : va_S (gF g) s.heap H locs)
    (kk : ∀ (v : Option Value) (h' : AH) (H1 : Heap) (locs1 : List Loc), Qr v h' H1.size → WR g h' H1 → va_S (gF g) s.heap H1 locs1 → W p (gl g) e R s m args below meth c H1 locs1 (cells + mc) (slots + ms) Q (F0 m (pc + 3) ls (v.toList ++ rest))) : W p (gl g) e R s m args below meth c H locs cells slots Q (F0 m pc ls st0) := by
  intro T hT X
  obtain ⟨v, st₀, t, T', L, h0, X', hL, e1, e2, ⟨⟨r, h', hv, hq, hw⟩, hz, hk⟩, st⟩ := hr T hT X
  cases hv
  rw [h0] at hz hk
  obtain ⟨t2, a1, b1⟩ := kk v h' T'.heap (locs ++ L) (by rw [e1]; exact hq) (by rw [e1]; exact hw)
    ⟨Nat.le_trans hS.1 (by rw [e1]; exact hz), fun q h1 h2 => by rw [e1, hk q (Nat.lt_of_lt_of_le h1 hS.1) h2]; exact hS.2.1 q h1 h2, fun q hq => by
      rcases List.mem_append.mp hq with h | h
      · exact hS.2.2 q h
      · exact hL q h⟩ T' rfl X'
  exact ⟨t2, st t2 a1, b1⟩
def MoC (M : MM) (n : Nat) : Prop := Cond.initialized M.1.cls ∈ lw_tbl ∧ Cond.code M.1 M.2.1 M.2.2.1 M.2.2.2 ∈ lw_tbl ∧ (M.1.cls ≠ "java/lang/invoke/MethodHandle" ∧ M.1.cls ≠ "java/lang/invoke/VarHandle" ∧ (parseMethodDescriptor M.1.desc).map (fun d => d.parameters.length) = some n) ∧ M.2.2.1 ≤ 40
def Lnk (own : String) (idx : Nat) (M : MM) : Prop := Cond.methodLink own idx M.1 ∈ lw_tbl ∨ ∃ host, Cond.methodLinkNest own idx M.1 host ∈ lw_tbl
theorem good_ws (M : MM) (hc : Cond.code M.1 M.2.1 M.2.2.1 M.2.2.2 ∈ lw_tbl) : GoodIn lw_good (wsM M) := by
  intro w hw
  rcases List.mem_cons.mp hw with rfl | hw
  · exact ⟨mg hc rfl, good_of_word rfl⟩
  · exact ⟨hw, good_of_word (List.mem_filter.mp hw).2⟩
theorem pc_blind {g : Gt} {as : List Value} {h : AH} {sz : Nat} : FrameBlind (va_Pc as (fun U => WR g h U.heap ∧ U.heap.size = sz ∧ KK g U)) := by
  intro a U fr mk q
  obtain ⟨q0, q1, q2, q3⟩ := q
  exact ⟨q0, q1, q2, KK.same (u := U) (U := U.calling fr mk a) rfl rfl q3⟩
def Rcv (g : Gt) (x : Xt) (h : AH) (b : Nat) (C : String) : Prop := match x with
  | (p, e, R, s, m, args, below, meth, c, nL, Q) => ∀ (H : Heap) (locs : List Loc), WR g h H → va_S (gF g) s.heap H locs → ∃ cellB : Cell, H[b]? = some cellB ∧ cellB.vm.isStatics = false ∧ s.vm.findClass C = some cellB.cls
theorem rcv_obj {g : Gt} {x : Xt} {M : MM} {d cs ss : Nat} {h : AH} {b ci : Nat} {fs : List Value} {C : String} {T : u_T} {N : Nat} (hx : Ok g x M d cs ss) (hc : h b = some (.inr (.inr (ci, fs)))) (f1 : clsL[ci]? = some (C, T, N)) : Rcv g x h b C := by
  obtain ⟨p, e, R, s, m, args, below, meth, c, nL, Q⟩ := x
  obtain ⟨hx, hb, hml, hnL, hown, hts, hK, hlk, hnm, hrt, hfr, hlo, hcs, hss⟩ := hx
  intro H locs hW hS
  obtain ⟨q', h1, cell, g1, g2, g3, -⟩ := hW.at hc
  have hr : q' = (C, T, N) := Option.some.inj (h1.symm.trans f1)
  subst hr
  exact ⟨cell, g1, by rw [g3]; rfl, by rw [g2]; exact (hK.1.1 ci _ f1).2.1⟩

theorem z_callS {g : Gt} {x : Xt} {M : MM} {d cs ss : Nat} {u : Nat × Nat × Nat} {h : AH} {pc : Nat} {lv : List (Nat × Value)} {st : List Value} {M' : MM} {d' idx n mc ms : Nat} {as rest : List Value} {Qr : Option Value → AH → Nat → Prop} (hx : Ok g x M d cs ss) (hd : decode M.2.1 pc = .ok (.invokestatic idx, 3)) (hk : Lnk M.1.cls idx M') (hs : Cond.static M'.1 ∈ lw_tbl) (hm : MoC M' n) (hc : Cna g M' d' as h u.1 mc ms Qr) (hdd : d' < d) (hroom : (mc = 0 ∧ ms = 0) ∨ (u.2.1 + mc ≤ cs ∧ u.2.2 + ms ≤ ss)) (hst : st = as.reverse ++ rest) (hn : as.length = n) (hsum : (rest.map fun v => v.category).sum ≤ 8) (k : ∀ (v : Option Value) (h' : AH) (sz' : Nat), Qr v h' sz' → Zj g x (sz', u.2.1 + mc, u.2.2 + ms) h' (pc + 3) lv (v.toList ++ rest)) : Zj g x u h pc lv st := by
  obtain ⟨p, e, R, s, m, args, below, meth, c, nL, Q⟩ := x
  obtain ⟨hx, hb, hml, hnL, hown, hts, hK, hlk, hnm, hrt, hfr, hlo, hcs, hss⟩ := hx
  subst hst
  intro H locs ls hW hz hu hS hl
  have hpr : ∀ U : State, U.heap = H → s.WarmedH U.vm → va_Pc as (fun U => WR g h U.heap ∧ U.heap.size = u.1 ∧ KK g U) as.toArray U := fun U hU hWm => ⟨rfl, by rw [hU]; exact hW, by rw [hU]; exact hz, KK.warm hWm (fun q h1 h2 => by rw [hU]; exact hS.2.1 q h1 h2) (by rw [hU]; exact Nat.le_trans hK.2.2.1 hS.1) hK⟩
  have hfits : u.2.1 + mc ≤ R.cells ∧ u.2.2 + ms ≤ R.slots := ⟨by rcases hroom with ⟨rfl, rfl⟩ | q <;> omega, by rcases hroom with ⟨rfl, rfl⟩ | q <;> omega⟩
  have hgo : ∀ (v : Option Value) (h' : AH) (H1 : Heap) (locs1 : List Loc), Qr v h' H1.size → WR g h' H1 → va_S (gF g) s.heap H1 locs1 → W p (gl g) e R s m args below meth c H1 locs1 (u.2.1 + mc) (u.2.2 + ms) Q (F0 m (pc + 3) ls (v.toList ++ rest)) := fun v h' H1 locs1 hq hw hs => k v h' H1.size hq H1 locs1 ls hw rfl hfits hs hl
  have hRm : (rmD d' mc ms).frames + 1 ≤ R.frames ∧ 8 + (M'.2.2.1 + 11) + (rmD d' mc ms).locals ≤ R.locals := ⟨by show d' + 1 ≤ _; omega, by show 8 + (M'.2.2.1 + 11) + 80 * d' ≤ _; have := hm.2.2.2; omega⟩
  have hini : (Cond.initialized M'.1.cls).before args s = true := hts _ (mg hm.1 rfl)
  rcases hk with hk | ⟨host, hk⟩
  · exact run_go (va_runS (As := as) (rest := rest) ⟨hx, hb, hml, hown, hts⟩ hc ⟨callB_of n hts (good_ws M' hm.2.1) rfl rfl rfl hini (hts _ (mg hk rfl)) hm.2.2.1 hRm, hts _ (mg hs rfl)⟩ ⟨pc_blind, hpr⟩ rfl hn hl.1 rfl (lv_room hsum) hd hfits) hS hgo
  · exact run_go (va_runSN (As := as) (rest := rest) ⟨hx, hb, hml, hown, hts⟩ hc ⟨va_cnB n hts (good_ws M' hm.2.1) rfl rfl rfl (hK.2.1 _ hk rfl) hini hm.2.2.1 hRm, hts _ (mg hs rfl), trivial⟩ ⟨pc_blind, hpr⟩ rfl hn hl.1 rfl (lv_room hsum) hd hfits) hS hgo
theorem z_callV {g : Gt} {x : Xt} {M : MM} {d cs ss : Nat} {u : Nat × Nat × Nat} {h : AH} {pc : Nat} {lv : List (Nat × Value)} {st : List Value} {M' : MM} {d' idx n mc ms : Nat} {as rest : List Value} {Qr : Option Value → AH → Nat → Prop} {b : Nat} {C : String} (hx : Ok g x M d cs ss) (hd : decode M.2.1 pc = .ok (.invokevirtual idx, 3)) (hk : Lnk M.1.cls idx M') (hi : Cond.instanceMethod M'.1 ∈ lw_tbl) (hv : Cond.selects M'.1.cls M'.1 M'.1 ∈ lw_tbl) (hrc : Rcv g x h b M'.1.cls) (hm : MoC M' n) (hc : Cna g M' d' (.ref b :: as) h u.1 mc ms Qr) (hdd : d' < d) (hroom : (mc = 0 ∧ ms = 0) ∨ (u.2.1 + mc ≤ cs ∧ u.2.2 + ms ≤ ss)) (hst : st = as.reverse ++ .ref b :: rest) (hn : as.length = n) (hsum : (rest.map fun v => v.category).sum ≤ 8) (k : ∀ (v : Option Value) (h' : AH) (sz' : Nat), Qr v h' sz' → Zj g x (sz', u.2.1 + mc, u.2.2 + ms) h' (pc + 3) lv (v.toList ++ rest)) : Zj g x u h pc lv st := by
  obtain ⟨p, e, R, s, m, args, below, meth, c, nL, Q⟩ := x
  obtain ⟨hx, hb, hml, hnL, hown, hts, hK, hlk, hnm, hrt, hfr, hlo, hcs, hss⟩ := hx
  subst hst
  intro H locs ls hW hz hu hS hl
  have hpr : ∀ U : State, U.heap = H → s.WarmedH U.vm → va_Pc (.ref b :: as) (fun U => WR g h U.heap ∧ U.heap.size = u.1 ∧ KK g U) (Value.ref b :: as).toArray U := fun U hU hWm => ⟨rfl, by rw [hU]; exact hW, by rw [hU]; exact hz, KK.warm hWm (fun q h1 h2 => by rw [hU]; exact hS.2.1 q h1 h2) (by rw [hU]; exact Nat.le_trans hK.2.2.1 hS.1) hK⟩
  have hfits : u.2.1 + mc ≤ R.cells ∧ u.2.2 + ms ≤ R.slots := ⟨by rcases hroom with ⟨rfl, rfl⟩ | q <;> omega, by rcases hroom with ⟨rfl, rfl⟩ | q <;> omega⟩
  have hgo : ∀ (v : Option Value) (h' : AH) (H1 : Heap) (locs1 : List Loc), Qr v h' H1.size → WR g h' H1 → va_S (gF g) s.heap H1 locs1 → W p (gl g) e R s m args below meth c H1 locs1 (u.2.1 + mc) (u.2.2 + ms) Q (F0 m (pc + 3) ls (v.toList ++ rest)) := fun v h' H1 locs1 hq hw hs => k v h' H1.size hq H1 locs1 ls hw rfl hfits hs hl
  have hRm : (rmD d' mc ms).frames + 1 ≤ R.frames ∧ 8 + (M'.2.2.1 + 11) + (rmD d' mc ms).locals ≤ R.locals := ⟨by show d' + 1 ≤ _; omega, by show 8 + (M'.2.2.1 + 11) + 80 * d' ≤ _; have := hm.2.2.2; omega⟩
  have hini : (Cond.initialized M'.1.cls).before args s = true := hts _ (mg hm.1 rfl)
  rcases hk with hk | ⟨host, hk⟩
  · exact run_go (va_runV (As := as) (rest := rest) ⟨hx, hb, hml, hown, hts⟩ hc ⟨callB_of n hts (good_ws M' hm.2.1) rfl rfl rfl hini (hts _ (mg hk rfl)) hm.2.2.1 hRm, hts _ (mg hi rfl), hts _ (mg hv rfl)⟩ ⟨pc_blind, hrc H locs hW hS, hpr⟩ rfl hn hl.1 rfl (lv_room hsum) hd hfits) hS hgo
  · exact run_go (va_runVN (As := as) (rest := rest) ⟨hx, hb, hml, hown, hts⟩ hc ⟨va_cnB n hts (good_ws M' hm.2.1) rfl rfl rfl (hK.2.1 _ hk rfl) hini hm.2.2.1 hRm, hts _ (mg hi rfl), hts _ (mg hv rfl)⟩ ⟨pc_blind, hrc H locs hW hS, hpr⟩ rfl hn hl.1 rfl (lv_room hsum) hd hfits) hS hgo
theorem z_callI {g : Gt} {x : Xt} {M : MM} {d cs ss : Nat} {u : Nat × Nat × Nat} {h : AH} {pc : Nat} {lv : List (Nat × Value)} {st : List Value} {M' : MM} {d' idx n mc ms : Nat} {as rest : List Value} {Qr : Option Value → AH → Nat → Prop} {b : Nat} (hx : Ok g x M d cs ss) (hd : decode M.2.1 pc = .ok (.invokespecial idx, 3)) (hk : Lnk M.1.cls idx M') (hi : Cond.instanceMethod M'.1 ∈ lw_tbl) (hin : M'.1.name = "<init>" ∧ M'.2.2.2 = none) (hm : MoC M' n) (hc : Cna g M' d' (.ref b :: as) h u.1 mc ms Qr) (hdd : d' < d) (hroom : (mc = 0 ∧ ms = 0) ∨ (u.2.1 + mc ≤ cs ∧ u.2.2 + ms ≤ ss)) (hst : st = as.reverse ++ .ref b :: rest) (hn : as.length = n) (hsum : (rest.map fun v => v.category).sum ≤ 8) (k : ∀ (v : Option Value) (h' : AH) (sz' : Nat), Qr v h' sz' → Zj g x (sz', u.2.1 + mc, u.2.2 + ms) h' (pc + 3) lv (v.toList ++ rest)) : Zj g x u h pc lv st := by
  obtain ⟨p, e, R, s, m, args, below, meth, c, nL, Q⟩ := x
  obtain ⟨hx, hb, hml, hnL, hown, hts, hK, hlk, hnm, hrt, hfr, hlo, hcs, hss⟩ := hx
  subst hst
  intro H locs ls hW hz hu hS hl
  have hpr : ∀ U : State, U.heap = H → s.WarmedH U.vm → va_Pc (.ref b :: as) (fun U => WR g h U.heap ∧ U.heap.size = u.1 ∧ KK g U) (Value.ref b :: as).toArray U := fun U hU hWm => ⟨rfl, by rw [hU]; exact hW, by rw [hU]; exact hz, KK.warm hWm (fun q h1 h2 => by rw [hU]; exact hS.2.1 q h1 h2) (by rw [hU]; exact Nat.le_trans hK.2.2.1 hS.1) hK⟩
  have hfits : u.2.1 + mc ≤ R.cells ∧ u.2.2 + ms ≤ R.slots := ⟨by rcases hroom with ⟨rfl, rfl⟩ | q <;> omega, by rcases hroom with ⟨rfl, rfl⟩ | q <;> omega⟩
  have hgo : ∀ (v : Option Value) (h' : AH) (H1 : Heap) (locs1 : List Loc), Qr v h' H1.size → WR g h' H1 → va_S (gF g) s.heap H1 locs1 → W p (gl g) e R s m args below meth c H1 locs1 (u.2.1 + mc) (u.2.2 + ms) Q (F0 m (pc + 3) ls (v.toList ++ rest)) := fun v h' H1 locs1 hq hw hs => k v h' H1.size hq H1 locs1 ls hw rfl hfits hs hl
  have hRm : (rmD d' mc ms).frames + 1 ≤ R.frames ∧ 8 + (M'.2.2.1 + 11) + (rmD d' mc ms).locals ≤ R.locals := ⟨by show d' + 1 ≤ _; omega, by show 8 + (M'.2.2.1 + 11) + 80 * d' ≤ _; have := hm.2.2.2; omega⟩
  have hini : (Cond.initialized M'.1.cls).before args s = true := hts _ (mg hm.1 rfl)
  obtain ⟨y', b', l', r'⟩ := M'
  obtain ⟨hin1, hin2⟩ := hin
  dsimp only at hin1 hin2
  subst hin2
  rcases hk with hk | ⟨host, hk⟩
  · exact run_go (va_runI (As := as) (rest := rest) ⟨hx, hb, hml, hown, hts⟩ hc ⟨callB_of n hts (good_ws _ hm.2.1) rfl rfl rfl hini (hts _ (mg hk rfl)) hm.2.2.1 hRm, hin1, hts _ (mg hi rfl)⟩ ⟨pc_blind, hpr⟩ rfl hn hl.1 rfl (lv_room hsum) hd hfits) hS hgo
  · exact run_go (va_runIN (As := as) (rest := rest) ⟨hx, hb, hml, hown, hts⟩ hc ⟨va_cnB n hts (good_ws _ hm.2.1) rfl rfl rfl (hK.2.1 _ hk rfl) hini hm.2.2.1 hRm, hin1, hts _ (mg hi rfl)⟩ ⟨pc_blind, hpr⟩ rfl hn hl.1 rfl (lv_room hsum) hd hfits) hS hgo
theorem z_iret {g : Gt} {x : Xt} {M : MM} {d cs ss : Nat} {h : AH} {pc : Nat} {lv : List (Nat × Value)} {Qr : Option Value → AH → Nat → Prop} {mc ms sz : Nat} {a : Int} {ty : FieldType} (hx : Ok g x M d cs ss) (hr : OkR g x Qr mc ms) (hd : decode M.2.1 pc = .ok (.ireturn, 1)) (hty : M.2.2.2 = some ty) (hn : narrow ty (.int (iI a)) = .int (iI a)) (hQ : Qr (some (.int (iI a))) h sz) : Zj g x (sz, mc, ms) h pc lv [.int (iI a)] := by
  obtain ⟨p, e, R, s, m, args, below, meth, c, nL, Q⟩ := x
  obtain ⟨hx, hb, hml, hnL, hown, hts, hK, hlk, hnm, hrt, hfr, hlo, hcs, hss⟩ := hx
  intro H locs ls hW hz hu hS hl
  have hr : Q = MQ below (Qof g Qr) args s mc ms (gF g) := hr
  subst hr
  exact W.zret hx hb (hrt.trans hty) hn (fun t ht hWm => ⟨⟨some (.int (iI a)), h, rfl, by rw [ht, hz]; exact hQ, by rw [ht]; exact hW⟩, hS.F ht⟩) hS.2.2 hd
theorem z_lret {g : Gt} {x : Xt} {M : MM} {d cs ss : Nat} {h : AH} {pc : Nat} {lv : List (Nat × Value)} {Qr : Option Value → AH → Nat → Prop} {mc ms sz : Nat} {a : Int} (hx : Ok g x M d cs ss) (hr : OkR g x Qr mc ms) (hd : decode M.2.1 pc = .ok (.lreturn, 1)) (hty : M.2.2.2 = some .long) (hQ : Qr (some (.long (lI a))) h sz) : Zj g x (sz, mc, ms) h pc lv [.long (lI a)] := by
  obtain ⟨p, e, R, s, m, args, below, meth, c, nL, Q⟩ := x
  obtain ⟨hx, hb, hml, hnL, hown, hts, hK, hlk, hnm, hrt, hfr, hlo, hcs, hss⟩ := hx
  intro H locs ls hW hz hu hS hl
  have hr : Q = MQ below (Qof g Qr) args s mc ms (gF g) := hr
  subst hr
  exact W.lret hx hb (hrt.trans hty) (fun t ht hWm => ⟨⟨some (.long (lI a)), h, rfl, by rw [ht, hz]; exact hQ, by rw [ht]; exact hW⟩, hS.F ht⟩) hS.2.2 hd
theorem z_aret {g : Gt} {x : Xt} {M : MM} {d cs ss : Nat} {h : AH} {pc : Nat} {lv : List (Nat × Value)} {Qr : Option Value → AH → Nat → Prop} {mc ms sz : Nat} {a : Nat} {C : String} (hx : Ok g x M d cs ss) (hr : OkR g x Qr mc ms) (hd : decode M.2.1 pc = .ok (.areturn, 1)) (hty : M.2.2.2 = some (.object C)) (hQ : Qr (some (.ref a)) h sz) : Zj g x (sz, mc, ms) h pc lv [.ref a] := by
  obtain ⟨p, e, R, s, m, args, below, meth, c, nL, Q⟩ := x
  obtain ⟨hx, hb, hml, hnL, hown, hts, hK, hlk, hnm, hrt, hfr, hlo, hcs, hss⟩ := hx
  intro H locs ls hW hz hu hS hl
  have hr : Q = MQ below (Qof g Qr) args s mc ms (gF g) := hr
  subst hr
  exact W.aret hx hb (hrt.trans hty) (Or.inl ⟨C, rfl⟩) (Or.inr ⟨a, rfl⟩) (fun t ht hWm => ⟨⟨some (.ref a), h, rfl, by rw [ht, hz]; exact hQ, by rw [ht]; exact hW⟩, hS.F ht⟩) hS.2.2 hd
theorem z_aretN {g : Gt} {x : Xt} {M : MM} {d cs ss : Nat} {h : AH} {pc : Nat} {lv : List (Nat × Value)} {Qr : Option Value → AH → Nat → Prop} {mc ms sz : Nat} {C : String} (hx : Ok g x M d cs ss) (hr : OkR g x Qr mc ms) (hd : decode M.2.1 pc = .ok (.areturn, 1)) (hty : M.2.2.2 = some (.object C)) (hQ : Qr (some .null) h sz) : Zj g x (sz, mc, ms) h pc lv [.null] := by
  obtain ⟨p, e, R, s, m, args, below, meth, c, nL, Q⟩ := x
  obtain ⟨hx, hb, hml, hnL, hown, hts, hK, hlk, hnm, hrt, hfr, hlo, hcs, hss⟩ := hx
  intro H locs ls hW hz hu hS hl
  have hr : Q = MQ below (Qof g Qr) args s mc ms (gF g) := hr
  subst hr
  exact W.aret hx hb (hrt.trans hty) (Or.inl ⟨C, rfl⟩) (Or.inl rfl) (fun t ht hWm => ⟨⟨some .null, h, rfl, by rw [ht, hz]; exact hQ, by rw [ht]; exact hW⟩, hS.F ht⟩) hS.2.2 hd
theorem z_vret {g : Gt} {x : Xt} {M : MM} {d cs ss : Nat} {h : AH} {pc : Nat} {lv : List (Nat × Value)} {Qr : Option Value → AH → Nat → Prop} {mc ms sz : Nat}  (hx : Ok g x M d cs ss) (hr : OkR g x Qr mc ms) (hd : decode M.2.1 pc = .ok (.return_, 1)) (hty : M.2.2.2 = none) (hQ : Qr none h sz) : Zj g x (sz, mc, ms) h pc lv [] := by
  obtain ⟨p, e, R, s, m, args, below, meth, c, nL, Q⟩ := x
  obtain ⟨hx, hb, hml, hnL, hown, hts, hK, hlk, hnm, hrt, hfr, hlo, hcs, hss⟩ := hx
  intro H locs ls hW hz hu hS hl
  have hr : Q = MQ below (Qof g Qr) args s mc ms (gF g) := hr
  subst hr
  exact W.vret hx hb (hrt.trans hty) (fun t ht hWm => ⟨⟨none, h, rfl, by rw [ht, hz]; exact hQ, by rw [ht]; exact hW⟩, hS.F ht⟩) hS.2.2 hd
