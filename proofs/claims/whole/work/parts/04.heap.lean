/-! THE LAYER, on: fields, arrays, calls, returns -/
def hup (h : AH) (a : Nat) (c : Ce) : AH := fun q => if q = a then some c else h q
theorem WR.at {g : Gt} {h : AH} {H : Heap} {a : Nat} {c : Ce} (hW : WR g h H) (hc : h a = some c) : va_at (gD g) clsL (a, toE g c) H := (hW a c hc).2
theorem WR.up {g : Gt} {h : AH} {H H1 : Heap} {a : Nat} {c : Ce} (hW : WR g h H) (hz : gz g ≤ a) (hn : va_at (gD g) clsL (a, toE g c) H1) (oq : ∀ q : Nat, q ≠ a → H1[q]? = H[q]?) : WR g (hup h a c) H1 := by
  intro q c' hq
  by_cases hqa : q = a
  · subst hqa
    simp only [hup, if_pos rfl] at hq
    cases hq
    exact ⟨hz, hn⟩
  · simp only [hup, if_neg hqa] at hq
    exact ⟨(hW q c' hq).1, (hW q c' hq).2.kept (oq q hqa)⟩
theorem WR.push {g : Gt} {h : AH} {H H1 : Heap} {a : Nat} {c : Ce} (hW : WR g h H) (hz : gz g ≤ a) (ha : H.size = a) (hn : va_at (gD g) clsL (a, toE g c) H1) (oq : ∀ q : Nat, q < a → H1[q]? = H[q]?) : WR g (hup h a c) H1 := by
  intro q c' hq
  by_cases hqa : q = a
  · subst hqa
    simp only [hup, if_pos rfl] at hq
    cases hq
    exact ⟨hz, hn⟩
  · simp only [hup, if_neg hqa] at hq
    exact ⟨(hW q c' hq).1, (hW q c' hq).2.kept (oq q (by rw [← ha]; exact (hW q c' hq).2.lt))⟩
/-- a field: field k of class ci, reached from class own by entry idx -/
def FLp (own : String) (idx ci k : Nat) (fin : Bool) (ty : FieldType) : Prop := ∃ (C : String) (T : u_T) (N : Nat) (ty0 : Nat → FieldType), clsL[ci]? = some (C, T, N) ∧ k < N ∧ (∀ w ∈ u_ws C T N, w ∈ lw_good) ∧ (∀ k, k < N → parseFieldDescriptor (T k).2.2.1 = some (ty0 k)) ∧ ty0 k = ty ∧
  (∀ a, a < N → ∀ b, b < N → a ≠ b → (T a).2.1 ≠ (T b).2.1) ∧ (Cond.fieldLink own idx (T k).1 (T k).2.1 (T k).2.2.1 ∈ lw_tbl ∨ ∃ host, Cond.fieldLinkNest own idx (T k).1 (T k).2.1 (T k).2.2.1 host ∈ lw_tbl) ∧ (T k).2.2.2 = fin
def FLf (own : String) (idx ci k : Nat) (ty : FieldType) : Prop := ∃ (C : String) (T : u_T) (N : Nat) (ty0 : Nat → FieldType), clsL[ci]? = some (C, T, N) ∧ k < N ∧ (∀ w ∈ u_ws C T N, w ∈ lw_good) ∧ (∀ k, k < N → parseFieldDescriptor (T k).2.2.1 = some (ty0 k)) ∧ ty0 k = ty ∧
  (∀ a, a < N → ∀ b, b < N → a ≠ b → (T a).2.1 ≠ (T b).2.1) ∧ Cond.fieldLink own idx (T k).1 (T k).2.1 (T k).2.2.1 ∈ lw_tbl ∧ (T k).2.2.2 = true ∧ (T k).1 = own
theorem z_get {g : Gt} {x : Xt} {M : MM} {d cs ss : Nat} {u : Nat × Nat × Nat} {h : AH} {pc : Nat} {lv : List (Nat × Value)} {st : List Value} {idx ci k a : Nat} {fin : Bool} {ty : FieldType} {fs : List Value} {v : Value} (hx : Ok g x M d cs ss) (hd : decode M.2.1 pc = .ok (.getfield idx, 3)) (hf : FLp M.1.cls idx ci k fin ty) (hc : h a = some (.inr (.inr (ci, fs)))) (hv : fs[k]? = some v)
    (kk : Zj g x u h (pc + 3) lv (v :: st)) : Zj g x u h pc lv (.ref a :: st) := by
  obtain ⟨p, e, R, s, m, args, below, meth, c, nL, Q⟩ := x
  obtain ⟨hx, hb, hml, hnL, hown, hts, hK, hlk, hnm, hrt, hfr, hlo, hcs, hss⟩ := hx
  obtain ⟨C, T, N, ty0, f1, f2, f3, f4, -, f5, f6, f7⟩ := hf
  intro H locs ls hW hz hu hS hl
  have hP : va_P (gD g) clsL [(a, toE g (.inr (.inr (ci, fs))))] H := by
    intro j q hj
    have : j = 0 := by
      rcases j with _ | j
      · rfl
      · simp at hj
    subst this
    cases hj
    exact hW.at hc
  rcases f6 with f6 | ⟨host, f6⟩
  · exact va_get (D := gD g) (cl := clsL) (tys := gT g) (ws := [(a, toE g (.inr (.inr (ci, fs))))]) hx hb hts f3 hown hK.1 hP 0 rfl f1 k f2 (hts _ (mg f6 rfl)) (fun _ q => q) hv hd (kk H locs ls hW hz hu hS hl)
  · exact va_getN (D := gD g) (cl := clsL) (tys := gT g) (ws := [(a, toE g (.inr (.inr (ci, fs))))]) hx hb hts f3 hown hK.1 hP 0 rfl f1 k f2 (va_Nw.use rfl (hK.2.1 _ f6 rfl)) (fun _ q => q) hv hd (kk H locs ls hW hz hu hS hl)
theorem z_put {g : Gt} {x : Xt} {M : MM} {d cs ss : Nat} {u : Nat × Nat × Nat} {h : AH} {pc : Nat} {lv : List (Nat × Value)} {st : List Value} {idx ci k a : Nat} {ty : FieldType} {fs : List Value} {v : Value} (hx : Ok g x M d cs ss) (hd : decode M.2.1 pc = .ok (.putfield idx, 3)) (hf : FLp M.1.cls idx ci k false ty) (hc : h a = some (.inr (.inr (ci, fs)))) (hn : narrow ty v = v ∧ fits ty v = true) (hl0 : k < fs.length)
    (kk : Zj g x u (hup h a (.inr (.inr (ci, fs.set k v)))) (pc + 3) lv st) : Zj g x u h pc lv (v :: .ref a :: st) := by
  obtain ⟨p, e, R, s, m, args, below, meth, c, nL, Q⟩ := x
  obtain ⟨hx, hb, hml, hnL, hown, hts, hK, hlk, hnm, hrt, hfr, hlo, hcs, hss⟩ := hx
  obtain ⟨C, T, N, ty0, f1, f2, f3, f4, f8, f5, f6, f7⟩ := hf
  intro H locs ls hW hz hu hS hl
  have hza : gz g ≤ a := (hW a _ hc).1
  have hap := va_apart (own := M.1.cls) hts f3 ty0 f4 f5 hK.1 f1
  obtain ⟨r, h1, cell, q1, q2, q3, q4⟩ := hW.at hc
  have hr : r = (C, T, N) := Option.some.inj (h1.symm.trans f1)
  subst hr
  obtain ⟨hSS, hfc, kC, hkC, hkind⟩ := hK.1.1 ci _ f1
  obtain ⟨cf, kf, fi, f, hi, hsl⟩ := hSS k f2
  have hlay := hts _ (f3 _ (u_in_lay f2))
  unfold u_lay at hlay
  rw [if_neg (by rw [f7]; decide)] at hlay
  have hst := (u_facts hfc hkC (u_lays hts f3 f2) hi).1
  have h6 := u_store hfc hkC hkind hlay hi (f8 ▸ f4 k f2) hn.1 hn.2
  have fin : ∀ H' : Heap, H'[a]? = some (cell.setSlot f.slot v) → H'.size = H.size → (∀ q, q ≠ a → H'[q]? = H[q]?) → W p (gl g) e R s m args below meth c H' (locs ++ [⟨a, f.slot⟩]) u.2.1 u.2.2 Q (F0 m (pc + 3) ls st) := by
    intro H' e1 e2 e3
    rw [hsl] at e1 ⊢
    exact kk H' _ ls (hW.up hza ⟨_, f1, t_OB.to (V := updV (vp_V fs) k v) ⟨_, e1, q2, q3, t_set q4 hap f2 v⟩ (fun j _ => vp_updV_set hl0 v j)⟩ e3) (e2.trans hz) hu (hS.put e2 e3 hza) hl
  rcases f6 with f6 | ⟨host, f6⟩
  · exact W.putK hx hb (f := f) ⟨hown, hts _ (mg f6 rfl), ⟨_, _, _, hi⟩, hst⟩ (by rw [q2]; exact h6) q1 q3 (by rw [hsl]; exact k2_hasslot (q4 k f2)) rfl rfl hd fin
  · exact va_WputK hx hb (f := f) hown (va_Nw.use rfl (hK.2.1 _ f6 rfl)) hi hst (by rw [q2]; exact h6) q1 q3 (by rw [hsl]; exact k2_hasslot (q4 k f2)) rfl rfl hd fin
theorem z_putF {g : Gt} {x : Xt} {M : MM} {d cs ss : Nat} {u : Nat × Nat × Nat} {h : AH} {pc : Nat} {lv : List (Nat × Value)} {st : List Value} {idx ci k a : Nat} {ty : FieldType} {fs : List Value} {v : Value} (hx : Ok g x M d cs ss) (hd : decode M.2.1 pc = .ok (.putfield idx, 3)) (hf : FLf M.1.cls idx ci k ty) (hini : M.1.name = "<init>") (hc : h a = some (.inr (.inr (ci, fs)))) (hn : narrow ty v = v ∧ fits ty v = true) (hl0 : k < fs.length)
    (kk : Zj g x u (hup h a (.inr (.inr (ci, fs.set k v)))) (pc + 3) lv st) : Zj g x u h pc lv (v :: .ref a :: st) := by
  obtain ⟨p, e, R, s, m, args, below, meth, c, nL, Q⟩ := x
  obtain ⟨hx, hb, hml, hnL, hown, hts, hK, hlk, hnm, hrt, hfr, hlo, hcs, hss⟩ := hx
  obtain ⟨C, T, N, ty0, f1, f2, f3, f4, f8, f5, f6, f7, f9⟩ := hf
  intro H locs ls hW hz hu hS hl
  have hza : gz g ≤ a := (hW a _ hc).1
  have hap := va_apart (own := M.1.cls) hts f3 ty0 f4 f5 hK.1 f1
  obtain ⟨r, h1, cell, q1, q2, q3, q4⟩ := hW.at hc
  have hr : r = (C, T, N) := Option.some.inj (h1.symm.trans f1)
  subst hr
  obtain ⟨hSS, hfc, kC, hkC, hkind⟩ := hK.1.1 ci _ f1
  obtain ⟨cf, kf, fi, f, hi, hsl⟩ := hSS k f2
  have hlay := hts _ (f3 _ (u_in_lay f2))
  unfold u_lay at hlay
  rw [if_pos f7] at hlay
  have hst := (u_facts hfc hkC (u_lays hts f3 f2) hi).1
  have hcf : m.cls = cf := by
    obtain ⟨_, _, c', _, _, _, -, -, hf', -, -, -, hown2, -⟩ := Cond.laysFinal_spec hlay
    have e1 : c' = cf := by have := hi.symm.trans hf'; simp at this; exact this.1.symm
    rw [f9] at hown2
    rw [← e1]; exact Option.some.inj (hown.symm.trans hown2)
  have h6 := u_fits hfc hkC hkind (Or.inr hlay) hi (f8 ▸ f4 k f2) hn.1 hn.2
  have fin : ∀ H' : Heap, H'[a]? = some (cell.setSlot f.slot v) → H'.size = H.size → (∀ q, q ≠ a → H'[q]? = H[q]?) → W p (gl g) e R s m args below meth c H' (locs ++ [⟨a, f.slot⟩]) u.2.1 u.2.2 Q (F0 m (pc + 3) ls st) := by
    intro H' e1 e2 e3
    rw [hsl] at e1 ⊢
    exact kk H' _ ls (hW.up hza ⟨_, f1, t_OB.to (V := updV (vp_V fs) k v) ⟨_, e1, q2, q3, t_set q4 hap f2 v⟩ (fun j _ => vp_updV_set hl0 v j)⟩ e3) (e2.trans hz) hu (hS.put e2 e3 hza) hl
  exact W.putFinK hx hb hown (hts _ (mg f6 rfl)) hi hst hcf (hnm.trans hini) (by rw [q2]; exact h6) q1 q3 (by rw [hsl]; exact k2_hasslot (q4 k f2)) rfl rfl hd fin
