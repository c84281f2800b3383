theorem l0n {b : Int} (hb : -9223372036854775808 ≤ b ∧ b < 9223372036854775808) (h : b ≠ 0) : ¬ lI b = 0 := by
  have e : (0 : Int64) = lI 0 := by decide
  rw [e, lI_eq hb (by decide)]; exact h
theorem z_iconst {g : Gt} {x : Xt} {M : MM} {d cs ss : Nat} {u : Nat × Nat × Nat} {h : AH} {pc : Nat} {lv : List (Nat × Value)} {st : List Value} {n : Int} (hx : Ok g x M d cs ss) (hd : decode M.2.1 pc = .ok (.iconst n, 1)) (k : Zj g x u h (pc + 1) lv (.int (iI n) :: st)) : Zj g x u h pc lv st := by
  obtain ⟨p, e, R, s, m, args, below, meth, c, nL, Q⟩ := x
  obtain ⟨hx, hb, hml, hnL, hown, hts, hK, hlk, hnm, hrt, hfr, hlo, hcs, hss⟩ := hx
  intro H locs ls hW hz hu hS hl
  exact lv_iconst hx hb (v := iI n) hd rfl (k H locs ls hW hz hu hS hl)
theorem z_bipush {g : Gt} {x : Xt} {M : MM} {d cs ss : Nat} {u : Nat × Nat × Nat} {h : AH} {pc : Nat} {lv : List (Nat × Value)} {st : List Value} {n : Int} (hx : Ok g x M d cs ss) (hd : decode M.2.1 pc = .ok (.bipush n, 2)) (hv : (Int8.ofInt n).toInt32 = iI n) (k : Zj g x u h (pc + 2) lv (.int (iI n) :: st)) : Zj g x u h pc lv st := by
  obtain ⟨p, e, R, s, m, args, below, meth, c, nL, Q⟩ := x
  obtain ⟨hx, hb, hml, hnL, hown, hts, hK, hlk, hnm, hrt, hfr, hlo, hcs, hss⟩ := hx
  intro H locs ls hW hz hu hS hl
  exact lv_bipush hx hb (v := iI n) hd hv (k H locs ls hW hz hu hS hl)
theorem z_sipush {g : Gt} {x : Xt} {M : MM} {d cs ss : Nat} {u : Nat × Nat × Nat} {h : AH} {pc : Nat} {lv : List (Nat × Value)} {st : List Value} {n : Int} (hx : Ok g x M d cs ss) (hd : decode M.2.1 pc = .ok (.sipush n, 3)) (hv : (Int16.ofInt n).toInt32 = iI n) (k : Zj g x u h (pc + 3) lv (.int (iI n) :: st)) : Zj g x u h pc lv st := by
  obtain ⟨p, e, R, s, m, args, below, meth, c, nL, Q⟩ := x
  obtain ⟨hx, hb, hml, hnL, hown, hts, hK, hlk, hnm, hrt, hfr, hlo, hcs, hss⟩ := hx
  intro H locs ls hW hz hu hS hl
  exact lv_sipush hx hb (v := iI n) hd hv (k H locs ls hW hz hu hS hl)
theorem z_lconst {g : Gt} {x : Xt} {M : MM} {d cs ss : Nat} {u : Nat × Nat × Nat} {h : AH} {pc : Nat} {lv : List (Nat × Value)} {st : List Value} {n : Fin 2} {a : Int} (hx : Ok g x M d cs ss) (hd : decode M.2.1 pc = .ok (.lconst n, 1)) (hv : Int64.ofNat (n : Nat) = lI a) (k : Zj g x u h (pc + 1) lv (.long (lI a) :: st)) : Zj g x u h pc lv st := by
  obtain ⟨p, e, R, s, m, args, below, meth, c, nL, Q⟩ := x
  obtain ⟨hx, hb, hml, hnL, hown, hts, hK, hlk, hnm, hrt, hfr, hlo, hcs, hss⟩ := hx
  intro H locs ls hW hz hu hS hl
  exact lv_lconst hx hb (v := lI a) hd hv (k H locs ls hW hz hu hS hl)
theorem z_iload_n {g : Gt} {x : Xt} {M : MM} {d cs ss : Nat} {u : Nat × Nat × Nat} {h : AH} {pc : Nat} {lv : List (Nat × Value)} {st : List Value} {n : Fin 4} {i : Nat} {a : Int} (hx : Ok g x M d cs ss) (hd : decode M.2.1 pc = .ok (.iload_n n, 1)) (hi : (n : Nat) = i) (j : Nat) (hj : lv[j]? = some (i, .int (iI a))) (k : Zj g x u h (pc + 1) lv (.int (iI a) :: st)) : Zj g x u h pc lv st := by
  obtain ⟨p, e, R, s, m, args, below, meth, c, nL, Q⟩ := x
  obtain ⟨hx, hb, hml, hnL, hown, hts, hK, hlk, hnm, hrt, hfr, hlo, hcs, hss⟩ := hx
  intro H locs ls hW hz hu hS hl
  exact lv_iload_n hx hb hd hi (lv_at hl j hj) (k H locs ls hW hz hu hS hl)
theorem z_iload {g : Gt} {x : Xt} {M : MM} {d cs ss : Nat} {u : Nat × Nat × Nat} {h : AH} {pc : Nat} {lv : List (Nat × Value)} {st : List Value} {i : Nat} {a : Int} (hx : Ok g x M d cs ss) (hd : decode M.2.1 pc = .ok (.iload i, 2)) (j : Nat) (hj : lv[j]? = some (i, .int (iI a))) (k : Zj g x u h (pc + 2) lv (.int (iI a) :: st)) : Zj g x u h pc lv st := by
  obtain ⟨p, e, R, s, m, args, below, meth, c, nL, Q⟩ := x
  obtain ⟨hx, hb, hml, hnL, hown, hts, hK, hlk, hnm, hrt, hfr, hlo, hcs, hss⟩ := hx
  intro H locs ls hW hz hu hS hl
  exact lv_iload hx hb hd (lv_at hl j hj) (k H locs ls hW hz hu hS hl)
theorem z_lload_n {g : Gt} {x : Xt} {M : MM} {d cs ss : Nat} {u : Nat × Nat × Nat} {h : AH} {pc : Nat} {lv : List (Nat × Value)} {st : List Value} {n : Fin 4} {i : Nat} {a : Int} (hx : Ok g x M d cs ss) (hd : decode M.2.1 pc = .ok (.lload_n n, 1)) (hi : (n : Nat) = i) (j : Nat) (hj : lv[j]? = some (i, .long (lI a))) (k : Zj g x u h (pc + 1) lv (.long (lI a) :: st)) : Zj g x u h pc lv st := by
  obtain ⟨p, e, R, s, m, args, below, meth, c, nL, Q⟩ := x
  obtain ⟨hx, hb, hml, hnL, hown, hts, hK, hlk, hnm, hrt, hfr, hlo, hcs, hss⟩ := hx
  intro H locs ls hW hz hu hS hl
  exact lv_lload_n hx hb hd hi (lv_at hl j hj) (k H locs ls hW hz hu hS hl)
theorem z_lload {g : Gt} {x : Xt} {M : MM} {d cs ss : Nat} {u : Nat × Nat × Nat} {h : AH} {pc : Nat} {lv : List (Nat × Value)} {st : List Value} {i : Nat} {a : Int} (hx : Ok g x M d cs ss) (hd : decode M.2.1 pc = .ok (.lload i, 2)) (j : Nat) (hj : lv[j]? = some (i, .long (lI a))) (k : Zj g x u h (pc + 2) lv (.long (lI a) :: st)) : Zj g x u h pc lv st := by
  obtain ⟨p, e, R, s, m, args, below, meth, c, nL, Q⟩ := x
  obtain ⟨hx, hb, hml, hnL, hown, hts, hK, hlk, hnm, hrt, hfr, hlo, hcs, hss⟩ := hx
  intro H locs ls hW hz hu hS hl
  exact lv_lload hx hb hd (lv_at hl j hj) (k H locs ls hW hz hu hS hl)
theorem z_aload_n {g : Gt} {x : Xt} {M : MM} {d cs ss : Nat} {u : Nat × Nat × Nat} {h : AH} {pc : Nat} {lv : List (Nat × Value)} {st : List Value} {n : Fin 4} {i : Nat} {a : Nat} (hx : Ok g x M d cs ss) (hd : decode M.2.1 pc = .ok (.aload_n n, 1)) (hi : (n : Nat) = i) (j : Nat) (hj : lv[j]? = some (i, .ref a)) (k : Zj g x u h (pc + 1) lv (.ref a :: st)) : Zj g x u h pc lv st := by
  obtain ⟨p, e, R, s, m, args, below, meth, c, nL, Q⟩ := x
  obtain ⟨hx, hb, hml, hnL, hown, hts, hK, hlk, hnm, hrt, hfr, hlo, hcs, hss⟩ := hx
  intro H locs ls hW hz hu hS hl
  exact lv_aload_n hx hb hd hi (lv_at hl j hj) (k H locs ls hW hz hu hS hl)
theorem z_aload {g : Gt} {x : Xt} {M : MM} {d cs ss : Nat} {u : Nat × Nat × Nat} {h : AH} {pc : Nat} {lv : List (Nat × Value)} {st : List Value} {i : Nat} {a : Nat} (hx : Ok g x M d cs ss) (hd : decode M.2.1 pc = .ok (.aload i, 2)) (j : Nat) (hj : lv[j]? = some (i, .ref a)) (k : Zj g x u h (pc + 2) lv (.ref a :: st)) : Zj g x u h pc lv st := by
  obtain ⟨p, e, R, s, m, args, below, meth, c, nL, Q⟩ := x
  obtain ⟨hx, hb, hml, hnL, hown, hts, hK, hlk, hnm, hrt, hfr, hlo, hcs, hss⟩ := hx
  intro H locs ls hW hz hu hS hl
  exact lv_aload hx hb hd (lv_at hl j hj) (k H locs ls hW hz hu hS hl)
theorem z_aloadN_n {g : Gt} {x : Xt} {M : MM} {d cs ss : Nat} {u : Nat × Nat × Nat} {h : AH} {pc : Nat} {lv : List (Nat × Value)} {st : List Value} {n : Fin 4} {i : Nat} (hx : Ok g x M d cs ss) (hd : decode M.2.1 pc = .ok (.aload_n n, 1)) (hi : (n : Nat) = i) (j : Nat) (hj : lv[j]? = some (i, .null)) (k : Zj g x u h (pc + 1) lv (.null :: st)) : Zj g x u h pc lv st := by
  obtain ⟨p, e, R, s, m, args, below, meth, c, nL, Q⟩ := x
  obtain ⟨hx, hb, hml, hnL, hown, hts, hK, hlk, hnm, hrt, hfr, hlo, hcs, hss⟩ := hx
  intro H locs ls hW hz hu hS hl
  exact lv_aload_nN hx hb hd hi (lv_at hl j hj) (k H locs ls hW hz hu hS hl)
theorem z_aloadN {g : Gt} {x : Xt} {M : MM} {d cs ss : Nat} {u : Nat × Nat × Nat} {h : AH} {pc : Nat} {lv : List (Nat × Value)} {st : List Value} {i : Nat} (hx : Ok g x M d cs ss) (hd : decode M.2.1 pc = .ok (.aload i, 2)) (j : Nat) (hj : lv[j]? = some (i, .null)) (k : Zj g x u h (pc + 2) lv (.null :: st)) : Zj g x u h pc lv st := by
  obtain ⟨p, e, R, s, m, args, below, meth, c, nL, Q⟩ := x
  obtain ⟨hx, hb, hml, hnL, hown, hts, hK, hlk, hnm, hrt, hfr, hlo, hcs, hss⟩ := hx
  intro H locs ls hW hz hu hS hl
  exact lv_aloadN hx hb hd (lv_at hl j hj) (k H locs ls hW hz hu hS hl)
theorem z_istore_n {g : Gt} {x : Xt} {M : MM} {d cs ss : Nat} {u : Nat × Nat × Nat} {h : AH} {pc : Nat} {lv : List (Nat × Value)} {st : List Value} {n : Fin 4} {i : Nat} {a : Int} {lv' : List (Nat × Value)} (hx : Ok g x M d cs ss) (hd : decode M.2.1 pc = .ok (.istore_n n, 1)) (hi : (n : Nat) = i) (hn : i < M.2.2.1) (ks : List Nat) (hp : lv_pick ((i, Value.int (iI a)) :: lv.filter (fun q => !(q.1 == i) && !(q.1 + 1 == i && q.2.category == 2))) ks = lv') (k : Zj g x u h (pc + 1) lv' st) : Zj g x u h pc lv (.int (iI a) :: st) := by
  obtain ⟨p, e, R, s, m, args, below, meth, c, nL, Q⟩ := x
  obtain ⟨hx, hb, hml, hnL, hown, hts, hK, hlk, hnm, hrt, hfr, hlo, hcs, hss⟩ := hx
  intro H locs ls hW hz hu hS hl
  exact lv_istore_n hx hb hd hi hl (by rw [hnL]; exact hn) rfl (fun ls1 hl1 => k H locs ls1 hW hz hu hS (lv_sub hl1 ks hp))
theorem z_istore {g : Gt} {x : Xt} {M : MM} {d cs ss : Nat} {u : Nat × Nat × Nat} {h : AH} {pc : Nat} {lv : List (Nat × Value)} {st : List Value}  {i : Nat} {a : Int} {lv' : List (Nat × Value)} (hx : Ok g x M d cs ss) (hd : decode M.2.1 pc = .ok (.istore i, 2))  (hn : i < M.2.2.1) (ks : List Nat) (hp : lv_pick ((i, Value.int (iI a)) :: lv.filter (fun q => !(q.1 == i) && !(q.1 + 1 == i && q.2.category == 2))) ks = lv') (k : Zj g x u h (pc + 2) lv' st) : Zj g x u h pc lv (.int (iI a) :: st) := by
  obtain ⟨p, e, R, s, m, args, below, meth, c, nL, Q⟩ := x
  obtain ⟨hx, hb, hml, hnL, hown, hts, hK, hlk, hnm, hrt, hfr, hlo, hcs, hss⟩ := hx
  intro H locs ls hW hz hu hS hl
  exact lv_istore hx hb hd  hl (by rw [hnL]; exact hn) rfl (fun ls1 hl1 => k H locs ls1 hW hz hu hS (lv_sub hl1 ks hp))
theorem z_lstore_n {g : Gt} {x : Xt} {M : MM} {d cs ss : Nat} {u : Nat × Nat × Nat} {h : AH} {pc : Nat} {lv : List (Nat × Value)} {st : List Value} {n : Fin 4} {i : Nat} {a : Int} {lv' : List (Nat × Value)} (hx : Ok g x M d cs ss) (hd : decode M.2.1 pc = .ok (.lstore_n n, 1)) (hi : (n : Nat) = i) (hn : i + 1 < M.2.2.1) (ks : List Nat) (hp : lv_pick ((i, Value.long (lI a)) :: lv.filter (fun q => !(q.1 == i) && (!(q.1 == i + 1) && !(q.1 + 1 == i && q.2.category == 2)))) ks = lv') (k : Zj g x u h (pc + 1) lv' st) : Zj g x u h pc lv (.long (lI a) :: st) := by
  obtain ⟨p, e, R, s, m, args, below, meth, c, nL, Q⟩ := x
  obtain ⟨hx, hb, hml, hnL, hown, hts, hK, hlk, hnm, hrt, hfr, hlo, hcs, hss⟩ := hx
  intro H locs ls hW hz hu hS hl
  exact lv_lstore_n hx hb hd hi hl (by rw [hnL]; exact hn) rfl (fun ls1 hl1 => k H locs ls1 hW hz hu hS (lv_sub hl1 ks hp))
theorem z_lstore {g : Gt} {x : Xt} {M : MM} {d cs ss : Nat} {u : Nat × Nat × Nat} {h : AH} {pc : Nat} {lv : List (Nat × Value)} {st : List Value}  {i : Nat} {a : Int} {lv' : List (Nat × Value)} (hx : Ok g x M d cs ss) (hd : decode M.2.1 pc = .ok (.lstore i, 2))  (hn : i + 1 < M.2.2.1) (ks : List Nat) (hp : lv_pick ((i, Value.long (lI a)) :: lv.filter (fun q => !(q.1 == i) && (!(q.1 == i + 1) && !(q.1 + 1 == i && q.2.category == 2)))) ks = lv') (k : Zj g x u h (pc + 2) lv' st) : Zj g x u h pc lv (.long (lI a) :: st) := by
  obtain ⟨p, e, R, s, m, args, below, meth, c, nL, Q⟩ := x
  obtain ⟨hx, hb, hml, hnL, hown, hts, hK, hlk, hnm, hrt, hfr, hlo, hcs, hss⟩ := hx
  intro H locs ls hW hz hu hS hl
  exact lv_lstore hx hb hd  hl (by rw [hnL]; exact hn) rfl (fun ls1 hl1 => k H locs ls1 hW hz hu hS (lv_sub hl1 ks hp))
theorem z_astore_n {g : Gt} {x : Xt} {M : MM} {d cs ss : Nat} {u : Nat × Nat × Nat} {h : AH} {pc : Nat} {lv : List (Nat × Value)} {st : List Value} {n : Fin 4} {i : Nat} {a : Nat} {lv' : List (Nat × Value)} (hx : Ok g x M d cs ss) (hd : decode M.2.1 pc = .ok (.astore_n n, 1)) (hi : (n : Nat) = i) (hn : i < M.2.2.1) (ks : List Nat) (hp : lv_pick ((i, Value.ref a) :: lv.filter (fun q => !(q.1 == i) && !(q.1 + 1 == i && q.2.category == 2))) ks = lv') (k : Zj g x u h (pc + 1) lv' st) : Zj g x u h pc lv (.ref a :: st) := by
  obtain ⟨p, e, R, s, m, args, below, meth, c, nL, Q⟩ := x
  obtain ⟨hx, hb, hml, hnL, hown, hts, hK, hlk, hnm, hrt, hfr, hlo, hcs, hss⟩ := hx
  intro H locs ls hW hz hu hS hl
  exact lv_astore_n hx hb hd hi hl (by rw [hnL]; exact hn) rfl (fun ls1 hl1 => k H locs ls1 hW hz hu hS (lv_sub hl1 ks hp))
theorem z_astore {g : Gt} {x : Xt} {M : MM} {d cs ss : Nat} {u : Nat × Nat × Nat} {h : AH} {pc : Nat} {lv : List (Nat × Value)} {st : List Value}  {i : Nat} {a : Nat} {lv' : List (Nat × Value)} (hx : Ok g x M d cs ss) (hd : decode M.2.1 pc = .ok (.astore i, 2))  (hn : i < M.2.2.1) (ks : List Nat) (hp : lv_pick ((i, Value.ref a) :: lv.filter (fun q => !(q.1 == i) && !(q.1 + 1 == i && q.2.category == 2))) ks = lv') (k : Zj g x u h (pc + 2) lv' st) : Zj g x u h pc lv (.ref a :: st) := by
  obtain ⟨p, e, R, s, m, args, below, meth, c, nL, Q⟩ := x
  obtain ⟨hx, hb, hml, hnL, hown, hts, hK, hlk, hnm, hrt, hfr, hlo, hcs, hss⟩ := hx
  intro H locs ls hW hz hu hS hl
  exact lv_astore hx hb hd  hl (by rw [hnL]; exact hn) rfl (fun ls1 hl1 => k H locs ls1 hW hz hu hS (lv_sub hl1 ks hp))
theorem z_aNstore_n {g : Gt} {x : Xt} {M : MM} {d cs ss : Nat} {u : Nat × Nat × Nat} {h : AH} {pc : Nat} {lv : List (Nat × Value)} {st : List Value} {n : Fin 4} {i : Nat}  {lv' : List (Nat × Value)} (hx : Ok g x M d cs ss) (hd : decode M.2.1 pc = .ok (.astore_n n, 1)) (hi : (n : Nat) = i) (hn : i < M.2.2.1) (ks : List Nat) (hp : lv_pick ((i, Value.null) :: lv.filter (fun q => !(q.1 == i) && !(q.1 + 1 == i && q.2.category == 2))) ks = lv') (k : Zj g x u h (pc + 1) lv' st) : Zj g x u h pc lv (.null :: st) := by
  obtain ⟨p, e, R, s, m, args, below, meth, c, nL, Q⟩ := x
  obtain ⟨hx, hb, hml, hnL, hown, hts, hK, hlk, hnm, hrt, hfr, hlo, hcs, hss⟩ := hx
  intro H locs ls hW hz hu hS hl
  exact lv_astore_nN hx hb hd hi hl (by rw [hnL]; exact hn) rfl (fun ls1 hl1 => k H locs ls1 hW hz hu hS (lv_sub hl1 ks hp))
theorem z_aNstore {g : Gt} {x : Xt} {M : MM} {d cs ss : Nat} {u : Nat × Nat × Nat} {h : AH} {pc : Nat} {lv : List (Nat × Value)} {st : List Value}  {i : Nat}  {lv' : List (Nat × Value)} (hx : Ok g x M d cs ss) (hd : decode M.2.1 pc = .ok (.astore i, 2))  (hn : i < M.2.2.1) (ks : List Nat) (hp : lv_pick ((i, Value.null) :: lv.filter (fun q => !(q.1 == i) && !(q.1 + 1 == i && q.2.category == 2))) ks = lv') (k : Zj g x u h (pc + 2) lv' st) : Zj g x u h pc lv (.null :: st) := by
  obtain ⟨p, e, R, s, m, args, below, meth, c, nL, Q⟩ := x
  obtain ⟨hx, hb, hml, hnL, hown, hts, hK, hlk, hnm, hrt, hfr, hlo, hcs, hss⟩ := hx
  intro H locs ls hW hz hu hS hl
  exact lv_astoreN hx hb hd  hl (by rw [hnL]; exact hn) rfl (fun ls1 hl1 => k H locs ls1 hW hz hu hS (lv_sub hl1 ks hp))
theorem z_iinc {g : Gt} {x : Xt} {M : MM} {d cs ss : Nat} {u : Nat × Nat × Nat} {h : AH} {pc : Nat} {lv : List (Nat × Value)} {st : List Value} {i : Nat} {n a : Int} {lv' : List (Nat × Value)} (hx : Ok g x M d cs ss) (hd : decode M.2.1 pc = .ok (.iinc i n, 3)) (hn : i < M.2.2.1) (j : Nat) (hj : lv[j]? = some (i, .int (iI a))) (ks : List Nat) (hp : lv_pick ((i, Value.int (iI (a + n))) :: lv.filter (fun q => !(q.1 == i) && !(q.1 + 1 == i && q.2.category == 2))) ks = lv') (k : Zj g x u h (pc + 3) lv' st) : Zj g x u h pc lv st := by
  obtain ⟨p, e, R, s, m, args, below, meth, c, nL, Q⟩ := x
  obtain ⟨hx, hb, hml, hnL, hown, hts, hK, hlk, hnm, hrt, hfr, hlo, hcs, hss⟩ := hx
  intro H locs ls hW hz hu hS hl
  exact lv_iinc (k := j) hx hb hd hl hj (v := iI (a + n)) (iI_add a n) (by rw [hnL]; exact hn) rfl (fun ls1 hl1 => k H locs ls1 hW hz hu hS (lv_sub hl1 ks hp))
theorem z_sub {g : Gt} {x : Xt} {u : Nat × Nat × Nat} {h : AH} {pc : Nat} {lv : List (Nat × Value)} {st : List Value} {lv' : List (Nat × Value)} (ks : List Nat) (hp : lv_pick lv ks = lv') (k : Zj g x u h pc lv' st) : Zj g x u h pc lv st := by
  obtain ⟨p, e, R, s, m, args, below, meth, c, nL, Q⟩ := x
  intro H locs ls hW hz hu hS hl
  exact k H locs ls hW hz hu hS (lv_sub hl ks hp)
theorem z_iadd {g : Gt} {x : Xt} {M : MM} {d cs ss : Nat} {u : Nat × Nat × Nat} {h : AH} {pc : Nat} {lv : List (Nat × Value)} {st : List Value} {a b : Int} (hx : Ok g x M d cs ss) (hd : decode M.2.1 pc = .ok (.iadd, 1)) (k : Zj g x u h (pc + 1) lv (.int (iI (a + b)) :: st)) : Zj g x u h pc lv (.int (iI b) :: .int (iI a) :: st) := by
  obtain ⟨p, e, R, s, m, args, below, meth, c, nL, Q⟩ := x
  obtain ⟨hx, hb, hml, hnL, hown, hts, hK, hlk, hnm, hrt, hfr, hlo, hcs, hss⟩ := hx
  intro H locs ls hW hz hu hS hl
  refine lv_iadd hx hb hd ?_
  rw [iI_add]
  exact k H locs ls hW hz hu hS hl
theorem z_isub {g : Gt} {x : Xt} {M : MM} {d cs ss : Nat} {u : Nat × Nat × Nat} {h : AH} {pc : Nat} {lv : List (Nat × Value)} {st : List Value} {a b : Int} (hx : Ok g x M d cs ss) (hd : decode M.2.1 pc = .ok (.isub, 1)) (k : Zj g x u h (pc + 1) lv (.int (iI (a - b)) :: st)) : Zj g x u h pc lv (.int (iI b) :: .int (iI a) :: st) := by
  obtain ⟨p, e, R, s, m, args, below, meth, c, nL, Q⟩ := x
  obtain ⟨hx, hb, hml, hnL, hown, hts, hK, hlk, hnm, hrt, hfr, hlo, hcs, hss⟩ := hx
  intro H locs ls hW hz hu hS hl
  refine lv_isub hx hb hd ?_
  rw [iI_sub]
  exact k H locs ls hW hz hu hS hl
theorem z_imul {g : Gt} {x : Xt} {M : MM} {d cs ss : Nat} {u : Nat × Nat × Nat} {h : AH} {pc : Nat} {lv : List (Nat × Value)} {st : List Value} {a b : Int} (hx : Ok g x M d cs ss) (hd : decode M.2.1 pc = .ok (.imul, 1)) (k : Zj g x u h (pc + 1) lv (.int (iI (a * b)) :: st)) : Zj g x u h pc lv (.int (iI b) :: .int (iI a) :: st) := by
  obtain ⟨p, e, R, s, m, args, below, meth, c, nL, Q⟩ := x
  obtain ⟨hx, hb, hml, hnL, hown, hts, hK, hlk, hnm, hrt, hfr, hlo, hcs, hss⟩ := hx
  intro H locs ls hW hz hu hS hl
  refine lv_imul hx hb hd ?_
  rw [iI_mul]
  exact k H locs ls hW hz hu hS hl
theorem z_ladd {g : Gt} {x : Xt} {M : MM} {d cs ss : Nat} {u : Nat × Nat × Nat} {h : AH} {pc : Nat} {lv : List (Nat × Value)} {st : List Value} {a b : Int} (hx : Ok g x M d cs ss) (hd : decode M.2.1 pc = .ok (.ladd, 1)) (k : Zj g x u h (pc + 1) lv (.long (lI (a + b)) :: st)) : Zj g x u h pc lv (.long (lI b) :: .long (lI a) :: st) := by
  obtain ⟨p, e, R, s, m, args, below, meth, c, nL, Q⟩ := x
  obtain ⟨hx, hb, hml, hnL, hown, hts, hK, hlk, hnm, hrt, hfr, hlo, hcs, hss⟩ := hx
  intro H locs ls hW hz hu hS hl
  refine lv_ladd hx hb hd ?_
  rw [lI_add]
  exact k H locs ls hW hz hu hS hl
theorem z_lsub {g : Gt} {x : Xt} {M : MM} {d cs ss : Nat} {u : Nat × Nat × Nat} {h : AH} {pc : Nat} {lv : List (Nat × Value)} {st : List Value} {a b : Int} (hx : Ok g x M d cs ss) (hd : decode M.2.1 pc = .ok (.lsub, 1)) (k : Zj g x u h (pc + 1) lv (.long (lI (a - b)) :: st)) : Zj g x u h pc lv (.long (lI b) :: .long (lI a) :: st) := by
  obtain ⟨p, e, R, s, m, args, below, meth, c, nL, Q⟩ := x
  obtain ⟨hx, hb, hml, hnL, hown, hts, hK, hlk, hnm, hrt, hfr, hlo, hcs, hss⟩ := hx
  intro H locs ls hW hz hu hS hl
  refine lv_lsub hx hb hd ?_
  rw [lI_sub]
  exact k H locs ls hW hz hu hS hl
theorem z_lmul {g : Gt} {x : Xt} {M : MM} {d cs ss : Nat} {u : Nat × Nat × Nat} {h : AH} {pc : Nat} {lv : List (Nat × Value)} {st : List Value} {a b : Int} (hx : Ok g x M d cs ss) (hd : decode M.2.1 pc = .ok (.lmul, 1)) (k : Zj g x u h (pc + 1) lv (.long (lI (a * b)) :: st)) : Zj g x u h pc lv (.long (lI b) :: .long (lI a) :: st) := by
  obtain ⟨p, e, R, s, m, args, below, meth, c, nL, Q⟩ := x
  obtain ⟨hx, hb, hml, hnL, hown, hts, hK, hlk, hnm, hrt, hfr, hlo, hcs, hss⟩ := hx
  intro H locs ls hW hz hu hS hl
  refine lv_lmul hx hb hd ?_
  rw [lI_mul]
  exact k H locs ls hW hz hu hS hl
theorem z_ineg {g : Gt} {x : Xt} {M : MM} {d cs ss : Nat} {u : Nat × Nat × Nat} {h : AH} {pc : Nat} {lv : List (Nat × Value)} {st : List Value} {a : Int} (hx : Ok g x M d cs ss) (hd : decode M.2.1 pc = .ok (.ineg, 1)) (k : Zj g x u h (pc + 1) lv (.int (iI (-a)) :: st)) : Zj g x u h pc lv (.int (iI a) :: st) := by
  obtain ⟨p, e, R, s, m, args, below, meth, c, nL, Q⟩ := x
  obtain ⟨hx, hb, hml, hnL, hown, hts, hK, hlk, hnm, hrt, hfr, hlo, hcs, hss⟩ := hx
  intro H locs ls hW hz hu hS hl
  refine lv_ineg hx hb hd ?_
  rw [iI_neg]
  exact k H locs ls hW hz hu hS hl
theorem z_idiv {g : Gt} {x : Xt} {M : MM} {d cs ss : Nat} {u : Nat × Nat × Nat} {h : AH} {pc : Nat} {lv : List (Nat × Value)} {st : List Value} {a b : Int} (hx : Ok g x M d cs ss) (hd : decode M.2.1 pc = .ok (.idiv, 1)) (ha2 : 0 ≤ a ∧ a < 2147483648) (hb2 : 0 < b ∧ b < 2147483648) (k : Zj g x u h (pc + 1) lv (.int (iI (a / b)) :: st)) : Zj g x u h pc lv (.int (iI b) :: .int (iI a) :: st) := by
  obtain ⟨p, e, R, s, m, args, below, meth, c, nL, Q⟩ := x
  obtain ⟨hx, hb, hml, hnL, hown, hts, hK, hlk, hnm, hrt, hfr, hlo, hcs, hss⟩ := hx
  intro H locs ls hW hz hu hS hl
  refine lv_idiv hx hb hd (i0n ⟨by omega, hb2.2⟩ (by omega)) ?_
  rw [iI_div ha2 hb2]
  exact k H locs ls hW hz hu hS hl
theorem z_irem {g : Gt} {x : Xt} {M : MM} {d cs ss : Nat} {u : Nat × Nat × Nat} {h : AH} {pc : Nat} {lv : List (Nat × Value)} {st : List Value} {a b : Int} (hx : Ok g x M d cs ss) (hd : decode M.2.1 pc = .ok (.irem, 1)) (ha2 : 0 ≤ a ∧ a < 2147483648) (hb2 : 0 < b ∧ b < 2147483648) (k : Zj g x u h (pc + 1) lv (.int (iI (a % b)) :: st)) : Zj g x u h pc lv (.int (iI b) :: .int (iI a) :: st) := by
  obtain ⟨p, e, R, s, m, args, below, meth, c, nL, Q⟩ := x
  obtain ⟨hx, hb, hml, hnL, hown, hts, hK, hlk, hnm, hrt, hfr, hlo, hcs, hss⟩ := hx
  intro H locs ls hW hz hu hS hl
  refine lv_irem hx hb hd (i0n ⟨by omega, hb2.2⟩ (by omega)) ?_
  rw [iI_rem ha2 hb2]
  exact k H locs ls hW hz hu hS hl
theorem z_ldiv {g : Gt} {x : Xt} {M : MM} {d cs ss : Nat} {u : Nat × Nat × Nat} {h : AH} {pc : Nat} {lv : List (Nat × Value)} {st : List Value} {a b : Int} (hx : Ok g x M d cs ss) (hd : decode M.2.1 pc = .ok (.ldiv, 1)) (ha2 : 0 ≤ a ∧ a < 9223372036854775808) (hb2 : 0 < b ∧ b < 9223372036854775808) (k : Zj g x u h (pc + 1) lv (.long (lI (a / b)) :: st)) : Zj g x u h pc lv (.long (lI b) :: .long (lI a) :: st) := by
  obtain ⟨p, e, R, s, m, args, below, meth, c, nL, Q⟩ := x
  obtain ⟨hx, hb, hml, hnL, hown, hts, hK, hlk, hnm, hrt, hfr, hlo, hcs, hss⟩ := hx
  intro H locs ls hW hz hu hS hl
  refine lv_ldiv hx hb hd (l0n ⟨by omega, hb2.2⟩ (by omega)) ?_
  rw [lI_div ha2 hb2]
  exact k H locs ls hW hz hu hS hl
theorem z_lrem {g : Gt} {x : Xt} {M : MM} {d cs ss : Nat} {u : Nat × Nat × Nat} {h : AH} {pc : Nat} {lv : List (Nat × Value)} {st : List Value} {a b : Int} (hx : Ok g x M d cs ss) (hd : decode M.2.1 pc = .ok (.lrem, 1)) (ha2 : 0 ≤ a ∧ a < 9223372036854775808) (hb2 : 0 < b ∧ b < 9223372036854775808) (k : Zj g x u h (pc + 1) lv (.long (lI (a % b)) :: st)) : Zj g x u h pc lv (.long (lI b) :: .long (lI a) :: st) := by
  obtain ⟨p, e, R, s, m, args, below, meth, c, nL, Q⟩ := x
  obtain ⟨hx, hb, hml, hnL, hown, hts, hK, hlk, hnm, hrt, hfr, hlo, hcs, hss⟩ := hx
  intro H locs ls hW hz hu hS hl
  refine lv_lrem hx hb hd (l0n ⟨by omega, hb2.2⟩ (by omega)) ?_
  rw [lI_rem ha2 hb2]
  exact k H locs ls hW hz hu hS hl
def andI (a b : Int) : Int := ((iI a &&& iI b)).toInt
theorem z_iand {g : Gt} {x : Xt} {M : MM} {d cs ss : Nat} {u : Nat × Nat × Nat} {h : AH} {pc : Nat} {lv : List (Nat × Value)} {st : List Value} {a b : Int} (hx : Ok g x M d cs ss) (hd : decode M.2.1 pc = .ok (.iand, 1)) (k : Zj g x u h (pc + 1) lv (.int (iI (andI a b)) :: st)) : Zj g x u h pc lv (.int (iI b) :: .int (iI a) :: st) := by
  obtain ⟨p, e, R, s, m, args, below, meth, c, nL, Q⟩ := x
  obtain ⟨hx, hb, hml, hnL, hown, hts, hK, hlk, hnm, hrt, hfr, hlo, hcs, hss⟩ := hx
  intro H locs ls hW hz hu hS hl
  refine lv_iand hx hb hd ?_
  have hk := k H locs ls hW hz hu hS hl
  unfold andI at hk
  rw [iI_of] at hk
  exact hk
def orI (a b : Int) : Int := ((iI a ||| iI b)).toInt
theorem z_ior {g : Gt} {x : Xt} {M : MM} {d cs ss : Nat} {u : Nat × Nat × Nat} {h : AH} {pc : Nat} {lv : List (Nat × Value)} {st : List Value} {a b : Int} (hx : Ok g x M d cs ss) (hd : decode M.2.1 pc = .ok (.ior, 1)) (k : Zj g x u h (pc + 1) lv (.int (iI (orI a b)) :: st)) : Zj g x u h pc lv (.int (iI b) :: .int (iI a) :: st) := by
  obtain ⟨p, e, R, s, m, args, below, meth, c, nL, Q⟩ := x
  obtain ⟨hx, hb, hml, hnL, hown, hts, hK, hlk, hnm, hrt, hfr, hlo, hcs, hss⟩ := hx
  intro H locs ls hW hz hu hS hl
  refine lv_ior hx hb hd ?_
  have hk := k H locs ls hW hz hu hS hl
  unfold orI at hk
  rw [iI_of] at hk
  exact hk
def xorI (a b : Int) : Int := ((iI a ^^^ iI b)).toInt
theorem z_ixor {g : Gt} {x : Xt} {M : MM} {d cs ss : Nat} {u : Nat × Nat × Nat} {h : AH} {pc : Nat} {lv : List (Nat × Value)} {st : List Value} {a b : Int} (hx : Ok g x M d cs ss) (hd : decode M.2.1 pc = .ok (.ixor, 1)) (k : Zj g x u h (pc + 1) lv (.int (iI (xorI a b)) :: st)) : Zj g x u h pc lv (.int (iI b) :: .int (iI a) :: st) := by
  obtain ⟨p, e, R, s, m, args, below, meth, c, nL, Q⟩ := x
  obtain ⟨hx, hb, hml, hnL, hown, hts, hK, hlk, hnm, hrt, hfr, hlo, hcs, hss⟩ := hx
  intro H locs ls hW hz hu hS hl
  refine lv_ixor hx hb hd ?_
  have hk := k H locs ls hW hz hu hS hl
  unfold xorI at hk
  rw [iI_of] at hk
  exact hk
def shlI (a b : Int) : Int := ((iI a <<< (iI b &&& 31))).toInt
theorem z_ishl {g : Gt} {x : Xt} {M : MM} {d cs ss : Nat} {u : Nat × Nat × Nat} {h : AH} {pc : Nat} {lv : List (Nat × Value)} {st : List Value} {a b : Int} (hx : Ok g x M d cs ss) (hd : decode M.2.1 pc = .ok (.ishl, 1)) (k : Zj g x u h (pc + 1) lv (.int (iI (shlI a b)) :: st)) : Zj g x u h pc lv (.int (iI b) :: .int (iI a) :: st) := by
  obtain ⟨p, e, R, s, m, args, below, meth, c, nL, Q⟩ := x
  obtain ⟨hx, hb, hml, hnL, hown, hts, hK, hlk, hnm, hrt, hfr, hlo, hcs, hss⟩ := hx
  intro H locs ls hW hz hu hS hl
  refine lv_ishl hx hb hd ?_
  have hk := k H locs ls hW hz hu hS hl
  unfold shlI at hk
  rw [iI_of] at hk
  exact hk
def shrI (a b : Int) : Int := ((iI a >>> (iI b &&& 31))).toInt
theorem z_ishr {g : Gt} {x : Xt} {M : MM} {d cs ss : Nat} {u : Nat × Nat × Nat} {h : AH} {pc : Nat} {lv : List (Nat × Value)} {st : List Value} {a b : Int} (hx : Ok g x M d cs ss) (hd : decode M.2.1 pc = .ok (.ishr, 1)) (k : Zj g x u h (pc + 1) lv (.int (iI (shrI a b)) :: st)) : Zj g x u h pc lv (.int (iI b) :: .int (iI a) :: st) := by
  obtain ⟨p, e, R, s, m, args, below, meth, c, nL, Q⟩ := x
  obtain ⟨hx, hb, hml, hnL, hown, hts, hK, hlk, hnm, hrt, hfr, hlo, hcs, hss⟩ := hx
  intro H locs ls hW hz hu hS hl
  refine lv_ishr hx hb hd ?_
  have hk := k H locs ls hW hz hu hS hl
  unfold shrI at hk
  rw [iI_of] at hk
  exact hk
def ushrI (a b : Int) : Int := ((iI a).toUInt32 >>> ((iI b).toUInt32 &&& Int32.toUInt32 31)).toInt32.toInt
theorem z_iushr {g : Gt} {x : Xt} {M : MM} {d cs ss : Nat} {u : Nat × Nat × Nat} {h : AH} {pc : Nat} {lv : List (Nat × Value)} {st : List Value} {a b : Int} (hx : Ok g x M d cs ss) (hd : decode M.2.1 pc = .ok (.iushr, 1)) (k : Zj g x u h (pc + 1) lv (.int (iI (ushrI a b)) :: st)) : Zj g x u h pc lv (.int (iI b) :: .int (iI a) :: st) := by
  obtain ⟨p, e, R, s, m, args, below, meth, c, nL, Q⟩ := x
  obtain ⟨hx, hb, hml, hnL, hown, hts, hK, hlk, hnm, hrt, hfr, hlo, hcs, hss⟩ := hx
  intro H locs ls hW hz hu hS hl
  refine lv_iushr hx hb hd rfl ?_
  have hk := k H locs ls hW hz hu hS hl
  unfold ushrI at hk
  rw [iI_of] at hk
  exact hk
theorem z_i2l {g : Gt} {x : Xt} {M : MM} {d cs ss : Nat} {u : Nat × Nat × Nat} {h : AH} {pc : Nat} {lv : List (Nat × Value)} {st : List Value} {a : Int} (hx : Ok g x M d cs ss) (hd : decode M.2.1 pc = .ok (.i2l, 1)) (ha : -2147483648 ≤ a ∧ a < 2147483648) (k : Zj g x u h (pc + 1) lv (.long (lI a) :: st)) : Zj g x u h pc lv (.int (iI a) :: st) := by
  obtain ⟨p, e, R, s, m, args, below, meth, c, nL, Q⟩ := x
  obtain ⟨hx, hb, hml, hnL, hown, hts, hK, hlk, hnm, hrt, hfr, hlo, hcs, hss⟩ := hx
  intro H locs ls hW hz hu hS hl
  exact lv_i2l hx hb hd (iI_l ha) (k H locs ls hW hz hu hS hl)
theorem z_l2i {g : Gt} {x : Xt} {M : MM} {d cs ss : Nat} {u : Nat × Nat × Nat} {h : AH} {pc : Nat} {lv : List (Nat × Value)} {st : List Value} {a : Int} (hx : Ok g x M d cs ss) (hd : decode M.2.1 pc = .ok (.l2i, 1)) (k : Zj g x u h (pc + 1) lv (.int (iI a) :: st)) : Zj g x u h pc lv (.long (lI a) :: st) := by
  obtain ⟨p, e, R, s, m, args, below, meth, c, nL, Q⟩ := x
  obtain ⟨hx, hb, hml, hnL, hown, hts, hK, hlk, hnm, hrt, hfr, hlo, hcs, hss⟩ := hx
  intro H locs ls hW hz hu hS hl
  exact lv_l2i hx hb hd (lI_i a) (k H locs ls hW hz hu hS hl)
theorem i2c_ok {a : Int} (h : 0 ≤ a ∧ a < 65536) : ((iI a).toUInt32 % 65536).toInt32 = iI a := by
  rw [pk_char]
  have h1 : (iI a).toBitVec.toNat = a.toNat := by
    have h2 : (iI a).toBitVec.toInt = a := iI_toInt ⟨by omega, by omega⟩
    rw [BitVec.toInt_eq_toNat_cond] at h2
    have h3 := (iI a).toBitVec.isLt
    split at h2 <;> omega
  rw [h1]
  show Int32.ofNat (a.toNat % 65536) = Int32.ofInt a
  rw [Nat.mod_eq_of_lt (by omega)]
  show Int32.ofInt ((a.toNat : Nat) : Int) = _
  rw [Int.toNat_of_nonneg h.1]
theorem z_i2c {g : Gt} {x : Xt} {M : MM} {d cs ss : Nat} {u : Nat × Nat × Nat} {h : AH} {pc : Nat} {lv : List (Nat × Value)} {st : List Value} {a : Int} (hx : Ok g x M d cs ss) (hd : decode M.2.1 pc = .ok (.i2c, 1)) (ha : 0 ≤ a ∧ a < 65536) (k : Zj g x u h (pc + 1) lv (.int (iI a) :: st)) : Zj g x u h pc lv (.int (iI a) :: st) := by
  obtain ⟨p, e, R, s, m, args, below, meth, c, nL, Q⟩ := x
  obtain ⟨hx, hb, hml, hnL, hown, hts, hK, hlk, hnm, hrt, hfr, hlo, hcs, hss⟩ := hx
  intro H locs ls hW hz hu hS hl
  exact lv_i2c hx hb hd (i2c_ok ha) (k H locs ls hW hz hu hS hl)
def cmpI (a b : Int) : Int := if a < b then -1 else if a = b then 0 else 1
theorem lg_cmp_ok {a b : Int} (ha : -9223372036854775808 ≤ a ∧ a < 9223372036854775808) (hb : -9223372036854775808 ≤ b ∧ b < 9223372036854775808) : lg_cmp (lI a) (lI b) = iI (cmpI a b) := by
  unfold lg_cmp cmpI
  have h1 := lI_lt ha hb
  have h2 := lI_eq ha hb
  have h3 := lI_lt hb ha
  rcases Int.lt_trichotomy a b with c1 | c1 | c1
  · rw [if_neg (fun w => absurd (h3.mp w) (by omega)), if_neg (fun w => absurd (h2.mp w) (by omega)), if_pos c1]; decide
  · subst c1
    rw [if_neg (fun w => absurd (h3.mp w) (by omega)), if_pos rfl, if_neg (by omega), if_pos rfl]; decide
  · rw [if_pos (h3.mpr c1), if_neg (by omega), if_neg (by omega)]; decide
theorem z_lcmp {g : Gt} {x : Xt} {M : MM} {d cs ss : Nat} {u : Nat × Nat × Nat} {h : AH} {pc : Nat} {lv : List (Nat × Value)} {st : List Value} {a b : Int} (hx : Ok g x M d cs ss) (hd : decode M.2.1 pc = .ok (.lcmp, 1)) (ha : -9223372036854775808 ≤ a ∧ a < 9223372036854775808) (hb2 : -9223372036854775808 ≤ b ∧ b < 9223372036854775808) (k : Zj g x u h (pc + 1) lv (.int (iI (cmpI a b)) :: st)) : Zj g x u h pc lv (.long (lI b) :: .long (lI a) :: st) := by
  obtain ⟨p, e, R, s, m, args, below, meth, c, nL, Q⟩ := x
  obtain ⟨hx, hb, hml, hnL, hown, hts, hK, hlk, hnm, hrt, hfr, hlo, hcs, hss⟩ := hx
  intro H locs ls hW hz hu hS hl
  refine W.lcmp hx hb hd ?_
  rw [lg_cmp_ok ha hb2]
  exact k H locs ls hW hz hu hS hl
theorem z_dup {g : Gt} {x : Xt} {M : MM} {d cs ss : Nat} {u : Nat × Nat × Nat} {h : AH} {pc : Nat} {lv : List (Nat × Value)} {st : List Value} {va : Value} (hx : Ok g x M d cs ss) (hd : decode M.2.1 pc = .ok (.dup, 1)) (hva : va.category = 1) (k : Zj g x u h (pc + 1) lv (va :: va :: st)) : Zj g x u h pc lv (va :: st) := by
  obtain ⟨p, e, R, s, m, args, below, meth, c, nL, Q⟩ := x
  obtain ⟨hx, hb, hml, hnL, hown, hts, hK, hlk, hnm, hrt, hfr, hlo, hcs, hss⟩ := hx
  intro H locs ls hW hz hu hS hl
  exact lv_dup hx hb hd hva (k H locs ls hW hz hu hS hl)
theorem z_pop {g : Gt} {x : Xt} {M : MM} {d cs ss : Nat} {u : Nat × Nat × Nat} {h : AH} {pc : Nat} {lv : List (Nat × Value)} {st : List Value} {va : Value} (hx : Ok g x M d cs ss) (hd : decode M.2.1 pc = .ok (.pop, 1)) (hva : va.category = 1) (k : Zj g x u h (pc + 1) lv st) : Zj g x u h pc lv (va :: st) := by
  obtain ⟨p, e, R, s, m, args, below, meth, c, nL, Q⟩ := x
  obtain ⟨hx, hb, hml, hnL, hown, hts, hK, hlk, hnm, hrt, hfr, hlo, hcs, hss⟩ := hx
  intro H locs ls hW hz hu hS hl
  exact lv_pop hx hb hd hva (k H locs ls hW hz hu hS hl)
theorem z_dup2 {g : Gt} {x : Xt} {M : MM} {d cs ss : Nat} {u : Nat × Nat × Nat} {h : AH} {pc : Nat} {lv : List (Nat × Value)} {st : List Value} {va vb : Value} (hx : Ok g x M d cs ss) (hd : decode M.2.1 pc = .ok (.dup2, 1)) (hva : va.category = 1) (hvb : vb.category = 1) (k : Zj g x u h (pc + 1) lv (va :: vb :: va :: vb :: st)) : Zj g x u h pc lv (va :: vb :: st) := by
  obtain ⟨p, e, R, s, m, args, below, meth, c, nL, Q⟩ := x
  obtain ⟨hx, hb, hml, hnL, hown, hts, hK, hlk, hnm, hrt, hfr, hlo, hcs, hss⟩ := hx
  intro H locs ls hW hz hu hS hl
  exact lv_dup2_11 hx hb hd hva hvb (k H locs ls hW hz hu hS hl)
theorem z_icmp_eq {g : Gt} {x : Xt} {M : MM} {d cs ss : Nat} {u : Nat × Nat × Nat} {h : AH} {pc : Nat} {lv : List (Nat × Value)} {st : List Value} {a b : Int} {off : Int} {tgt : Nat} (hx : Ok g x M d cs ss) (hd : decode M.2.1 pc = .ok (.if_icmp .eq off, 3)) (ht : (pc : Int) + off = (tgt : Int)) (ha : -2147483648 ≤ a ∧ a < 2147483648) (hb2 : -2147483648 ≤ b ∧ b < 2147483648) (k1 : a = b → Zj g x u h tgt lv st) (k2 : a ≠ b → Zj g x u h (pc + 3) lv st) : Zj g x u h pc lv (.int (iI b) :: .int (iI a) :: st) := by
  obtain ⟨p, e, R, s, m, args, below, meth, c, nL, Q⟩ := x
  obtain ⟨hx, hb, hml, hnL, hown, hts, hK, hlk, hnm, hrt, hfr, hlo, hcs, hss⟩ := hx
  intro H locs ls hW hz hu hS hl
  have e1 := iI_lt ha hb2
  have e2 := iI_le ha hb2
  have e3 := iI_lt hb2 ha
  have e4 := iI_le hb2 ha
  have e5 := iI_eq ha hb2
  refine lv_icmp_eq hx hb hd ht (fun q => k1 ?_ H locs ls hW hz hu hS hl) (fun q => k2 ?_ H locs ls hW hz hu hS hl)
  · first | exact e5.mp q | (intro w; exact q (e5.mpr w))
  · first | exact e5.mp q | (intro w; exact q (e5.mpr w)) | exact Int.not_lt.mp (fun w => q (e5.mpr w)) | exact Int.not_le.mp (fun w => q (e5.mpr w))
theorem z_if_eq {g : Gt} {x : Xt} {M : MM} {d cs ss : Nat} {u : Nat × Nat × Nat} {h : AH} {pc : Nat} {lv : List (Nat × Value)} {st : List Value} {a : Int} {off : Int} {tgt : Nat} (hx : Ok g x M d cs ss) (hd : decode M.2.1 pc = .ok (.ifCond .eq off, 3)) (ht : (pc : Int) + off = (tgt : Int)) (ha : -2147483648 ≤ a ∧ a < 2147483648) (k1 : a = 0 → Zj g x u h tgt lv st) (k2 : a ≠ 0 → Zj g x u h (pc + 3) lv st) : Zj g x u h pc lv (.int (iI a) :: st) := by
  obtain ⟨p, e, R, s, m, args, below, meth, c, nL, Q⟩ := x
  obtain ⟨hx, hb, hml, hnL, hown, hts, hK, hlk, hnm, hrt, hfr, hlo, hcs, hss⟩ := hx
  intro H locs ls hW hz hu hS hl
  have hb2 : -2147483648 ≤ (0 : Int) ∧ (0 : Int) < 2147483648 := by decide
  have e1 := iI_lt ha hb2
  have e2 := iI_le ha hb2
  have e3 := iI_lt hb2 ha
  have e4 := iI_le hb2 ha
  have e5 := iI_eq ha hb2
  rw [← i0] at e1 e2 e3 e4 e5
  refine lv_if_eq hx hb hd ht (fun q => k1 ?_ H locs ls hW hz hu hS hl) (fun q => k2 ?_ H locs ls hW hz hu hS hl)
  · first | exact e5.mp q | (intro w; exact q (e5.mpr w))
  · first | exact e5.mp q | (intro w; exact q (e5.mpr w)) | exact Int.not_lt.mp (fun w => q (e5.mpr w)) | exact Int.not_le.mp (fun w => q (e5.mpr w))
theorem z_icmp_ne {g : Gt} {x : Xt} {M : MM} {d cs ss : Nat} {u : Nat × Nat × Nat} {h : AH} {pc : Nat} {lv : List (Nat × Value)} {st : List Value} {a b : Int} {off : Int} {tgt : Nat} (hx : Ok g x M d cs ss) (hd : decode M.2.1 pc = .ok (.if_icmp .ne off, 3)) (ht : (pc : Int) + off = (tgt : Int)) (ha : -2147483648 ≤ a ∧ a < 2147483648) (hb2 : -2147483648 ≤ b ∧ b < 2147483648) (k1 : a ≠ b → Zj g x u h tgt lv st) (k2 : a = b → Zj g x u h (pc + 3) lv st) : Zj g x u h pc lv (.int (iI b) :: .int (iI a) :: st) := by
  obtain ⟨p, e, R, s, m, args, below, meth, c, nL, Q⟩ := x
  obtain ⟨hx, hb, hml, hnL, hown, hts, hK, hlk, hnm, hrt, hfr, hlo, hcs, hss⟩ := hx
  intro H locs ls hW hz hu hS hl
  have e1 := iI_lt ha hb2
  have e2 := iI_le ha hb2
  have e3 := iI_lt hb2 ha
  have e4 := iI_le hb2 ha
  have e5 := iI_eq ha hb2
  refine lv_icmp_ne hx hb hd ht (fun q => k1 ?_ H locs ls hW hz hu hS hl) (fun q => k2 ?_ H locs ls hW hz hu hS hl)
  · first | exact e5.mp q | (intro w; exact q (e5.mpr w))
  · first | exact e5.mp q | (intro w; exact q (e5.mpr w)) | exact Int.not_lt.mp (fun w => q (e5.mpr w)) | exact Int.not_le.mp (fun w => q (e5.mpr w))
theorem z_if_ne {g : Gt} {x : Xt} {M : MM} {d cs ss : Nat} {u : Nat × Nat × Nat} {h : AH} {pc : Nat} {lv : List (Nat × Value)} {st : List Value} {a : Int} {off : Int} {tgt : Nat} (hx : Ok g x M d cs ss) (hd : decode M.2.1 pc = .ok (.ifCond .ne off, 3)) (ht : (pc : Int) + off = (tgt : Int)) (ha : -2147483648 ≤ a ∧ a < 2147483648) (k1 : a ≠ 0 → Zj g x u h tgt lv st) (k2 : a = 0 → Zj g x u h (pc + 3) lv st) : Zj g x u h pc lv (.int (iI a) :: st) := by
  obtain ⟨p, e, R, s, m, args, below, meth, c, nL, Q⟩ := x
  obtain ⟨hx, hb, hml, hnL, hown, hts, hK, hlk, hnm, hrt, hfr, hlo, hcs, hss⟩ := hx
  intro H locs ls hW hz hu hS hl
  have hb2 : -2147483648 ≤ (0 : Int) ∧ (0 : Int) < 2147483648 := by decide
  have e1 := iI_lt ha hb2
  have e2 := iI_le ha hb2
  have e3 := iI_lt hb2 ha
  have e4 := iI_le hb2 ha
  have e5 := iI_eq ha hb2
  rw [← i0] at e1 e2 e3 e4 e5
  refine lv_if_ne hx hb hd ht (fun q => k1 ?_ H locs ls hW hz hu hS hl) (fun q => k2 ?_ H locs ls hW hz hu hS hl)
  · first | exact e5.mp q | (intro w; exact q (e5.mpr w))
  · first | exact e5.mp q | (intro w; exact q (e5.mpr w)) | exact Int.not_lt.mp (fun w => q (e5.mpr w)) | exact Int.not_le.mp (fun w => q (e5.mpr w))
theorem z_icmp_lt {g : Gt} {x : Xt} {M : MM} {d cs ss : Nat} {u : Nat × Nat × Nat} {h : AH} {pc : Nat} {lv : List (Nat × Value)} {st : List Value} {a b : Int} {off : Int} {tgt : Nat} (hx : Ok g x M d cs ss) (hd : decode M.2.1 pc = .ok (.if_icmp .lt off, 3)) (ht : (pc : Int) + off = (tgt : Int)) (ha : -2147483648 ≤ a ∧ a < 2147483648) (hb2 : -2147483648 ≤ b ∧ b < 2147483648) (k1 : a < b → Zj g x u h tgt lv st) (k2 : b ≤ a → Zj g x u h (pc + 3) lv st) : Zj g x u h pc lv (.int (iI b) :: .int (iI a) :: st) := by
  obtain ⟨p, e, R, s, m, args, below, meth, c, nL, Q⟩ := x
  obtain ⟨hx, hb, hml, hnL, hown, hts, hK, hlk, hnm, hrt, hfr, hlo, hcs, hss⟩ := hx
  intro H locs ls hW hz hu hS hl
  have e1 := iI_lt ha hb2
  have e2 := iI_le ha hb2
  have e3 := iI_lt hb2 ha
  have e4 := iI_le hb2 ha
  have e5 := iI_eq ha hb2
  refine lv_icmp_lt hx hb hd ht (fun q => k1 ?_ H locs ls hW hz hu hS hl) (fun q => k2 ?_ H locs ls hW hz hu hS hl)
  · first | exact e1.mp q | (intro w; exact q (e1.mpr w))
  · first | exact e1.mp q | (intro w; exact q (e1.mpr w)) | exact Int.not_lt.mp (fun w => q (e1.mpr w)) | exact Int.not_le.mp (fun w => q (e1.mpr w))
theorem z_if_lt {g : Gt} {x : Xt} {M : MM} {d cs ss : Nat} {u : Nat × Nat × Nat} {h : AH} {pc : Nat} {lv : List (Nat × Value)} {st : List Value} {a : Int} {off : Int} {tgt : Nat} (hx : Ok g x M d cs ss) (hd : decode M.2.1 pc = .ok (.ifCond .lt off, 3)) (ht : (pc : Int) + off = (tgt : Int)) (ha : -2147483648 ≤ a ∧ a < 2147483648) (k1 : a < 0 → Zj g x u h tgt lv st) (k2 : 0 ≤ a → Zj g x u h (pc + 3) lv st) : Zj g x u h pc lv (.int (iI a) :: st) := by
  obtain ⟨p, e, R, s, m, args, below, meth, c, nL, Q⟩ := x
  obtain ⟨hx, hb, hml, hnL, hown, hts, hK, hlk, hnm, hrt, hfr, hlo, hcs, hss⟩ := hx
  intro H locs ls hW hz hu hS hl
  have hb2 : -2147483648 ≤ (0 : Int) ∧ (0 : Int) < 2147483648 := by decide
  have e1 := iI_lt ha hb2
  have e2 := iI_le ha hb2
  have e3 := iI_lt hb2 ha
  have e4 := iI_le hb2 ha
  have e5 := iI_eq ha hb2
  rw [← i0] at e1 e2 e3 e4 e5
  refine lv_if_lt hx hb hd ht (fun q => k1 ?_ H locs ls hW hz hu hS hl) (fun q => k2 ?_ H locs ls hW hz hu hS hl)
  · first | exact e1.mp q | (intro w; exact q (e1.mpr w))
  · first | exact e1.mp q | (intro w; exact q (e1.mpr w)) | exact Int.not_lt.mp (fun w => q (e1.mpr w)) | exact Int.not_le.mp (fun w => q (e1.mpr w))
theorem z_icmp_ge {g : Gt} {x : Xt} {M : MM} {d cs ss : Nat} {u : Nat × Nat × Nat} {h : AH} {pc : Nat} {lv : List (Nat × Value)} {st : List Value} {a b : Int} {off : Int} {tgt : Nat} (hx : Ok g x M d cs ss) (hd : decode M.2.1 pc = .ok (.if_icmp .ge off, 3)) (ht : (pc : Int) + off = (tgt : Int)) (ha : -2147483648 ≤ a ∧ a < 2147483648) (hb2 : -2147483648 ≤ b ∧ b < 2147483648) (k1 : b ≤ a → Zj g x u h tgt lv st) (k2 : a < b → Zj g x u h (pc + 3) lv st) : Zj g x u h pc lv (.int (iI b) :: .int (iI a) :: st) := by
  obtain ⟨p, e, R, s, m, args, below, meth, c, nL, Q⟩ := x
  obtain ⟨hx, hb, hml, hnL, hown, hts, hK, hlk, hnm, hrt, hfr, hlo, hcs, hss⟩ := hx
  intro H locs ls hW hz hu hS hl
  have e1 := iI_lt ha hb2
  have e2 := iI_le ha hb2
  have e3 := iI_lt hb2 ha
  have e4 := iI_le hb2 ha
  have e5 := iI_eq ha hb2
  refine lv_icmp_ge hx hb hd ht (fun q => k1 ?_ H locs ls hW hz hu hS hl) (fun q => k2 ?_ H locs ls hW hz hu hS hl)
  · first | exact e4.mp q | (intro w; exact q (e4.mpr w))
  · first | exact e4.mp q | (intro w; exact q (e4.mpr w)) | exact Int.not_lt.mp (fun w => q (e4.mpr w)) | exact Int.not_le.mp (fun w => q (e4.mpr w))
theorem z_if_ge {g : Gt} {x : Xt} {M : MM} {d cs ss : Nat} {u : Nat × Nat × Nat} {h : AH} {pc : Nat} {lv : List (Nat × Value)} {st : List Value} {a : Int} {off : Int} {tgt : Nat} (hx : Ok g x M d cs ss) (hd : decode M.2.1 pc = .ok (.ifCond .ge off, 3)) (ht : (pc : Int) + off = (tgt : Int)) (ha : -2147483648 ≤ a ∧ a < 2147483648) (k1 : 0 ≤ a → Zj g x u h tgt lv st) (k2 : a < 0 → Zj g x u h (pc + 3) lv st) : Zj g x u h pc lv (.int (iI a) :: st) := by
  obtain ⟨p, e, R, s, m, args, below, meth, c, nL, Q⟩ := x
  obtain ⟨hx, hb, hml, hnL, hown, hts, hK, hlk, hnm, hrt, hfr, hlo, hcs, hss⟩ := hx
  intro H locs ls hW hz hu hS hl
  have hb2 : -2147483648 ≤ (0 : Int) ∧ (0 : Int) < 2147483648 := by decide
  have e1 := iI_lt ha hb2
  have e2 := iI_le ha hb2
  have e3 := iI_lt hb2 ha
  have e4 := iI_le hb2 ha
  have e5 := iI_eq ha hb2
  rw [← i0] at e1 e2 e3 e4 e5
  refine lv_if_ge hx hb hd ht (fun q => k1 ?_ H locs ls hW hz hu hS hl) (fun q => k2 ?_ H locs ls hW hz hu hS hl)
  · first | exact e4.mp q | (intro w; exact q (e4.mpr w))
  · first | exact e4.mp q | (intro w; exact q (e4.mpr w)) | exact Int.not_lt.mp (fun w => q (e4.mpr w)) | exact Int.not_le.mp (fun w => q (e4.mpr w))
theorem z_icmp_gt {g : Gt} {x : Xt} {M : MM} {d cs ss : Nat} {u : Nat × Nat × Nat} {h : AH} {pc : Nat} {lv : List (Nat × Value)} {st : List Value} {a b : Int} {off : Int} {tgt : Nat} (hx : Ok g x M d cs ss) (hd : decode M.2.1 pc = .ok (.if_icmp .gt off, 3)) (ht : (pc : Int) + off = (tgt : Int)) (ha : -2147483648 ≤ a ∧ a < 2147483648) (hb2 : -2147483648 ≤ b ∧ b < 2147483648) (k1 : b < a → Zj g x u h tgt lv st) (k2 : a ≤ b → Zj g x u h (pc + 3) lv st) : Zj g x u h pc lv (.int (iI b) :: .int (iI a) :: st) := by
  obtain ⟨p, e, R, s, m, args, below, meth, c, nL, Q⟩ := x
  obtain ⟨hx, hb, hml, hnL, hown, hts, hK, hlk, hnm, hrt, hfr, hlo, hcs, hss⟩ := hx
  intro H locs ls hW hz hu hS hl
  have e1 := iI_lt ha hb2
  have e2 := iI_le ha hb2
  have e3 := iI_lt hb2 ha
  have e4 := iI_le hb2 ha
  have e5 := iI_eq ha hb2
  refine lv_icmp_gt hx hb hd ht (fun q => k1 ?_ H locs ls hW hz hu hS hl) (fun q => k2 ?_ H locs ls hW hz hu hS hl)
  · first | exact e3.mp q | (intro w; exact q (e3.mpr w))
  · first | exact e3.mp q | (intro w; exact q (e3.mpr w)) | exact Int.not_lt.mp (fun w => q (e3.mpr w)) | exact Int.not_le.mp (fun w => q (e3.mpr w))
theorem z_if_gt {g : Gt} {x : Xt} {M : MM} {d cs ss : Nat} {u : Nat × Nat × Nat} {h : AH} {pc : Nat} {lv : List (Nat × Value)} {st : List Value} {a : Int} {off : Int} {tgt : Nat} (hx : Ok g x M d cs ss) (hd : decode M.2.1 pc = .ok (.ifCond .gt off, 3)) (ht : (pc : Int) + off = (tgt : Int)) (ha : -2147483648 ≤ a ∧ a < 2147483648) (k1 : 0 < a → Zj g x u h tgt lv st) (k2 : a ≤ 0 → Zj g x u h (pc + 3) lv st) : Zj g x u h pc lv (.int (iI a) :: st) := by
  obtain ⟨p, e, R, s, m, args, below, meth, c, nL, Q⟩ := x
  obtain ⟨hx, hb, hml, hnL, hown, hts, hK, hlk, hnm, hrt, hfr, hlo, hcs, hss⟩ := hx
  intro H locs ls hW hz hu hS hl
  have hb2 : -2147483648 ≤ (0 : Int) ∧ (0 : Int) < 2147483648 := by decide
  have e1 := iI_lt ha hb2
  have e2 := iI_le ha hb2
  have e3 := iI_lt hb2 ha
  have e4 := iI_le hb2 ha
  have e5 := iI_eq ha hb2
  rw [← i0] at e1 e2 e3 e4 e5
  refine lv_if_gt hx hb hd ht (fun q => k1 ?_ H locs ls hW hz hu hS hl) (fun q => k2 ?_ H locs ls hW hz hu hS hl)
  · first | exact e3.mp q | (intro w; exact q (e3.mpr w))
  · first | exact e3.mp q | (intro w; exact q (e3.mpr w)) | exact Int.not_lt.mp (fun w => q (e3.mpr w)) | exact Int.not_le.mp (fun w => q (e3.mpr w))
theorem z_icmp_le {g : Gt} {x : Xt} {M : MM} {d cs ss : Nat} {u : Nat × Nat × Nat} {h : AH} {pc : Nat} {lv : List (Nat × Value)} {st : List Value} {a b : Int} {off : Int} {tgt : Nat} (hx : Ok g x M d cs ss) (hd : decode M.2.1 pc = .ok (.if_icmp .le off, 3)) (ht : (pc : Int) + off = (tgt : Int)) (ha : -2147483648 ≤ a ∧ a < 2147483648) (hb2 : -2147483648 ≤ b ∧ b < 2147483648) (k1 : a ≤ b → Zj g x u h tgt lv st) (k2 : b < a → Zj g x u h (pc + 3) lv st) : Zj g x u h pc lv (.int (iI b) :: .int (iI a) :: st) := by
  obtain ⟨p, e, R, s, m, args, below, meth, c, nL, Q⟩ := x
  obtain ⟨hx, hb, hml, hnL, hown, hts, hK, hlk, hnm, hrt, hfr, hlo, hcs, hss⟩ := hx
  intro H locs ls hW hz hu hS hl
  have e1 := iI_lt ha hb2
  have e2 := iI_le ha hb2
  have e3 := iI_lt hb2 ha
  have e4 := iI_le hb2 ha
  have e5 := iI_eq ha hb2
  refine lv_icmp_le hx hb hd ht (fun q => k1 ?_ H locs ls hW hz hu hS hl) (fun q => k2 ?_ H locs ls hW hz hu hS hl)
  · first | exact e2.mp q | (intro w; exact q (e2.mpr w))
  · first | exact e2.mp q | (intro w; exact q (e2.mpr w)) | exact Int.not_lt.mp (fun w => q (e2.mpr w)) | exact Int.not_le.mp (fun w => q (e2.mpr w))
theorem z_if_le {g : Gt} {x : Xt} {M : MM} {d cs ss : Nat} {u : Nat × Nat × Nat} {h : AH} {pc : Nat} {lv : List (Nat × Value)} {st : List Value} {a : Int} {off : Int} {tgt : Nat} (hx : Ok g x M d cs ss) (hd : decode M.2.1 pc = .ok (.ifCond .le off, 3)) (ht : (pc : Int) + off = (tgt : Int)) (ha : -2147483648 ≤ a ∧ a < 2147483648) (k1 : a ≤ 0 → Zj g x u h tgt lv st) (k2 : 0 < a → Zj g x u h (pc + 3) lv st) : Zj g x u h pc lv (.int (iI a) :: st) := by
  obtain ⟨p, e, R, s, m, args, below, meth, c, nL, Q⟩ := x
  obtain ⟨hx, hb, hml, hnL, hown, hts, hK, hlk, hnm, hrt, hfr, hlo, hcs, hss⟩ := hx
  intro H locs ls hW hz hu hS hl
  have hb2 : -2147483648 ≤ (0 : Int) ∧ (0 : Int) < 2147483648 := by decide
  have e1 := iI_lt ha hb2
  have e2 := iI_le ha hb2
  have e3 := iI_lt hb2 ha
  have e4 := iI_le hb2 ha
  have e5 := iI_eq ha hb2
  rw [← i0] at e1 e2 e3 e4 e5
  refine lv_if_le hx hb hd ht (fun q => k1 ?_ H locs ls hW hz hu hS hl) (fun q => k2 ?_ H locs ls hW hz hu hS hl)
  · first | exact e2.mp q | (intro w; exact q (e2.mpr w))
  · first | exact e2.mp q | (intro w; exact q (e2.mpr w)) | exact Int.not_lt.mp (fun w => q (e2.mpr w)) | exact Int.not_le.mp (fun w => q (e2.mpr w))
theorem z_goto {g : Gt} {x : Xt} {M : MM} {d cs ss : Nat} {u : Nat × Nat × Nat} {h : AH} {pc : Nat} {lv : List (Nat × Value)} {st : List Value} {off : Int} {tgt : Nat} (hx : Ok g x M d cs ss) (hd : decode M.2.1 pc = .ok (.goto off, 3)) (ht : (pc : Int) + off = (tgt : Int)) (k : Zj g x u h tgt lv st) : Zj g x u h pc lv st := by
  obtain ⟨p, e, R, s, m, args, below, meth, c, nL, Q⟩ := x
  obtain ⟨hx, hb, hml, hnL, hown, hts, hK, hlk, hnm, hrt, hfr, hlo, hcs, hss⟩ := hx
  intro H locs ls hW hz hu hS hl
  exact lv_goto hx hb hd ht (k H locs ls hW hz hu hS hl)
theorem z_null {g : Gt} {x : Xt} {M : MM} {d cs ss : Nat} {u : Nat × Nat × Nat} {h : AH} {pc : Nat} {lv : List (Nat × Value)} {st : List Value} (hx : Ok g x M d cs ss) (hd : decode M.2.1 pc = .ok (.aconst_null, 1)) (k : Zj g x u h (pc + 1) lv (.null :: st)) : Zj g x u h pc lv st := by
  obtain ⟨p, e, R, s, m, args, below, meth, c, nL, Q⟩ := x
  obtain ⟨hx, hb, hml, hnL, hown, hts, hK, hlk, hnm, hrt, hfr, hlo, hcs, hss⟩ := hx
  intro H locs ls hW hz hu hS hl
  exact lv_null hx hb hd (k H locs ls hW hz hu hS hl)
theorem z_ifnull {g : Gt} {x : Xt} {M : MM} {d cs ss : Nat} {u : Nat × Nat × Nat} {h : AH} {pc : Nat} {lv : List (Nat × Value)} {st : List Value} {a : Nat} {off : Int} (hx : Ok g x M d cs ss) (hd : decode M.2.1 pc = .ok (.ifnull off, 3)) (k : Zj g x u h (pc + 3) lv st) : Zj g x u h pc lv (.ref a :: st) := by
  obtain ⟨p, e, R, s, m, args, below, meth, c, nL, Q⟩ := x
  obtain ⟨hx, hb, hml, hnL, hown, hts, hK, hlk, hnm, hrt, hfr, hlo, hcs, hss⟩ := hx
  intro H locs ls hW hz hu hS hl
  exact lv_ifnull hx hb hd (k H locs ls hW hz hu hS hl)
theorem z_ifnullN {g : Gt} {x : Xt} {M : MM} {d cs ss : Nat} {u : Nat × Nat × Nat} {h : AH} {pc : Nat} {lv : List (Nat × Value)} {st : List Value} {off : Int} {tgt : Nat} (hx : Ok g x M d cs ss) (hd : decode M.2.1 pc = .ok (.ifnull off, 3)) (ht : (pc : Int) + off = (tgt : Int)) (k : Zj g x u h tgt lv st) : Zj g x u h pc lv (.null :: st) := by
  obtain ⟨p, e, R, s, m, args, below, meth, c, nL, Q⟩ := x
  obtain ⟨hx, hb, hml, hnL, hown, hts, hK, hlk, hnm, hrt, hfr, hlo, hcs, hss⟩ := hx
  intro H locs ls hW hz hu hS hl
  exact lv_ifnullN hx hb hd ht (k H locs ls hW hz hu hS hl)
theorem z_ifnonnull {g : Gt} {x : Xt} {M : MM} {d cs ss : Nat} {u : Nat × Nat × Nat} {h : AH} {pc : Nat} {lv : List (Nat × Value)} {st : List Value} {a : Nat} {off : Int} {tgt : Nat} (hx : Ok g x M d cs ss) (hd : decode M.2.1 pc = .ok (.ifnonnull off, 3)) (ht : (pc : Int) + off = (tgt : Int)) (k : Zj g x u h tgt lv st) : Zj g x u h pc lv (.ref a :: st) := by
  obtain ⟨p, e, R, s, m, args, below, meth, c, nL, Q⟩ := x
  obtain ⟨hx, hb, hml, hnL, hown, hts, hK, hlk, hnm, hrt, hfr, hlo, hcs, hss⟩ := hx
  intro H locs ls hW hz hu hS hl
  exact lv_ifnonnull hx hb hd ht (k H locs ls hW hz hu hS hl)
theorem z_ifnonnullN {g : Gt} {x : Xt} {M : MM} {d cs ss : Nat} {u : Nat × Nat × Nat} {h : AH} {pc : Nat} {lv : List (Nat × Value)} {st : List Value} {off : Int} (hx : Ok g x M d cs ss) (hd : decode M.2.1 pc = .ok (.ifnonnull off, 3)) (k : Zj g x u h (pc + 3) lv st) : Zj g x u h pc lv (.null :: st) := by
  obtain ⟨p, e, R, s, m, args, below, meth, c, nL, Q⟩ := x
  obtain ⟨hx, hb, hml, hnL, hown, hts, hK, hlk, hnm, hrt, hfr, hlo, hcs, hss⟩ := hx
  intro H locs ls hW hz hu hS hl
  exact lv_ifnonnullN hx hb hd (k H locs ls hW hz hu hS hl)
theorem z_tblIn {g : Gt} {x : Xt} {M : MM} {d cs ss : Nat} {u : Nat × Nat × Nat} {h : AH} {pc : Nat} {lv : List (Nat × Value)} {st : List Value} {a dflt lo hi off : Int} {offs : Array Int} {len tgt : Nat} (hx : Ok g x M d cs ss) (hd : decode M.2.1 pc = .ok (.tableswitch dflt lo hi offs, len)) (ha : -2147483648 ≤ a ∧ a < 2147483648) (j : Int) (he : a = j) (h1 : lo ≤ j ∧ j ≤ hi) (ho : offs[(j - lo).toNat]? = some off) (ht : (pc : Int) + off = (tgt : Int)) (k : Zj g x u h tgt lv st) : Zj g x u h pc lv (.int (iI a) :: st) := by
  obtain ⟨p, e, R, s, m, args, below, meth, c, nL, Q⟩ := x
  obtain ⟨hx, hb, hml, hnL, hown, hts, hK, hlk, hnm, hrt, hfr, hlo, hcs, hss⟩ := hx
  intro H locs ls hW hz hu hS hl
  subst he
  exact lv_tableIn hx hb hd (by rw [iI_toInt ha]; omega) (by rw [iI_toInt ha]; omega) (by rw [iI_toInt ha]; exact ho) ht (k H locs ls hW hz hu hS hl)
theorem z_tblOut {g : Gt} {x : Xt} {M : MM} {d cs ss : Nat} {u : Nat × Nat × Nat} {h : AH} {pc : Nat} {lv : List (Nat × Value)} {st : List Value} {a dflt lo hi : Int} {offs : Array Int} {len tgt : Nat} (hx : Ok g x M d cs ss) (hd : decode M.2.1 pc = .ok (.tableswitch dflt lo hi offs, len)) (ha : -2147483648 ≤ a ∧ a < 2147483648) (h1 : a < lo ∨ hi < a) (ht : (pc : Int) + dflt = (tgt : Int)) (k : Zj g x u h tgt lv st) : Zj g x u h pc lv (.int (iI a) :: st) := by
  obtain ⟨p, e, R, s, m, args, below, meth, c, nL, Q⟩ := x
  obtain ⟨hx, hb, hml, hnL, hown, hts, hK, hlk, hnm, hrt, hfr, hlo, hcs, hss⟩ := hx
  intro H locs ls hW hz hu hS hl
  exact lv_tableOut hx hb hd (by rw [iI_toInt ha]; exact h1) ht (k H locs ls hW hz hu hS hl)
theorem z_lookup {g : Gt} {x : Xt} {M : MM} {d cs ss : Nat} {u : Nat × Nat × Nat} {h : AH} {pc : Nat} {lv : List (Nat × Value)} {st : List Value} {a dflt off : Int} {ps : Array (Int × Int)} {len tgt : Nat} (hx : Ok g x M d cs ss) (hd : decode M.2.1 pc = .ok (.lookupswitch dflt ps, len)) (ha : -2147483648 ≤ a ∧ a < 2147483648) (hp : (ps.toList.zip (ps.toList.drop 1)).all (fun (a, next) => a.1 < next.1) = true) (ho : Op.lookupswitch.offset ps.toList dflt a = off) (ht : (pc : Int) + off = (tgt : Int)) (k : Zj g x u h tgt lv st) : Zj g x u h pc lv (.int (iI a) :: st) := by
  obtain ⟨p, e, R, s, m, args, below, meth, c, nL, Q⟩ := x
  obtain ⟨hx, hb, hml, hnL, hown, hts, hK, hlk, hnm, hrt, hfr, hlo, hcs, hss⟩ := hx
  intro H locs ls hW hz hu hS hl
  exact lv_lookup hx hb hd hp (by rw [iI_toInt ha]; exact ho) ht (k H locs ls hW hz hu hS hl)
theorem z_ldc {g : Gt} {x : Xt} {M : MM} {d cs ss : Nat} {u : Nat × Nat × Nat} {h : AH} {pc : Nat} {lv : List (Nat × Value)} {st : List Value} {idx : Nat} {v : Int32} {a : Int} (hx : Ok g x M d cs ss) (hd : decode M.2.1 pc = .ok (.ldc idx, 2)) (hw : Cond.constant M.1.cls idx v ∈ lw_tbl) (hv : v = iI a) (k : Zj g x u h (pc + 2) lv (.int (iI a) :: st)) : Zj g x u h pc lv st := by
  obtain ⟨p, e, R, s, m, args, below, meth, c, nL, Q⟩ := x
  obtain ⟨hx, hb, hml, hnL, hown, hts, hK, hlk, hnm, hrt, hfr, hlo, hcs, hss⟩ := hx
  intro H locs ls hW hz hu hS hl
  subst hv
  exact lv_ldc hx hb hown (hts _ (mg hw rfl)) hd (k H locs ls hW hz hu hS hl)
theorem z_ldcw {g : Gt} {x : Xt} {M : MM} {d cs ss : Nat} {u : Nat × Nat × Nat} {h : AH} {pc : Nat} {lv : List (Nat × Value)} {st : List Value} {idx : Nat} {v : Int32} {a : Int} (hx : Ok g x M d cs ss) (hd : decode M.2.1 pc = .ok (.ldc_w idx, 3)) (hw : Cond.constant M.1.cls idx v ∈ lw_tbl) (hv : v = iI a) (k : Zj g x u h (pc + 3) lv (.int (iI a) :: st)) : Zj g x u h pc lv st := by
  obtain ⟨p, e, R, s, m, args, below, meth, c, nL, Q⟩ := x
  obtain ⟨hx, hb, hml, hnL, hown, hts, hK, hlk, hnm, hrt, hfr, hlo, hcs, hss⟩ := hx
  intro H locs ls hW hz hu hS hl
  subst hv
  exact lv_ldcw hx hb hown (hts _ (mg hw rfl)) hd (k H locs ls hW hz hu hS hl)
theorem z_ldc2 {g : Gt} {x : Xt} {M : MM} {d cs ss : Nat} {u : Nat × Nat × Nat} {h : AH} {pc : Nat} {lv : List (Nat × Value)} {st : List Value} {idx : Nat} {v : Int64} {a : Int} (hx : Ok g x M d cs ss) (hd : decode M.2.1 pc = .ok (.ldc2_w idx, 3)) (hw : Cond.constantLong M.1.cls idx v ∈ lw_tbl) (hv : v = lI a) (k : Zj g x u h (pc + 3) lv (.long (lI a) :: st)) : Zj g x u h pc lv st := by
  obtain ⟨p, e, R, s, m, args, below, meth, c, nL, Q⟩ := x
  obtain ⟨hx, hb, hml, hnL, hown, hts, hK, hlk, hnm, hrt, hfr, hlo, hcs, hss⟩ := hx
  intro H locs ls hW hz hu hS hl
  subst hv
  exact lv_ldc2 hx hb hown (hts _ (mg hw rfl)) hd (k H locs ls hW hz hu hS hl)
