/-! pure words: heaps, counted loops, masks, the reference's numbers -/
def Fr (h h' : AH) (b n : Nat) : Prop := ∀ q : Nat, ¬ (b ≤ q ∧ q < b + n) → h' q = h q
theorem Fr.rf {h : AH} {b n : Nat} : Fr h h b n := fun _ _ => rfl
theorem Fr.tr {h h1 h2 : AH} {b n : Nat} (a : Fr h h1 b n) (c : Fr h1 h2 b n) : Fr h h2 b n := fun q hq => (c q hq).trans (a q hq)
theorem Fr.at {h h' : AH} {b n q : Nat} {c : Ce} (a : Fr h h' b n) (hq : q < b ∨ b + n ≤ q) (hc : h q = some c) : h' q = some c := by rw [a q (by omega)]; exact hc
theorem Fr.wd {h h' : AH} {b n b2 n2 : Nat} (a : Fr h h' b n) (h1 : b2 ≤ b) (h2 : b + n ≤ b2 + n2) : Fr h h' b2 n2 := fun q hq => a q (by omega)
theorem hup_s (h : AH) (a : Nat) (c : Ce) : hup h a c a = some c := by simp [hup]
theorem hup_n {h : AH} {a q : Nat} {c : Ce} (hq : q ≠ a) : hup h a c q = h q := by simp [hup, hq]
theorem hup_Fr (h : AH) (a : Nat) (c : Ce) : Fr h (hup h a c) a 1 := fun q hq => hup_n (by omega)
theorem fup_s (f : Int → Int) (i v : Int) : fup f i v i = v := by simp [fup]
theorem fup_n {f : Int → Int} {i v q : Int} (hq : q ≠ i) : fup f i v q = f q := by simp [fup, hq]
theorem fup_id {f : Int → Int} {i v : Int} (hv : v = f i) : fup f i v = f := by funext q; by_cases hq : q = i <;> simp [fup, hq, hv]
def itN {α : Type} (G : Int → α → α) (a : α) : Nat → α
  | 0 => a
  | n + 1 => G (n : Int) (itN G a n)
def itI {α : Type} (n : Int) (G : Int → α → α) (a : α) : α := itN G a n.toNat
theorem itI_0 {α : Type} (G : Int → α → α) (a : α) {n : Int} (h : n = 0) : itI n G a = a := by subst h; rfl
theorem itI_s {α : Type} (G : Int → α → α) (a : α) {n : Int} (h : 0 ≤ n) : itI (n + 1) G a = G n (itI n G a) := by
  unfold itI
  obtain ⟨k, rfl⟩ := Int.eq_ofNat_of_zero_le h
  have : ((k : Int) + 1).toNat = k + 1 := by omega
  rw [this]
  rfl
theorem itI_ind {α : Type} (P : Int → α → Prop) (G : Int → α → α) (a : α) {n : Int} (h : 0 ≤ n) (h0 : P 0 a) (hs : ∀ i s, 0 ≤ i → i < n → P i s → P (i + 1) (G i s)) : P n (itI n G a) := by
  obtain ⟨k, rfl⟩ := Int.eq_ofNat_of_zero_le h
  suffices ∀ j : Nat, j ≤ k → P (j : Int) (itI (j : Int) G a) from this k (Nat.le_refl _)
  intro j
  induction j with
  | zero => intro _; exact h0
  | succ j ih =>
    intro hj
    have e : ((j + 1 : Nat) : Int) = (j : Int) + 1 := by omega
    rw [e, itI_s G a (by omega)]
    exact hs _ _ (by omega) (by omega) (ih (by omega))
theorem itI_congr {α : Type} {G G' : Int → α → α} {a : α} {n : Int} (h : ∀ i s, 0 ≤ i → i < n → G i s = G' i s) : itI n G a = itI n G' a := by
  by_cases h0 : 0 ≤ n
  · exact itI_ind (fun i s => s = itI i G' a) G a h0 rfl (fun i s h1 h2 e => by rw [itI_s G' a h1, ← e, h i s h1 h2])
  · unfold itI; rw [show n.toNat = 0 by omega]; rfl
def dnN {α : Type} (G : Int → α → α) : Nat → α → α
  | 0, a => a
  | n + 1, a => dnN G n (G (n : Int) a)
def dnI {α : Type} (n : Int) (G : Int → α → α) (a : α) : α := dnN G n.toNat a
theorem dnI_0 {α : Type} (G : Int → α → α) (a : α) {n : Int} (h : n ≤ 0) : dnI n G a = a := by unfold dnI; rw [show n.toNat = 0 by omega]; rfl
theorem dnI_s {α : Type} (G : Int → α → α) (a : α) {n : Int} (h : 0 ≤ n) : dnI (n + 1) G a = dnI n G (G n a) := by
  unfold dnI
  obtain ⟨k, rfl⟩ := Int.eq_ofNat_of_zero_le h
  have : ((k : Int) + 1).toNat = k + 1 := by omega
  rw [this]
  rfl
theorem dnI_ind {α : Type} (P : Int → α → Prop) (G : Int → α → α) {n : Int} (h : 0 ≤ n) (hs : ∀ i s, 0 ≤ i → i < n → P (i + 1) s → P i (G i s)) : ∀ a, P n a → P 0 (dnI n G a) := by
  obtain ⟨k, rfl⟩ := Int.eq_ofNat_of_zero_le h
  induction k with
  | zero => intro a h; exact h
  | succ k ih =>
    intro a ha
    have e : ((k + 1 : Nat) : Int) = (k : Int) + 1 := by omega
    rw [e, dnI_s G a (by omega)]
    exact ih (by omega) (fun i s h1 h2 h3 => hs i s h1 (by omega) h3) _ (hs k a (by omega) (by omega) (by rw [← e]; exact ha))
/-- the first i of lo, lo + 1, .. (n of them) with P; -1 -/
def fnd (P : Int → Bool) : Nat → Int → Int
  | 0, _ => -1
  | n + 1, i => if P i = true then i else fnd P n (i + 1)
def b2i (P : Prop) [Decidable P] : Int := if P then 1 else 0
theorem b2i_t {P : Prop} [Decidable P] (h : P) : b2i P = 1 := if_pos h
theorem b2i_f {P : Prop} [Decidable P] (h : ¬ P) : b2i P = 0 := if_neg h
theorem b2i_01 (P : Prop) [Decidable P] : b2i P = 0 ∨ b2i P = 1 := by unfold b2i; split <;> simp
theorem nar_b {a : Int} (h : a = 0 ∨ a = 1) : narrow .boolean (.int (iI a)) = .int (iI a) := by rcases h with rfl | rfl <;> rfl
abbrev rgI (a : Int) : Prop := -2147483648 ≤ a ∧ a < 2147483648
theorem b2i_rg (P : Prop) [Decidable P] : -2147483648 ≤ b2i P ∧ b2i P < 2147483648 := by rcases b2i_01 P with h | h <;> omega
abbrev CnI (g : Gt) (M : MM) (d : Nat) (as : List Value) (h : AH) (e : Int) : Prop := Cn g M d as h (fun v h' => v = some (.int (iI e)) ∧ h' = h)
abbrev CnL (g : Gt) (M : MM) (d : Nat) (as : List Value) (h : AH) (e : Int) : Prop := Cn g M d as h (fun v h' => v = some (.long (lI e)) ∧ h' = h)
abbrev CnV (g : Gt) (M : MM) (d : Nat) (as : List Value) (h : AH) (Q : AH → Prop) : Prop := Cn g M d as h (fun v h' => v = none ∧ Q h')
abbrev CnJ (g : Gt) (M : MM) (d : Nat) (as : List Value) (h : AH) (e : Int) (Q : AH → Prop) : Prop := Cn g M d as h (fun v h' => v = some (.int (iI e)) ∧ Q h')
theorem q_i {e a : Int} {h : AH} {sz : Nat} (h1 : a = e) : (some (Value.int (iI a)) = some (Value.int (iI e)) ∧ h = h) ∧ sz = sz := ⟨⟨by rw [h1], rfl⟩, rfl⟩
theorem q_l {e a : Int} {h : AH} {sz : Nat} (h1 : a = e) : (some (Value.long (lI a)) = some (Value.long (lI e)) ∧ h = h) ∧ sz = sz := ⟨⟨by rw [h1], rfl⟩, rfl⟩
theorem q_v {h : AH} {sz : Nat} {Q : AH → Prop} (h1 : Q h) : ((none : Option Value) = none ∧ Q h) ∧ sz = sz := ⟨⟨rfl, h1⟩, rfl⟩
theorem q_j {e a : Int} {h : AH} {sz : Nat} {Q : AH → Prop} (h1 : a = e) (h2 : Q h) : (some (Value.int (iI a)) = some (Value.int (iI e)) ∧ Q h) ∧ sz = sz := ⟨⟨by rw [h1], h2⟩, rfl⟩
-- calls that give a number and leave the heap
section CallsI
variable {g : Gt} {x : Xt} {M M' : MM} {d d' cs ss idx n : Nat} {u : Nat × Nat × Nat} {h : AH} {pc : Nat} {lv : List (Nat × Value)} {st as rest : List Value} {e : Int} {b : Nat} {Q : AH → Prop} {Qr : Option Value → AH → Prop}
theorem z_cS (hx : Ok g x M d cs ss) (hd : decode M.2.1 pc = .ok (.invokestatic idx, 3)) (hk : Lnk M.1.cls idx M') (hs : Cond.static M'.1 ∈ lw_tbl) (hm : MoC M' n) (hc : Cn g M' d' as h Qr) (hdd : d' < d) (hst : st = as.reverse ++ rest) (hn : as.length = n) (hsum : (rest.map fun v => v.category).sum ≤ 8)
    (k : ∀ (v : Option Value) (h' : AH), Qr v h' → Zj g x u h' (pc + 3) lv (v.toList ++ rest)) : Zj g x u h pc lv st :=
  z_callS hx hd hk hs hm (hc u.1) hdd (Or.inl ⟨rfl, rfl⟩) hst hn hsum (fun v h' sz' q => by obtain ⟨q, rfl⟩ := q; exact k v h' q)
theorem z_cV (hx : Ok g x M d cs ss) (hd : decode M.2.1 pc = .ok (.invokevirtual idx, 3)) (hk : Lnk M.1.cls idx M') (hi : Cond.instanceMethod M'.1 ∈ lw_tbl) (hv : Cond.selects M'.1.cls M'.1 M'.1 ∈ lw_tbl) (hrc : Rcv g x h b M'.1.cls) (hm : MoC M' n) (hc : Cn g M' d' (.ref b :: as) h Qr) (hdd : d' < d) (hst : st = as.reverse ++ .ref b :: rest) (hn : as.length = n) (hsum : (rest.map fun v => v.category).sum ≤ 8)
    (k : ∀ (v : Option Value) (h' : AH), Qr v h' → Zj g x u h' (pc + 3) lv (v.toList ++ rest)) : Zj g x u h pc lv st :=
  z_callV (C := M'.1.cls) hx hd hk hi hv hrc hm (hc u.1) hdd (Or.inl ⟨rfl, rfl⟩) hst hn hsum (fun v h' sz' q => by obtain ⟨q, rfl⟩ := q; exact k v h' q)
theorem z_cSI (hx : Ok g x M d cs ss) (hd : decode M.2.1 pc = .ok (.invokestatic idx, 3)) (hk : Lnk M.1.cls idx M') (hs : Cond.static M'.1 ∈ lw_tbl) (hm : MoC M' n) (hc : CnI g M' d' as h e) (hdd : d' < d) (hst : st = as.reverse ++ rest) (hn : as.length = n) (hsum : (rest.map fun v => v.category).sum ≤ 8)
    (k : Zj g x u h (pc + 3) lv (.int (iI e) :: rest)) : Zj g x u h pc lv st := z_cS hx hd hk hs hm hc hdd hst hn hsum (fun v h' q => by obtain ⟨rfl, rfl⟩ := q; exact k)
theorem z_cVI (hx : Ok g x M d cs ss) (hd : decode M.2.1 pc = .ok (.invokevirtual idx, 3)) (hk : Lnk M.1.cls idx M') (hi : Cond.instanceMethod M'.1 ∈ lw_tbl) (hv : Cond.selects M'.1.cls M'.1 M'.1 ∈ lw_tbl) (hrc : Rcv g x h b M'.1.cls) (hm : MoC M' n) (hc : CnI g M' d' (.ref b :: as) h e) (hdd : d' < d) (hst : st = as.reverse ++ .ref b :: rest) (hn : as.length = n) (hsum : (rest.map fun v => v.category).sum ≤ 8)
    (k : Zj g x u h (pc + 3) lv (.int (iI e) :: rest)) : Zj g x u h pc lv st := z_cV hx hd hk hi hv hrc hm hc hdd hst hn hsum (fun v h' q => by obtain ⟨rfl, rfl⟩ := q; exact k)
theorem z_cSV (hx : Ok g x M d cs ss) (hd : decode M.2.1 pc = .ok (.invokestatic idx, 3)) (hk : Lnk M.1.cls idx M') (hs : Cond.static M'.1 ∈ lw_tbl) (hm : MoC M' n) (hc : CnV g M' d' as h Q) (hdd : d' < d) (hst : st = as.reverse ++ rest) (hn : as.length = n) (hsum : (rest.map fun v => v.category).sum ≤ 8)
    (k : ∀ h' : AH, Q h' → Zj g x u h' (pc + 3) lv rest) : Zj g x u h pc lv st := z_cS hx hd hk hs hm hc hdd hst hn hsum (fun v h' q => by obtain ⟨rfl, q⟩ := q; exact k h' q)
theorem z_cVV (hx : Ok g x M d cs ss) (hd : decode M.2.1 pc = .ok (.invokevirtual idx, 3)) (hk : Lnk M.1.cls idx M') (hi : Cond.instanceMethod M'.1 ∈ lw_tbl) (hv : Cond.selects M'.1.cls M'.1 M'.1 ∈ lw_tbl) (hrc : Rcv g x h b M'.1.cls) (hm : MoC M' n) (hc : CnV g M' d' (.ref b :: as) h Q) (hdd : d' < d) (hst : st = as.reverse ++ .ref b :: rest) (hn : as.length = n) (hsum : (rest.map fun v => v.category).sum ≤ 8)
    (k : ∀ h' : AH, Q h' → Zj g x u h' (pc + 3) lv rest) : Zj g x u h pc lv st := z_cV hx hd hk hi hv hrc hm hc hdd hst hn hsum (fun v h' q => by obtain ⟨rfl, q⟩ := q; exact k h' q)
theorem z_cSJ (hx : Ok g x M d cs ss) (hd : decode M.2.1 pc = .ok (.invokestatic idx, 3)) (hk : Lnk M.1.cls idx M') (hs : Cond.static M'.1 ∈ lw_tbl) (hm : MoC M' n) (hc : CnJ g M' d' as h e Q) (hdd : d' < d) (hst : st = as.reverse ++ rest) (hn : as.length = n) (hsum : (rest.map fun v => v.category).sum ≤ 8)
    (k : ∀ h' : AH, Q h' → Zj g x u h' (pc + 3) lv (.int (iI e) :: rest)) : Zj g x u h pc lv st := z_cS hx hd hk hs hm hc hdd hst hn hsum (fun v h' q => by obtain ⟨rfl, q⟩ := q; exact k h' q)
theorem z_cVJ (hx : Ok g x M d cs ss) (hd : decode M.2.1 pc = .ok (.invokevirtual idx, 3)) (hk : Lnk M.1.cls idx M') (hi : Cond.instanceMethod M'.1 ∈ lw_tbl) (hv : Cond.selects M'.1.cls M'.1 M'.1 ∈ lw_tbl) (hrc : Rcv g x h b M'.1.cls) (hm : MoC M' n) (hc : CnJ g M' d' (.ref b :: as) h e Q) (hdd : d' < d) (hst : st = as.reverse ++ .ref b :: rest) (hn : as.length = n) (hsum : (rest.map fun v => v.category).sum ≤ 8)
    (k : ∀ h' : AH, Q h' → Zj g x u h' (pc + 3) lv (.int (iI e) :: rest)) : Zj g x u h pc lv st := z_cV hx hd hk hi hv hrc hm hc hdd hst hn hsum (fun v h' q => by obtain ⟨rfl, q⟩ := q; exact k h' q)
end CallsI
-- a store into an array: the new heap by what it holds
theorem z_iastQ {g : Gt} {x : Xt} {M : MM} {d cs ss : Nat} {u : Nat × Nat × Nat} {h : AH} {pc : Nat} {lv : List (Nat × Value)} {st : List Value} {a n : Nat} {f : Int → Int} {i v : Int} (hx : Ok g x M d cs ss) (hd : decode M.2.1 pc = .ok (.iastore, 1)) (hc : h a = some (.inl (0, n, f))) (h0 : 0 ≤ i ∧ i < (n : Int)) (hn : n < 2147483648)
    (k : ∀ h' : AH, h' a = some (.inl (0, n, fup f i v)) → Fr h h' a 1 → Zj g x u h' (pc + 1) lv st) : Zj g x u h pc lv (.int (iI v) :: .int (iI i) :: .ref a :: st) :=
  z_iast hx hd hc h0 hn (k _ (hup_s _ _ _) (hup_Fr _ _ _))
theorem z_putQ {g : Gt} {x : Xt} {M : MM} {d cs ss : Nat} {u : Nat × Nat × Nat} {h : AH} {pc : Nat} {lv : List (Nat × Value)} {st : List Value} {idx ci k a : Nat} {ty : FieldType} {fs : List Value} {v : Value} (hx : Ok g x M d cs ss) (hd : decode M.2.1 pc = .ok (.putfield idx, 3)) (hf : FLp M.1.cls idx ci k false ty) (hc : h a = some (.inr (.inr (ci, fs)))) (hn : narrow ty v = v ∧ fits ty v = true) (hl0 : k < fs.length)
    (kk : ∀ h' : AH, h' a = some (.inr (.inr (ci, fs.set k v))) → Fr h h' a 1 → Zj g x u h' (pc + 3) lv st) : Zj g x u h pc lv (v :: .ref a :: st) :=
  z_put hx hd hf hc hn hl0 (kk _ (hup_s _ _ _) (hup_Fr _ _ _))
-- a branch on a boolean
theorem z_ifne_b {g : Gt} {x : Xt} {M : MM} {d cs ss : Nat} {u : Nat × Nat × Nat} {h : AH} {pc : Nat} {lv : List (Nat × Value)} {st : List Value} {P : Prop} [Decidable P] {off : Int} {tgt : Nat} (hx : Ok g x M d cs ss) (hd : decode M.2.1 pc = .ok (.ifCond .ne off, 3)) (ht : (pc : Int) + off = (tgt : Int)) (k1 : P → Zj g x u h tgt lv st) (k2 : ¬ P → Zj g x u h (pc + 3) lv st) : Zj g x u h pc lv (.int (iI (b2i P)) :: st) :=
  z_if_ne hx hd ht (b2i_rg P) (fun q => k1 (by by_cases c : P; exact c; exact absurd (b2i_f c) q)) (fun q => k2 (fun c => by rw [b2i_t c] at q; exact absurd q (by decide)))
theorem z_ifeq_b {g : Gt} {x : Xt} {M : MM} {d cs ss : Nat} {u : Nat × Nat × Nat} {h : AH} {pc : Nat} {lv : List (Nat × Value)} {st : List Value} {P : Prop} [Decidable P] {off : Int} {tgt : Nat} (hx : Ok g x M d cs ss) (hd : decode M.2.1 pc = .ok (.ifCond .eq off, 3)) (ht : (pc : Int) + off = (tgt : Int)) (k1 : ¬ P → Zj g x u h tgt lv st) (k2 : P → Zj g x u h (pc + 3) lv st) : Zj g x u h pc lv (.int (iI (b2i P)) :: st) :=
  z_if_eq hx hd ht (b2i_rg P) (fun q => k1 (fun c => by rw [b2i_t c] at q; exact absurd q (by decide))) (fun q => k2 (by by_cases c : P; exact c; exact absurd (b2i_f c) q))
