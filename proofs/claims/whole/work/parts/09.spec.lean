/-! the reference's numbers: leaves -/
theorem ar_e {h : AH} {a k n : Nat} {F F' : Int → Int} (e : F = F') (hs : h a = some (.inl (k, n, F))) : h a = some (.inl (k, n, F')) := e ▸ hs
def ab (v : Int) : Int := if v < 0 then -v else v
def far (a b : Int) : Int := ab (a / 6 - b / 6) + ab (a % 6 - b % 6)
def stp (a b : Int) : Int :=
  if b / 6 - a / 6 = 0 ∧ b % 6 - a % 6 = 0 then a
  else if ab (b / 6 - a / 6) ≤ ab (b % 6 - a % 6) then (if 0 < b % 6 - a % 6 then a + 1 else a - 1)
  else (if 0 < b / 6 - a / 6 then a + 6 else a - 6)
def pln (s w : Int) : Int := if w / 10 < s then s - w / 10 else 0
def wol (s w : Int) : Int := if w / 20 < s then s - w / 20 else 0
def hol (k s w : Int) : Int :=
  if k = 0 then pln s w else if k = 1 then pln s w + 1 else if k = 2 then wol s w else if k = 3 then 0
  else if k = 4 then (if w = 0 then pln s w + 3 else pln s w + 1) else (if 0 < wol s w then wol s w - 1 else 0)
def wby (k n : Int) : Int := if k = 3 then 0 else if k = 4 then 2 * n else if k = 5 then n + 1 else n
def mxI (a b : Int) : Int := if a < b then b else a
def mnI (a b : Int) : Int := if b < a then b else a
def bsd (c w : Int) : Int := if w = 0 then (if c % 6 < 5 then c + 1 else -1) else if w = 1 then (if c / 6 < 3 then c + 6 else -1) else if w = 2 then (if 0 < c % 6 then c - 1 else -1) else if w = 3 then (if 0 < c / 6 then c - 6 else -1) else c
theorem ab_0 (v : Int) : 0 ≤ ab v := by unfold ab; split <;> omega
theorem ab_c (v : Int) : 0 ≤ ab v ∧ (ab v = v ∨ ab v = -v) := by unfold ab; split <;> omega
theorem mx_c (a b : Int) : (mxI a b = a ∧ b ≤ a) ∨ (mxI a b = b ∧ a < b) := by unfold mxI; split <;> omega
theorem mn_c (a b : Int) : (mnI a b = a ∧ a ≤ b) ∨ (mnI a b = b ∧ b < a) := by unfold mnI; split <;> omega
theorem far_rg {a b : Int} (ha : 0 ≤ a ∧ a < 24) (hb : 0 ≤ b ∧ b < 24) : 0 ≤ far a b ∧ far a b ≤ 8 := by unfold far ab; split <;> split <;> omega
theorem far_sym (a b : Int) : far a b = far b a := by unfold far ab; split <;> split <;> split <;> split <;> omega
theorem far_0 {a b : Int} (ha : 0 ≤ a ∧ a < 24) (hb : 0 ≤ b ∧ b < 24) : far a b = 0 ↔ a = b := by unfold far ab; constructor <;> intro h <;> (repeat' split at h) <;> (try split) <;> omega
theorem stp_rg {a b : Int} (ha : 0 ≤ a ∧ a < 24) (hb : 0 ≤ b ∧ b < 24) : 0 ≤ stp a b ∧ stp a b < 24 := by unfold stp ab; split; omega; split <;> split <;> omega
theorem hol_rg {k s w : Int} (hk : 0 ≤ k ∧ k ≤ 5) (hs : 0 ≤ s ∧ s ≤ 4) (hw : 0 ≤ w ∧ w ≤ 40) : 0 ≤ hol k s w ∧ hol k s w ≤ 7 := by unfold hol pln wol; (repeat' split) <;> omega
theorem wby_rg {k n : Int} (hn : 0 ≤ n ∧ n ≤ 6) : 0 ≤ wby k n ∧ wby k n ≤ 12 := by unfold wby; (repeat' split) <;> omega
/-- how many of the lowest eight bits -/
def popc (v : Int) : Int := v % 2 + v / 2 % 2 + v / 4 % 2 + v / 8 % 2 + v / 16 % 2 + v / 32 % 2 + v / 64 % 2 + v / 128 % 2
def pw (p : Int) : Int := 2 ^ p.toNat
theorem popc_rg {v : Int} : 0 ≤ popc v ∧ popc v ≤ 8 := by unfold popc; omega
theorem andI_1 : ∀ v : Fin 1000, andI (v.val : Int) 1 = (v.val : Int) % 2 := by decide +kernel
theorem andI_1' {v : Int} (h : 0 ≤ v ∧ v < 1000) : andI v 1 = v % 2 := by
  have := andI_1 ⟨v.toNat, by omega⟩
  simpa [Int.toNat_of_nonneg h.1] using this
theorem shrI_t : ∀ v : Fin 256, ∀ k : Fin 8, shrI (v.val : Int) (k.val : Int) = (v.val : Int) / (2 ^ k.val : Int) := by decide +kernel
theorem shrI_' {v k : Int} (h : 0 ≤ v ∧ v < 256) (hk : 0 ≤ k ∧ k < 8) : shrI v k = v / pw k := by
  have := shrI_t ⟨v.toNat, by omega⟩ ⟨k.toNat, by omega⟩
  simpa [Int.toNat_of_nonneg h.1, Int.toNat_of_nonneg hk.1, pw] using this
theorem shlI_t : ∀ k : Fin 12, shlI 1 (k.val : Int) = (2 ^ k.val : Int) := by decide +kernel
theorem shlI_' {k : Int} (hk : 0 ≤ k ∧ k < 12) : shlI 1 k = pw k := by
  have := shlI_t ⟨k.toNat, by omega⟩
  simpa [Int.toNat_of_nonneg hk.1, pw] using this
theorem orI_t : ∀ v : Fin 64, ∀ w : Fin 64, orI (v.val : Int) (w.val : Int) = ((v.val ||| w.val : Nat) : Int) := by decide +kernel
theorem orI_' {v w : Int} (h : 0 ≤ v ∧ v < 64) (hw : 0 ≤ w ∧ w < 64) : orI v w = ((v.toNat ||| w.toNat : Nat) : Int) := by
  have := orI_t ⟨v.toNat, by omega⟩ ⟨w.toNat, by omega⟩
  simpa [Int.toNat_of_nonneg h.1, Int.toNat_of_nonneg hw.1] using this
theorem orI_0 {v : Int} (h : 0 ≤ v ∧ v < 64) : orI v 0 = v := by rw [orI_' h (by decide)]; simp; omega
theorem orI_pw_t : ∀ p : Fin 6, ∀ v : Fin 64, v.val < 2 ^ p.val → orI (v.val : Int) (2 ^ p.val : Int) = (v.val : Int) + (2 ^ p.val : Int) := by decide +kernel
theorem pw_rg {p : Int} (hp : 0 ≤ p ∧ p < 6) : 1 ≤ pw p ∧ pw p ≤ 32 := by
  have : p = 0 ∨ p = 1 ∨ p = 2 ∨ p = 3 ∨ p = 4 ∨ p = 5 := by omega
  rcases this with rfl | rfl | rfl | rfl | rfl | rfl <;> decide
theorem pw_s {p : Int} (hp : 0 ≤ p) : pw (p + 1) = 2 * pw p := by
  unfold pw
  have : (p + 1).toNat = p.toNat + 1 := by omega
  rw [this, Int.pow_succ]; omega
theorem orI_pw {v p : Int} (hp : 0 ≤ p ∧ p < 6) (h : 0 ≤ v ∧ v < pw p) : orI v (pw p) = v + pw p := by
  have h2 := pw_rg hp
  have h3 : v.toNat < 2 ^ p.toNat := by
    have : ((2 ^ p.toNat : Nat) : Int) = pw p := by unfold pw; simp
    omega
  have := orI_pw_t ⟨p.toNat, by omega⟩ ⟨v.toNat, by omega⟩ h3
  simpa [Int.toNat_of_nonneg h.1, pw] using this
-- Math
theorem wM_max : (Cond.code Lib.Math.max.name Lib.Math.max.code 2 (some .int)) ∈ lw_tbl := List.mem_of_getElem? (i := 550) (by decide +kernel)
theorem wM_min : (Cond.code Lib.Math.min.name Lib.Math.min.code 2 (some .int)) ∈ lw_tbl := List.mem_of_getElem? (i := 592) (by decide +kernel)
theorem wM_abs : (Cond.code Lib.Math.abs.name Lib.Math.abs.code 1 (some .int)) ∈ lw_tbl := List.mem_of_getElem? (i := 571) (by decide +kernel)
section MathZ
variable {g : Gt} {x : Xt} {M : MM} {d cs ss idx : Nat} {u : Nat × Nat × Nat} {h : AH} {pc : Nat} {lv : List (Nat × Value)} {st : List Value} {a b : Int}
theorem z_mmax (hx : Ok g x M d cs ss) (hd : decode M.2.1 pc = .ok (.invokestatic idx, 3)) (hk : Cond.methodLink M.1.cls idx yJ9_max_7cf53 ∈ lw_tbl) (ha : rgI a) (hb2 : rgI b) (hd1 : 1 ≤ d) (hsum : (st.map fun v => v.category).sum ≤ 8)
    (k : Zj g x u h (pc + 3) lv (.int (iI (mxI a b)) :: st)) : Zj g x u h pc lv (.int (iI b) :: .int (iI a) :: st) := by
  obtain ⟨p, e, R, s, m, args, below, meth, c, nL, Q⟩ := x
  obtain ⟨hx, hb, hml, hnL, hown, hts, hK, hlk, hnm, hrt, hfr, hlo, hcs, hss⟩ := hx
  intro H locs ls hW hz hu hS hl
  refine va_mmax hx hb (hml.trans hl.1.symm) hown (hts _ (mg hk rfl)) (hts _ (mg (show Cond.static Lib.Math.max.name ∈ lw_tbl from wt_J9_max_7cf53) rfl)) (hts _ (mg (show Cond.initialized "java/lang/Math" ∈ lw_tbl from wi_RJ9) rfl)) (hts _ (mg wM_max rfl)) (by omega) (by omega) hu.1 hu.2 hd ?_
  have e1 : (if iI a < iI b then iI b else iI a) = iI (mxI a b) := by
    unfold mxI
    by_cases q : a < b
    · rw [if_pos q, if_pos ((iI_lt ha hb2).mpr q)]
    · rw [if_neg q, if_neg (fun w => q ((iI_lt ha hb2).mp w))]
  rw [e1]
  exact k H locs ls hW hz hu hS hl
theorem z_mmin (hx : Ok g x M d cs ss) (hd : decode M.2.1 pc = .ok (.invokestatic idx, 3)) (hk : Cond.methodLink M.1.cls idx yJ9_min_7cf53 ∈ lw_tbl) (ha : rgI a) (hb2 : rgI b) (hd1 : 1 ≤ d) (hsum : (st.map fun v => v.category).sum ≤ 8)
    (k : Zj g x u h (pc + 3) lv (.int (iI (mnI a b)) :: st)) : Zj g x u h pc lv (.int (iI b) :: .int (iI a) :: st) := by
  obtain ⟨p, e, R, s, m, args, below, meth, c, nL, Q⟩ := x
  obtain ⟨hx, hb, hml, hnL, hown, hts, hK, hlk, hnm, hrt, hfr, hlo, hcs, hss⟩ := hx
  intro H locs ls hW hz hu hS hl
  refine va_mmin hx hb (hml.trans hl.1.symm) hown (hts _ (mg hk rfl)) (hts _ (mg (show Cond.static Lib.Math.min.name ∈ lw_tbl from wt_J9_min_7cf53) rfl)) (hts _ (mg (show Cond.initialized "java/lang/Math" ∈ lw_tbl from wi_RJ9) rfl)) (hts _ (mg wM_min rfl)) (by omega) (by omega) hu.1 hu.2 hd ?_
  have e1 : (if iI b < iI a then iI b else iI a) = iI (mnI a b) := by
    unfold mnI
    by_cases q : b < a
    · rw [if_pos q, if_pos ((iI_lt hb2 ha).mpr q)]
    · rw [if_neg q, if_neg (fun w => q ((iI_lt hb2 ha).mp w))]
  rw [e1]
  exact k H locs ls hW hz hu hS hl
theorem z_mabs (hx : Ok g x M d cs ss) (hd : decode M.2.1 pc = .ok (.invokestatic idx, 3)) (hk : Cond.methodLink M.1.cls idx yJ9_abs_0f7a4 ∈ lw_tbl) (ha : rgI a) (hd1 : 1 ≤ d) (hsum : (st.map fun v => v.category).sum ≤ 8)
    (k : Zj g x u h (pc + 3) lv (.int (iI (ab a)) :: st)) : Zj g x u h pc lv (.int (iI a) :: st) := by
  obtain ⟨p, e, R, s, m, args, below, meth, c, nL, Q⟩ := x
  obtain ⟨hx, hb, hml, hnL, hown, hts, hK, hlk, hnm, hrt, hfr, hlo, hcs, hss⟩ := hx
  intro H locs ls hW hz hu hS hl
  refine va_mabs hx hb (hml.trans hl.1.symm) hown (hts _ (mg hk rfl)) (hts _ (mg (show Cond.static Lib.Math.abs.name ∈ lw_tbl from wt_J9_abs_0f7a4) rfl)) (hts _ (mg (show Cond.initialized "java/lang/Math" ∈ lw_tbl from wi_RJ9) rfl)) (hts _ (mg wM_abs rfl)) (by omega) (by omega) hu.1 hu.2 hd ?_
  have e1 : (if 0 ≤ iI a then iI a else 0 - iI a) = iI (ab a) := by
    unfold ab
    have e0 : (0 : Int32) = iI 0 := i0
    by_cases q : a < 0
    · rw [if_pos q, if_neg (fun w => by rw [e0] at w; have := (iI_le (by decide) ha).mp w; omega), e0, iI_sub]
      congr 1; omega
    · rw [if_neg q, if_pos (by rw [e0]; exact (iI_le (by decide) ha).mpr (by omega))]
  rw [e1]
  exact k H locs ls hW hz hu hS hl
end MathZ
