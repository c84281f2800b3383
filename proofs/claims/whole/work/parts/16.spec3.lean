/-! what the reference's other public methods answer -/
def fitG (f : Int → Int) (k kd : Int) : Int → Int → Int := fun i b => if b = 1 ∧ (f (40 + 3 * i) ≠ k ∨ hol kd (f (32 + k)) (f (40 + 3 * i + 1)) = f (40 + 3 * i + 2)) then 1 else 0
def fitI (f : Int → Int) (k kd n : Int) : Int := itI n (fitG f k kd) 1
def kof (f : Int → Int) (k : Int) : Int := msk (fun kd => fitI f k kd (f 39) = 1) 6
def isA (S : Nat → Int → Int) (k : Int) : Int × (Nat → Int → Int) := if 0 ≤ k ∧ k ≤ S 1 26 - 1 then (kof (S 1) k, S) else (-2, bdS S)
abbrev liP (set s w a : Int) : Int → Prop := fun b => (set / pw a % 2 = 1 ∧ set / pw b % 2 = 1) ∧ hol a s w = hol b s w
def likes (set s w a : Int) : Int := cnI (liP set s w a) 6
def mosG (set s w : Int) : Int → Int → Int := fun a m => if m < likes set s w a then likes set s w a else m
def mosA (set s w : Int) : Int := itI 6 (mosG set s w) 0
def felG (set s : Int) : Int → Int × Int → Int × Int := fun w r => if mosA set s w < r.2 then (w, mosA set s w) else r
def felV (set s : Int) : Int := if set = 0 then -1 else (itI 41 (felG set s) (-1, 99)).1
def feelA (S : Nat → Int → Int) (k : Int) : Int × (Nat → Int → Int) := if 0 ≤ k ∧ k ≤ S 1 26 - 1 then (felV (kof (S 1) k) (S 1 (32 + k)), S) else (-2, bdS S)
def nea (f : Int → Int) (k x : Int) : Int := msk (fun p => f (17 + p) ≠ 6 ∧ far (f (11 + p)) (f (1 + k)) ≤ x) (f 37)
def insG (near hd : Int) : Int → Int × Int → Int × Int := fun set r => if andI set (xorI near (-1)) = 0 ∧ popc set ≤ hd then (r.1 + 1, orI r.2 set) else r
def insV (near hd what : Int) : Int := if what = 0 then (itI (near + 1) (insG near hd) (0, 0)).1 else (itI (near + 1) (insG near hd) (0, 0)).2
def insideA (S : Nat → Int → Int) (k x w : Int) : Int × (Nat → Int → Int) := if 0 ≤ k ∧ k ≤ S 1 26 - 1 then if 0 ≤ x ∧ x ≤ 8 then if 0 ≤ w ∧ w ≤ 1 then (insV (nea (S 1) k x) (hlf (S 1) k) w, S) else (-2, bdS S) else (-2, bdS S) else (-2, bdS S)
def gts (f : Int → Int) (p i o j : Int) : Int := if hlf f i - popc (und f i) ≤ 0 ∨ ((hlf f i - popc (und f i) = 1 ∧ i = j) ∧ o < p) then -(9 - far (f (11 + p)) (f (1 + i))) else 9 - far (f (11 + p)) (f (1 + i))
def rstG (f : Int → Int) (a i b j : Int) : Int → Int → Int := fun k r => if r = 1 ∧ (gts f a k b j ≤ gts f a i b j ∧ gts f b k a i ≤ gts f b j a i) then 1 else 0
def rst (f : Int → Int) (a i b j : Int) : Int := itI (f 26) (rstG f a i b j) 1
def twN (f : Int → Int) (a b k : Int) : Nat → Int → Int → Int
  | 0, _, n => if k = -1 then n else -5
  | m + 1, q, n => if (q / 5 < f 26 ∧ q % 5 < f 26) ∧ rst f a (q / 5) b (q % 5) = 1 then (if n = k then q else twN f a b k m (q + 1) (n + 1)) else twN f a b k m (q + 1) n
def twoA (S : Nat → Int → Int) (a b k : Int) : Int × (Nat → Int → Int) :=
  if 0 ≤ a ∧ a ≤ S 1 37 - 1 then if 0 ≤ b ∧ b ≤ S 1 37 - 1 then if a = b then (-10, bdS S) else if k < -1 then (-10, bdS S) else if S 1 (17 + a) = 0 then if S 1 (17 + b) = 0 then (twN (S 1) a b k 25 0 0, S) else (-3, noS S) else (-3, noS S) else (-10, bdS S) else (-10, bdS S)
def dvr (u : Int) : Int := if u % 10 = 0 then 10 else if u % 5 = 0 then 5 else if u % 2 = 0 then 2 else 1
def ranS (S : Nat → Int → Int) (u : Int) : Nat → Int → Int := sst S 0 (fup (fup (S 0) 6 (u / dvr u)) 7 (10 / dvr u))
def rainA (S : Nat → Int → Int) (c : Int) : Int × (Nat → Int → Int) := if 0 ≤ c ∧ c ≤ 10 then (1, ranS S (una (S 1) * (10 - c))) else (-2, bdS S)
def yrX (x : Int) : Int := (x * 1103515245 + 12345) % 2147483648
def yinG : Int → Int × (Int → Int) → Int × (Int → Int) := fun p r => (yrX r.1, fup (fup r.2 (11 + p) (yrX r.1 / 65536 % 24)) (17 + p) 0)
def yrT (f : Int → Int) (x : Int) (T : Int → Int) : Int → Int := gon 9 (itI (f 37) yinG (x, cpn f T)).2
def yrG (f : Int → Int) : Int → Int × Int × (Int → Int) → Int × Int × (Int → Int) := fun _ r => ((itI (f 37) yinG (r.1, cpn f r.2.2)).1, r.2.1 + popc (tkn (yrT f r.1 r.2.2)), yrT f r.1 r.2.2)
def yearsA (S : Nat → Int → Int) (s n : Int) : Int × (Nat → Int → Int) := if 0 ≤ s ∧ s ≤ 999999 then if 0 ≤ n ∧ n ≤ 30 then ((itI n (yrG (S 1)) (s, 0, S 2)).2.1, sst S 2 (itI n (yrG (S 1)) (s, 0, S 2)).2.2) else (-2, bdS S) else (-2, bdS S)
-- rows
theorem fitI_s (f : Int → Int) (k kd : Int) {n : Int} (h : 0 ≤ n) : fitI f k kd (n + 1) = if fitI f k kd n = 1 ∧ (f (40 + 3 * n) ≠ k ∨ hol kd (f (32 + k)) (f (40 + 3 * n + 1)) = f (40 + 3 * n + 2)) then 1 else 0 := itI_s _ _ h
theorem fitI_01 (f : Int → Int) (k kd : Int) {n : Int} (h : 0 ≤ n) : fitI f k kd n = 0 ∨ fitI f k kd n = 1 := by
  unfold fitI
  refine itI_ind (fun _ b => b = 0 ∨ b = 1) _ _ h (Or.inr rfl) (fun i b h1 h2 h3 => ?_)
  unfold fitG
  split <;> simp
theorem kof_rg (f : Int → Int) (k : Int) : 0 ≤ kof f k ∧ kof f k < 64 := msk_64 _ (by decide)
theorem likes_rg (set s w a : Int) : 0 ≤ likes set s w a ∧ likes set s w a ≤ 6 := cnI_rg _ (by decide)
theorem mosA_rg (set s w : Int) {n : Int} (h : 0 ≤ n) : 0 ≤ itI n (mosG set s w) 0 ∧ itI n (mosG set s w) 0 ≤ 6 :=
  itI_ind (fun _ m => 0 ≤ m ∧ m ≤ 6) _ _ h (by decide) (fun i m h1 h2 h3 => by have := likes_rg set s w i; unfold mosG; split <;> omega)
theorem gts_rg {f : Int → Int} (h : inv f) {p i o j : Int} (hp : 0 ≤ p ∧ p < 6) (hi : 0 ≤ i ∧ i < 5) : -9 ≤ gts f p i o j ∧ gts f p i o j ≤ 9 := by
  have := far_rg (h.p p hp).1 (h.k i hi).1
  unfold gts
  split <;> omega
theorem rst_01 (f : Int → Int) (a i b j : Int) {n : Int} (h : 0 ≤ n) : itI n (rstG f a i b j) 1 = 0 ∨ itI n (rstG f a i b j) 1 = 1 := by
  refine itI_ind (fun _ b => b = 0 ∨ b = 1) _ _ h (Or.inr rfl) (fun i b h1 h2 h3 => ?_)
  unfold rstG
  split <;> simp
theorem twN_y {f : Int → Int} {a b k q n : Int} (hq : q < 25) (h1 : (q / 5 < f 26 ∧ q % 5 < f 26) ∧ rst f a (q / 5) b (q % 5) = 1) (h2 : n = k) : twN f a b k (25 - q).toNat q n = q := by
  rw [show (25 - q).toNat = (25 - (q + 1)).toNat + 1 by omega]
  show (if _ then (if n = k then q else _) else _) = _
  rw [if_pos h1, if_pos h2]
theorem twN_n {f : Int → Int} {a b k q n : Int} (hq : q < 25) (h1 : (q / 5 < f 26 ∧ q % 5 < f 26) ∧ rst f a (q / 5) b (q % 5) = 1) (h2 : ¬ n = k) : twN f a b k (25 - q).toNat q n = twN f a b k (25 - (q + 1)).toNat (q + 1) (n + 1) := by
  rw [show (25 - q).toNat = (25 - (q + 1)).toNat + 1 by omega]
  show (if _ then (if n = k then q else _) else _) = _
  rw [if_pos h1, if_neg h2]
theorem twN_o {f : Int → Int} {a b k q n : Int} (hq : q < 25) (h1 : ¬ ((q / 5 < f 26 ∧ q % 5 < f 26) ∧ rst f a (q / 5) b (q % 5) = 1)) : twN f a b k (25 - q).toNat q n = twN f a b k (25 - (q + 1)).toNat (q + 1) n := by
  rw [show (25 - q).toNat = (25 - (q + 1)).toNat + 1 by omega]
  show (if _ then (if n = k then q else _) else _) = _
  rw [if_neg h1]
theorem twN_e {f : Int → Int} {a b k q n : Int} (hq : 25 ≤ q) : twN f a b k (25 - q).toNat q n = if k = -1 then n else -5 := by rw [show (25 - q).toNat = 0 by omega]; rfl
theorem dvr_gcd : ∀ u : Fin 61, Nat.gcd u.val 10 = (dvr (u.val : Int)).toNat := by decide +kernel
theorem gcd_step {x y : Int} (hx : 0 ≤ x) (hy : 0 < y) : Nat.gcd x.toNat y.toNat = Nat.gcd y.toNat (x % y).toNat := by
  have : (x % y).toNat = x.toNat % y.toNat := Int.toNat_emod hx (by omega)
  rw [this, Nat.gcd_comm x.toNat y.toNat, Nat.gcd_rec, Nat.gcd_comm]
theorem dvr_rg (u : Int) : 1 ≤ dvr u ∧ dvr u ≤ 10 := by unfold dvr; (repeat' split) <;> omega
theorem inv_yin {T : Int → Int} (h : inv T) {p c : Int} (hp : 0 ≤ p ∧ p < T 37) (hc : 0 ≤ c ∧ c < 24) : inv (fup (fup T (11 + p) c) (17 + p) 0) ∧ cfx T (fup (fup T (11 + p) c) (17 + p) 0) := by
  have hn := h.n
  have e : fup (fup T (11 + p) c) (17 + p) 0 = fup (fup T (17 + p) 0) (11 + p) c := by
    funext j
    unfold fup
    by_cases h1 : j = 17 + p
    · rw [if_pos h1, if_neg (by omega), if_pos h1]
    · rw [if_neg h1]
      split <;> rfl
  rw [e]
  exact ⟨inv_ce (inv_st h hp (by decide) (fun a b => by omega)) (by omega) hc (Or.inl (fup_s _ _ _)), (cfx_fup (by omega)).tr (cfx_fup (by omega))⟩
theorem fnd_y {P : Int → Bool} {m : Nat} {i : Int} (hm : 0 < m) (h : P i = true) : fnd P m i = i := by
  cases m with
  | zero => omega
  | succ m => exact if_pos h
theorem fnd_n {P : Int → Bool} {N i : Int} (hm : i < N) (h : ¬ P i = true) : fnd P (N - i).toNat i = fnd P (N - (i + 1)).toNat (i + 1) := by
  rw [show (N - i).toNat = (N - (i + 1)).toNat + 1 by omega]
  exact if_neg h
