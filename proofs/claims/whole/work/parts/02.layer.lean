/-! THE LAYER: a heap as a function of addresses, whole numbers as Int; one judgement Zj over the kit's W -/
abbrev Ce : Type := (Nat × Nat × (Int → Int)) ⊕ ((Nat × (Int → Option Nat)) ⊕ (Nat × List Value))
abbrev AH : Type := Nat → Option Ce
abbrev Gt : Type := Launch × va_G × (Nat → ClassId) × Nat × (Nat → Nat) × (Nat → Nat)
abbrev gl (g : Gt) : Launch := g.1
abbrev gD (g : Gt) : va_G := g.2.1
abbrev gA (g : Gt) : Nat → ClassId := g.2.2.1
abbrev gz (g : Gt) : Nat := g.2.2.2.1
abbrev gK (g : Gt) : Nat → Nat := g.2.2.2.2.1
abbrev gV (g : Gt) : Nat → Nat := g.2.2.2.2.2
def iI (e : Int) : Int32 := Int32.ofInt e
def lI (e : Int) : Int64 := Int64.ofInt e
def toE (g : Gt) : Ce → va_E
  | .inl (k, n, f) => .inl (gA g k, n, .inl (fun j : Nat => iI (f (j : Int))))
  | .inr (.inl (n, r)) => .inl (gA g 3, n, .inr (.inr (.inr (.inr (fun j : Nat => r (j : Int))))))
  | .inr (.inr o) => .inr o
def gF (g : Gt) : Nat → Prop := fun q => gz g ≤ q
def WR (g : Gt) (h : AH) (H : Heap) : Prop := ∀ (a : Nat) (c : Ce), h a = some c → gz g ≤ a ∧ va_at (gD g) clsL (a, toE g c) H
abbrev gT (g : Gt) : List (ClassId × FieldType) := [(gA g 0, .int), (gA g 1, .char), (gA g 2, .boolean), (gA g 3, .object RX1)]
def isNest : Cond → Bool
  | .fieldLinkNest .. => true
  | .methodLinkNest .. => true
  | _ => false
def strLen : List Nat := [6, 4, 6, 7, 4]
def strByt : List (List Int32) := [[99, 111, 109, 109, 111, 110], [99, 111, 115, 121], [104, 117, 110, 116, 101, 100], [115, 104, 101, 114, 105, 102, 102], [119, 101, 97, 114]]
def strIx : List Nat := [48, 54, 56, 58, 60]
def strTx : List String := ["common", "cosy", "hunted", "sheriff", "wear"]
def SF (g : Gt) (s : State) : Prop :=
  va_Z "java/lang/String" "COMPACT_STRINGS" "Z" (.int 1) (gF g) s s.heap ∧ va_Zq "jdk/internal/util/Preconditions" "SIOOBE_FORMATTER" "Ljava/util/function/BiFunction;" (gF g) s s.heap ∧
  vk_S 5 strLen strByt (gK g) (gV g) (gF g) s s.heap ∧ ∀ i : Nat, i < 5 → vk_R RX7 (strIx.getD i 0) (strTx.getD i "") (gK g i) s
def KK (g : Gt) (s : State) : Prop := va_K (gD g) clsL (gT g) s ∧ (∀ w ∈ lw_tbl, isNest w = true → va_Nw w s) ∧ gz g ≤ s.heap.size ∧ va_AO RX1 s ∧ SF g s
def lw_good : List Cond := lw_tbl.filter goodWord
theorem mg {w : Cond} (h : w ∈ lw_tbl) (hg : goodWord w = true) : w ∈ lw_good := List.mem_filter.mpr ⟨h, hg⟩
theorem SF.tr {g : Gt} {s U : State} (hal : s.vm.Alike U.vm) (hr : ∀ (o t : String) (k a : Nat), vk_R o k t a s → vk_R o k t a U) (hk : ∀ a : Nat, a < s.heap.size → ¬ gF g a → U.heap[a]? = s.heap[a]?) (h : SF g s) : SF g U := by
  obtain ⟨h1, h2, h3, h4⟩ := h
  exact ⟨(h1.moved hal).kept hk, (h2.moved hal).kept hk, (h3.moved hal).kept hk, fun i hi => hr _ _ _ _ (h4 i hi)⟩
theorem KK.warm {g : Gt} {s U : State} (hW : s.WarmedH U.vm) (hk : ∀ a : Nat, a < s.heap.size → ¬ gF g a → U.heap[a]? = s.heap[a]?) (hz : gz g ≤ U.heap.size) (h : KK g s) : KK g U := by
  obtain ⟨h1, h2, -, h4, h5⟩ := h
  refine ⟨va_K.moved hW.alike h1, fun w hw hn => ?_, hz, va_AO.moved hW.alike h4, h5.tr hW.alike (fun o t k a hh => hh.warm hW) hk⟩
  have h3 := h2 w hw hn
  cases w <;> first | (simp [isNest] at hn; done) | exact h3.warmF hW | exact h3.warmM hW
theorem KK.same {g : Gt} {u U : State} (hv : U.vm = u.vm) (hh : U.heap = u.heap) (h : KK g u) : KK g U := by
  obtain ⟨h1, h2, h3, h4, h5⟩ := h
  have hal : u.vm.Alike U.vm := by rw [hv]; exact Vm.Alike.refl _
  refine ⟨va_K.moved hal h1, fun w hw hn => ?_, by rw [hh]; exact h3, va_AO.moved hal h4, h5.tr hal (fun o t k a q => vk_R.same hv q) (fun a _ _ => by rw [hh])⟩
  have h6 := h2 w hw hn
  exact va_Nw.same (by cases w <;> first | rfl | (simp [isNest] at hn; done)) hv.symm h6
abbrev Xt : Type := Program × Env × Room × State × MethodId × Array Value × List Frame × Method × Code × Nat × (State → Prop)
def Zj (g : Gt) (x : Xt) (u : Nat × Nat × Nat) (h : AH) (pc : Nat) (lv : List (Nat × Value)) (st : List Value) : Prop := match x with
  | (p, e, R, s, m, args, below, meth, c, nL, Q) => ∀ (H : Heap) (locs : List Loc) (ls : Array Slot), WR g h H → H.size = u.1 → (u.2.1 ≤ R.cells ∧ u.2.2 ≤ R.slots) → va_S (gF g) s.heap H locs → lv_has ls nL lv →
    W p (gl g) e R s m args below meth c H locs u.2.1 u.2.2 Q (F0 m pc ls st)
def Ok (g : Gt) (x : Xt) (M : MM) (d cs ss : Nat) : Prop := match x with
  | (p, e, R, s, m, args, below, meth, c, nL, Q) => p.tables.exec = Jvm.exec ∧ c.code = M.2.1 ∧ c.maxLocals = nL ∧ nL = M.2.2.1 ∧ s.vm.findClass M.1.cls = some m.cls ∧ (∀ w ∈ lw_good, w.before args s = true) ∧ KK g s ∧ meth.locks = false ∧ meth.name = M.1.name ∧ meth.sig.returnType = M.2.2.2 ∧ d ≤ R.frames ∧ 80 * d ≤ R.locals ∧ cs ≤ R.cells ∧ ss ≤ R.slots
def Qof (g : Gt) (Qr : Option Value → AH → Nat → Prop) : Array Value → State → Outcome → State → Prop := fun _ st oc t => (∃ (v : Option Value) (h : AH), oc = .returned v ∧ Qr v h t.heap.size ∧ WR g h t.heap) ∧ va_F (gF g) st t
def OkR (g : Gt) (x : Xt) (Qr : Option Value → AH → Nat → Prop) (mc ms : Nat) : Prop := match x with
  | (p, e, R, s, m, args, below, meth, c, nL, Q) => Q = MQ below (Qof g Qr) args s mc ms (gF g)
def wsM (M : MM) : List Cond := .code M.1 M.2.1 M.2.2.1 M.2.2.2 :: lw_good
abbrev rmD (d mc ms : Nat) : Room := { frames := d, cells := mc, slots := ms, locals := 80 * d }
def Cna (g : Gt) (M : MM) (d : Nat) (as : List Value) (h : AH) (sz mc ms : Nat) (Qr : Option Value → AH → Nat → Prop) : Prop :=
  Met (gl g) M.1 (wsM M) (rmD d mc ms) (va_Pc as (fun U => WR g h U.heap ∧ U.heap.size = sz ∧ KK g U)) (Qof g Qr) mc ms (gF g)
def Cn (g : Gt) (M : MM) (d : Nat) (as : List Value) (h : AH) (Qr : Option Value → AH → Prop) : Prop := ∀ sz : Nat, Cna g M d as h sz 0 0 (fun v h' sz' => Qr v h' ∧ sz' = sz)
theorem Cna.mk {g : Gt} {M : MM} {d : Nat} {as : List Value} {h : AH} {sz mc ms : Nat} {Qr : Option Value → AH → Nat → Prop} (hy : plainName M.1.cls = true) (hlen : (lg_sl as).length ≤ M.2.2.1)
    (body : ∀ x : Xt, Ok g x M d mc ms → OkR g x Qr mc ms → Zj g x (sz, 0, 0) h 0 (lv_args 0 as) []) : Cna g M d as h sz mc ms Qr := by
  refine Met.ofW (cc := M.2.1) (maxL := M.2.2.1) (ret := M.2.2.2) hy rfl ?_
  intro p e s m args below meth c s₁ B hml hv
  obtain ⟨rfl, hP, hsz, hK⟩ := hv
  have hts := atoms_spec (ws := wsM M) B.pre
  have hown : s.vm.findClass M.1.cls = some m.cls := findClass_of_methodNamed B.named
  have hlocks := B.notSynchronized
  have hnm : meth.name = M.1.name := (name_of_methodNamed B.named B.method).1
  rw [lg_entry_eq]
  have hb := body (p, e, rmD d mc ms, s, m, as.toArray, below, meth, c, M.2.2.1, MQ below (Qof g Qr) as.toArray s mc ms (gF g)) ⟨B.exec, B.bytes, hml, rfl, hown, fun w hw => hts w (List.mem_cons_of_mem _ hw), hK, hlocks, hnm, B.returns, Nat.le_refl _, Nat.le_refl _, Nat.le_refl _, Nat.le_refl _⟩ rfl
  exact hb s.heap [] _ hP hsz ⟨Nat.zero_le _, Nat.zero_le _⟩ va_S.rf (lv_entry as hlen)
theorem Cn.mk {g : Gt} {M : MM} {d : Nat} {as : List Value} {h : AH} {Qr : Option Value → AH → Prop} (hy : plainName M.1.cls = true) (hlen : (lg_sl as).length ≤ M.2.2.1)
    (body : ∀ (x : Xt) (sz : Nat), Ok g x M d 0 0 → OkR g x (fun v h' sz' => Qr v h' ∧ sz' = sz) 0 0 → Zj g x (sz, 0, 0) h 0 (lv_args 0 as) []) : Cn g M d as h Qr := fun sz => Cna.mk hy hlen (fun x h1 h2 => body x sz h1 h2)
-- ===== numbers =====
theorem iI_add (a b : Int) : iI a + iI b = iI (a + b) := (Int32.ofInt_add a b).symm
theorem iI_sub (a b : Int) : iI a - iI b = iI (a - b) := (Int32.ofInt_sub a b).symm
theorem iI_mul (a b : Int) : iI a * iI b = iI (a * b) := (Int32.ofInt_mul a b).symm
theorem iI_neg (a : Int) : - iI a = iI (-a) := (Int32.ofInt_neg a).symm
theorem lI_add (a b : Int) : lI a + lI b = lI (a + b) := (Int64.ofInt_add a b).symm
theorem lI_sub (a b : Int) : lI a - lI b = lI (a - b) := (Int64.ofInt_sub a b).symm
theorem lI_mul (a b : Int) : lI a * lI b = lI (a * b) := (Int64.ofInt_mul a b).symm
theorem iI_toInt {a : Int} (h : -2147483648 ≤ a ∧ a < 2147483648) : (iI a).toInt = a := Int32.toInt_ofInt_of_le (by omega) (by omega)
theorem lI_toInt {a : Int} (h : -9223372036854775808 ≤ a ∧ a < 9223372036854775808) : (lI a).toInt = a := Int64.toInt_ofInt_of_le (by omega) (by omega)
theorem iI_of (x : Int32) : iI x.toInt = x := Int32.ofInt_toInt x
theorem iI_rg (x : Int32) : -2147483648 ≤ x.toInt ∧ x.toInt < 2147483648 := ⟨by have := Int32.le_toInt x; omega, by have := Int32.toInt_lt x; omega⟩
theorem iI_lt {a b : Int} (ha : -2147483648 ≤ a ∧ a < 2147483648) (hb : -2147483648 ≤ b ∧ b < 2147483648) : iI a < iI b ↔ a < b := by rw [Int32.lt_iff_toInt_lt, iI_toInt ha, iI_toInt hb]
theorem iI_le {a b : Int} (ha : -2147483648 ≤ a ∧ a < 2147483648) (hb : -2147483648 ≤ b ∧ b < 2147483648) : iI a ≤ iI b ↔ a ≤ b := by rw [Int32.le_iff_toInt_le, iI_toInt ha, iI_toInt hb]
theorem iI_eq {a b : Int} (ha : -2147483648 ≤ a ∧ a < 2147483648) (hb : -2147483648 ≤ b ∧ b < 2147483648) : iI a = iI b ↔ a = b := by rw [← Int32.toInt_inj, iI_toInt ha, iI_toInt hb]
theorem lI_lt {a b : Int} (ha : -9223372036854775808 ≤ a ∧ a < 9223372036854775808) (hb : -9223372036854775808 ≤ b ∧ b < 9223372036854775808) : lI a < lI b ↔ a < b := by rw [Int64.lt_iff_toInt_lt, lI_toInt ha, lI_toInt hb]
theorem lI_eq {a b : Int} (ha : -9223372036854775808 ≤ a ∧ a < 9223372036854775808) (hb : -9223372036854775808 ≤ b ∧ b < 9223372036854775808) : lI a = lI b ↔ a = b := by rw [← Int64.toInt_inj, lI_toInt ha, lI_toInt hb]
theorem i0 : (0 : Int32) = iI 0 := by decide
theorem iI_nat {i : Int} {n : Nat} (h0 : 0 ≤ i) (h1 : i < (n : Int)) (hn : i < 2147483648) : (iI i).toNatClampNeg = i.toNat := by
  show (iI i).toInt.toNat = i.toNat
  rw [iI_toInt ⟨by omega, hn⟩]
theorem iI_in {i : Int} {n : Nat} (h0 : 0 ≤ i) (h1 : i < (n : Int)) (hn : i < 2147483648) : vp_in (iI i) n := by
  rw [vp_in_iff, iI_toInt ⟨by omega, hn⟩]
  exact ⟨h0, h1⟩
theorem iI_div {a b : Int} (ha : 0 ≤ a ∧ a < 2147483648) (hb : 0 < b ∧ b < 2147483648) : iI a / iI b = iI (a / b) := by
  have h := Int32.ofInt_tdiv (a := a) (b := b) (by show -2147483648 ≤ a; omega) (by show a ≤ 2147483647; omega) (by show -2147483648 ≤ b; omega) (by show b ≤ 2147483647; omega)
  rw [Int.tdiv_eq_ediv_of_nonneg ha.1] at h
  exact h.symm
theorem iI_rem {a b : Int} (ha : 0 ≤ a ∧ a < 2147483648) (hb : 0 < b ∧ b < 2147483648) : iI a - iI a / iI b * iI b = iI (a % b) := by
  rw [iI_div ha hb, iI_mul, iI_sub]
  congr 1
  have := Int.mul_ediv_add_emod a b
  rw [Int.mul_comm] at this
  omega
theorem lI_div {a b : Int} (ha : 0 ≤ a ∧ a < 9223372036854775808) (hb : 0 < b ∧ b < 9223372036854775808) : lI a / lI b = lI (a / b) := by
  have h := Int64.ofInt_tdiv (a := a) (b := b) (by show -9223372036854775808 ≤ a; omega) (by show a ≤ 9223372036854775807; omega) (by show -9223372036854775808 ≤ b; omega) (by show b ≤ 9223372036854775807; omega)
  rw [Int.tdiv_eq_ediv_of_nonneg ha.1] at h
  exact h.symm
theorem lI_rem {a b : Int} (ha : 0 ≤ a ∧ a < 9223372036854775808) (hb : 0 < b ∧ b < 9223372036854775808) : lI a - lI a / lI b * lI b = lI (a % b) := by
  rw [lI_div ha hb, lI_mul, lI_sub]
  congr 1
  have := Int.mul_ediv_add_emod a b
  rw [Int.mul_comm] at this
  omega
theorem iI_l {a : Int} (h : -2147483648 ≤ a ∧ a < 2147483648) : (iI a).toInt64 = lI a := Int32.toInt64_ofInt (by show -2147483648 ≤ a; omega) (by show a ≤ 2147483647; omega)
theorem lI_i (a : Int) : (lI a).toInt32 = iI a := Int64.toInt32_ofInt
theorem i0n {b : Int} (hb : -2147483648 ≤ b ∧ b < 2147483648) (h : b ≠ 0) : ¬ iI b = 0 := by rw [i0, iI_eq hb (by decide)]; exact h
