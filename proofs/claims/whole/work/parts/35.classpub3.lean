/-! the class: what comes, what it is -/
theorem itI_abs {G : Int → Int → Int} (hG : ∀ i, G i 0 = 0) {a m n : Int} (hm : 0 ≤ m ∧ m ≤ n) (h : itI m G a = 0) : itI n G a = 0 := by
  have key : ∀ q : Nat, itI (m + (q : Int)) G a = 0 := by
    intro q
    induction q with
    | zero => rw [show m + ((0 : Nat) : Int) = m by omega]; exact h
    | succ q ih =>
      rw [show m + ((q + 1 : Nat) : Int) = m + (q : Int) + 1 by omega, itI_s _ _ (by omega), ih]; exact hG _
  have := key (n - m).toNat
  rwa [show m + ((n - m).toNat : Int) = n by omega] at this
theorem fit_z {f : Int → Int} {k kd m n : Int} (hm : 0 ≤ m ∧ m ≤ n) (h : fitI f k kd m = 0) : fitI f k kd n = 0 := itI_abs (G := fitG f k kd) (a := 1) (fun i => by unfold fitG; exact if_neg (fun w => absurd w.1 (by decide))) hm h
def mxN (G : Int → Int) (n : Int) : Int := itI n (fun a m => if m < G a then G a else m) 0
theorem mxN_s (G : Int → Int) {n : Int} (hn : 0 ≤ n) : mxN G (n + 1) = mxI (mxN G n) (G n) := itI_s _ _ hn
theorem mxN_p (G : Int → Int) {n : Int} (hn : 0 ≤ n) : (∀ a, 0 ≤ a → a < n → G a ≤ mxN G n) ∧ (mxN G n = 0 ∨ ∃ a, (0 ≤ a ∧ a < n) ∧ mxN G n = G a) ∧ 0 ≤ mxN G n := by
  unfold mxN
  refine itI_ind (fun i m => (∀ a, 0 ≤ a → a < i → G a ≤ m) ∧ (m = 0 ∨ ∃ a, (0 ≤ a ∧ a < i) ∧ m = G a) ∧ 0 ≤ m) _ _ hn ⟨fun a x y => by omega, Or.inl rfl, Int.le_refl _⟩ (fun i m h1 h2 h3 => ?_)
  obtain ⟨p1, p2, p3⟩ := h3
  by_cases c : m < G i
  · rw [if_pos c]
    refine ⟨fun a x y => ?_, Or.inr ⟨i, ⟨h1, by omega⟩, rfl⟩, by omega⟩
    by_cases d : a = i
    · rw [d]; exact Int.le_refl _
    · have := p1 a x (by omega); omega
  · rw [if_neg c]
    refine ⟨fun a x y => ?_, p2.imp id (fun ⟨a, x, y⟩ => ⟨a, ⟨x.1, by omega⟩, y⟩), p3⟩
    by_cases d : a = i
    · rw [d]; omega
    · exact p1 a x (by omega)
abbrev cbP (set s w a : Int) : Int → Prop := fun b => set / pw b % 2 = 1 ∧ hol b s w = hol a s w
def cntB (set s w a : Int) : Int := cnI (cbP set s w a) 6
theorem cnI_z {c : Int → Prop} [DecidablePred c] {n : Int} (hn : 0 ≤ n) (h : ∀ p, 0 ≤ p → p < n → ¬ c p) : cnI c n = 0 := by
  unfold cnI
  exact itI_ind (fun _ m => m = 0) _ _ hn rfl (fun i m h1 h2 h3 => by rw [if_neg (h i h1 h2)]; exact h3)
theorem cnI_ex {c : Int → Prop} [DecidablePred c] {n : Int} (hn : 0 ≤ n) (h : cnI c n ≠ 0) : ∃ p, (0 ≤ p ∧ p < n) ∧ c p := by
  apply Classical.byContradiction
  intro w
  exact h (cnI_z hn (fun p x y z => w ⟨p, ⟨x, y⟩, z⟩))
theorem cnt_y {set s w a : Int} (h : set / pw a % 2 = 1) : likes set s w a = cntB set s w a :=
  cnI_congr (fun b _ _ => ⟨fun q => ⟨q.1.2, q.2.symm⟩, fun q => ⟨⟨h, q.1⟩, q.2.symm⟩⟩)
theorem cnt_n {set s w a : Int} (h : ¬ set / pw a % 2 = 1) : likes set s w a = 0 := cnI_z (by decide) (fun b _ _ q => h q.1.1)
theorem mos_eq (set s w : Int) : mxN (cntB set s w) 6 = mosA set s w := by
  have e1 := mxN_p (cntB set s w) (n := 6) (by decide)
  have e2 := mxN_p (likes set s w) (n := 6) (by decide)
  show mxN (cntB set s w) 6 = mxN (likes set s w) 6
  have h1 : mxN (cntB set s w) 6 ≤ mxN (likes set s w) 6 := by
    rcases e1.2.1 with z | ⟨a, ha, z⟩
    · omega
    · by_cases c : cntB set s w a = 0
      · omega
      · obtain ⟨b, hb, q1, q2⟩ := cnI_ex (by decide) c
        have q3 : cntB set s w a = cntB set s w b := cnI_congr (fun p _ _ => by unfold cbP; rw [q2])
        have q4 := e2.1 b hb.1 hb.2
        rw [cnt_y q1] at q4
        omega
  have h2 : mxN (likes set s w) 6 ≤ mxN (cntB set s w) 6 := by
    rcases e2.2.1 with z | ⟨a, ha, z⟩
    · omega
    · have q4 := e1.1 a ha.1 ha.2
      by_cases c : set / pw a % 2 = 1
      · rw [cnt_y c] at z; omega
      · rw [cnt_n c] at z; omega
  omega
theorem sub_le_t : ∀ n : Fin 64, ∀ s : Fin 64, andI (s.val : Int) (xorI (n.val : Int) (-1)) = 0 → s.val ≤ n.val := by decide +kernel
theorem sub_le {n s : Int} (hn : 0 ≤ n ∧ n < 64) (hs : 0 ≤ s ∧ s < 64) (h : andI s (xorI n (-1)) = 0) : s ≤ n := by
  have := sub_le_t ⟨n.toNat, by omega⟩ ⟨s.toNat, by omega⟩
  dsimp only at this
  rw [Int.toNat_of_nonneg hn.1, Int.toNat_of_nonneg hs.1] at this
  have := this h
  omega
theorem ins_hi {near hd : Int} (hn : 0 ≤ near ∧ near < 64) : itI 64 (insG near hd) (0, 0) = itI (near + 1) (insG near hd) (0, 0) := by
  have key : ∀ q : Nat, near + 1 + (q : Int) ≤ 64 → itI (near + 1 + (q : Int)) (insG near hd) (0, 0) = itI (near + 1) (insG near hd) (0, 0) := by
    intro q
    induction q with
    | zero => intro _; rw [show near + 1 + ((0 : Nat) : Int) = near + 1 by omega]
    | succ q ih =>
      intro h
      rw [show near + 1 + ((q + 1 : Nat) : Int) = near + 1 + (q : Int) + 1 by omega, ins_s (by omega), ih (by omega)]
      unfold insG
      rw [if_neg]
      intro w
      have := sub_le hn (s := near + 1 + (q : Int)) (by omega) w.1
      omega
  have := key (63 - near).toNat (by omega)
  rwa [show near + 1 + ((63 - near).toNat : Int) = 64 by omega] at this
def rsgG (f : Int → Int) (p i o j : Int) : Int → Int → Int := fun k r => if r = 1 ∧ gts f p k o j ≤ gts f p i o j then 1 else 0
def rsg (f : Int → Int) (p i o j : Int) : Int := itI (f 26) (rsgG f p i o j) 1
theorem rsg_z {f : Int → Int} {p i o j m : Int} (hm : 0 ≤ m ∧ m ≤ f 26) (h : itI m (rsgG f p i o j) 1 = 0) : rsg f p i o j = 0 := itI_abs (G := rsgG f p i o j) (a := 1) (fun i => by unfold rsgG; exact if_neg (fun w => absurd w.1 (by decide))) hm h
theorem ite_1 {c : Prop} [Decidable c] : (if c then (1 : Int) else 0) = 1 ↔ c := by by_cases h : c <;> simp [h]
theorem rst_iff {f : Int → Int} {a i b j : Int} (hn : 0 ≤ f 26) : rst f a i b j = 1 ↔ rsg f a i b j = 1 ∧ rsg f b j a i = 1 := by
  have key : ∀ q : Nat, itI (q : Int) (rstG f a i b j) 1 = 1 ↔ itI (q : Int) (rsgG f a i b j) 1 = 1 ∧ itI (q : Int) (rsgG f b j a i) 1 = 1 := by
    intro q
    induction q with
    | zero => exact ⟨fun _ => ⟨rfl, rfl⟩, fun _ => rfl⟩
    | succ q ih =>
      rw [show ((q + 1 : Nat) : Int) = (q : Int) + 1 by omega, itI_s _ _ (by omega), itI_s _ _ (by omega), itI_s _ _ (by omega)]
      unfold rstG rsgG at ih ⊢
      rw [ite_1, ite_1, ite_1, ih]
      constructor
      · rintro ⟨⟨q1, q2⟩, q3, q4⟩; exact ⟨⟨q1, q3⟩, q2, q4⟩
      · rintro ⟨⟨q1, q3⟩, q2, q4⟩; exact ⟨⟨q1, q2⟩, q3, q4⟩
  have := key (f 26).toNat
  rwa [show ((f 26).toNat : Int) = f 26 by omega] at this
theorem twN_sk {f : Int → Int} {a b k n q1 : Int} (h1 : q1 ≤ 25) : ∀ (m : Nat) (q0 : Int), q1 - q0 = (m : Int) → (∀ q, q0 ≤ q → q < q1 → ¬ (q / 5 < f 26 ∧ q % 5 < f 26)) → twN f a b k (25 - q0).toNat q0 n = twN f a b k (25 - q1).toNat q1 n := by
  intro m
  induction m with
  | zero => intro q0 e _; rw [show q0 = q1 by omega]
  | succ m ih =>
    intro q0 e h
    rw [twN_o (by omega) (fun w => h q0 (by omega) (by omega) w.1)]
    exact ih (q0 + 1) (by omega) (fun q x y => h q (by omega) y)
theorem pct_rg {f : Int → Int} (h : inv f) : 0 ≤ popc (tkn f) ∧ popc (tkn f) ≤ 6 := by
  have e := popc_msk (fun p => f (17 + p) = 6) h.n.2.1
  have e2 := cnI_rg (fun p => f (17 + p) = 6) h.n.2.1.1
  have := h.n.2.1
  unfold tkn
  omega

set_option maxHeartbeats 4000000 in
set_option maxRecDepth 20000 in
theorem kX8_holdsAs (g : Gt) {h : AH} {b : Nat} {la lb c0 c1 c2 : Int} {F : Nat → Int → Int} {pi : Int → Int} {Fs : Int → Nat → Int → Int} {m n kq : Int} {N : Nat → Int → Int} {f : Int → Int} {kd : Int} {k : Int} {w : Int}(x0 : XO h b la lb c0 c1 c2) (hK : KM h (b + 1) F pi Fs m n kq N) (hR : RLC F f) (hI : inv f) (hkd : 0 ≤ kd ∧ kd ≤ 5) (hk : 0 ≤ k ∧ k < f 26) (hw : 0 ≤ w ∧ w ≤ 40) : CnI g mX8_holdsAs 3 [.ref b, .int (iI kd), .int (iI k), .int (iI w)] h (hol kd (f (32 + k)) w) := by
  refine Cn.mk (by decide +kernel) (Nat.le_of_ble_eq_true rfl) ?_
  intro x sz hx hr
  show Zj g x (sz, 0, 0) h 0 [(0, .ref b), (1, .int (iI kd)), (2, .int (iI k)), (3, .int (iI w))] []
  obtain ⟨k0, k1, k2, k3, k4, k5⟩ := hK
  have hn := hI.n
  have rn := hR.n
  refine z_iload_n hx dX8_holdsAs_0 rfl 1 rfl ?_
  refine z_aload_n hx dX8_holdsAs_1 rfl 0 rfl ?_
  refine z_get hx dX8_holdsAs_2 fl_X8_10 x0 rfl ?_
  refine z_get hx dX8_holdsAs_5 fl_X8_71 k0 rfl ?_
  refine z_get hx dX8_holdsAs_8 fl_X8_185 k1.1 rfl ?_
  refine z_iload_n hx dX8_holdsAs_11 rfl 2 rfl ?_
  refine z_iald hx dX8_holdsAs_12 k1.2.2.2.1 (by omega) (by decide) ?_
  have rk_1 := hR.k k (by first | omega | decide)
  have ik_2 := hI.k k (by first | omega | decide)
  refine z_iload_n hx dX8_holdsAs_13 rfl 3 rfl ?_
  refine z_cSI (as := [.int (iI kd), .int (iI (F 3 k)), .int (iI w)]) (rest := []) hx dX8_holdsAs_14 lk_X8_285 wt_X4_holds mo_X4_holds (kX4_holds g (k := kd) (s := (F 3 k)) (w := w) (by omega) (by omega) (by omega)) (by decide) rfl rfl (Nat.le_of_ble_eq_true rfl) ?_
  refine z_iret hx hr dX8_holdsAs_17 rfl rfl (q_i (by rw [show F 3 k = f (32 + k) by omega]))

set_option maxHeartbeats 4000000 in
set_option maxRecDepth 20000 in
theorem kX8_fitsNotes (g : Gt) {h : AH} {b : Nat} {la lb c0 c1 c2 : Int} {F : Nat → Int → Int} {pi : Int → Int} {Fs : Int → Nat → Int → Int} {m n kq : Int} {N : Nat → Int → Int} {f : Int → Int} {kd : Int} {k : Int}(x0 : XO h b la lb c0 c1 c2) (hK : KM h (b + 1) F pi Fs m n kq N) (hR : RLC F f) (hI : inv f) (hn9 : n = f 39) (hNn : NRl N f) (h39 : 0 ≤ f 39 ∧ f 39 ≤ 6) (hno : ∀ i, 0 ≤ i → i < f 39 → f (40 + 3 * i) < 5 ∧ f (40 + 3 * i + 1) ≤ 40 ∧ f (40 + 3 * i + 2) ≤ 9) (hkd : 0 ≤ kd ∧ kd ≤ 5) (hk : 0 ≤ k ∧ k < f 26) : CnI g mX8_fitsNotes 4 [.ref b, .int (iI kd), .int (iI k)] h (b2i (fitI f k kd (f 39) = 1)) := by
  refine Cn.mk (by decide +kernel) (Nat.le_of_ble_eq_true rfl) ?_
  intro x sz hx hr
  show Zj g x (sz, 0, 0) h 0 [(0, .ref b), (1, .int (iI kd)), (2, .int (iI k))] []
  obtain ⟨k0, k1, k2, k3, k4, k5⟩ := hK
  have hn := hI.n
  have rn := hR.n
  subst hn9
  refine z_iconst hx dX8_fitsNotes_0 ?_
  refine z_istore_n hx dX8_fitsNotes_1 rfl (by decide) [1, 2, 3, 0] (lv' := [(0, .ref b), (1, .int (iI kd)), (2, .int (iI k)), (3, .int (iI 0))]) rfl ?_
  have hL_1 : ∀ (mm : Nat) (v3 : Int), (0 ≤ v3 ∧ v3 ≤ f 39) → (fitI f k kd v3 = 1) → f 39 - v3 < (mm : Int) → Zj g x (sz, 0, 0) h 2 [(0, .ref b), (1, .int (iI kd)), (2, .int (iI k)), (3, .int (iI v3))] [] := by
    intro mm
    induction mm with
    | zero => intro v3 kv e3 hm; exfalso; omega
    | succ mm ih =>
      intro v3 kv e3 hm
      have ih_2 := ih; clear ih
      refine z_iload_n hx dX8_fitsNotes_2 rfl 3 rfl ?_
      refine z_aload_n hx dX8_fitsNotes_3 rfl 0 rfl ?_
      refine z_get hx dX8_fitsNotes_4 fl_X8_10 x0 rfl ?_
      refine z_get hx dX8_fitsNotes_7 fl_X8_222 k0 rfl ?_
      refine z_icmp_ge (tgt := 61) hx dX8_fitsNotes_10 (by decide) (by omega) (by omega) (fun c_3 => ?_) (fun c_3 => ?_)
      ·
        refine z_iconst hx dX8_fitsNotes_61 ?_
        refine z_iret hx hr dX8_fitsNotes_62 rfl rfl (q_i (by unfold b2i; first | (rw [if_pos (by rw [← show v3 = f 39 by omega]; exact e3)]) | (rw [if_neg (by rw [fit_z (m := v3 + 1) (by omega) (by rw [fitI_s _ _ _ (by omega)]; exact if_neg (by rintro ⟨q1, q2⟩; omega))]; decide)])))
      ·
        refine z_aload_n hx dX8_fitsNotes_13 rfl 0 rfl ?_
        refine z_get hx dX8_fitsNotes_14 fl_X8_10 x0 rfl ?_
        refine z_get hx dX8_fitsNotes_17 fl_X8_293 k0 rfl ?_
        refine z_iload_n hx dX8_fitsNotes_20 rfl 3 rfl ?_
        refine z_iald hx dX8_fitsNotes_21 k3 (by omega) (by decide) ?_
        have nn_4 := hNn v3 (by omega) (by omega)
        have no_5 := hno v3 (by omega) (by omega)
        have rg_6 := hI.rg (40 + 3 * v3) (by omega)
        have rg_7 := hI.rg (40 + 3 * v3 + 1) (by omega)
        have rg_8 := hI.rg (40 + 3 * v3 + 2) (by omega)
        refine z_iload_n hx dX8_fitsNotes_22 rfl 2 rfl ?_
        refine z_icmp_ne (tgt := 55) hx dX8_fitsNotes_23 (by decide) (by omega) (by omega) (fun c_9 => ?_) (fun c_9 => ?_)
        ·
          refine z_iinc hx dX8_fitsNotes_55 (by decide) 3 rfl [1, 2, 3, 0] (lv' := [(0, .ref b), (1, .int (iI kd)), (2, .int (iI k)), (3, .int (iI (v3 + 1)))]) rfl ?_
          refine z_goto (tgt := 2) hx dX8_fitsNotes_58 (by decide) ?_
          exact ih_2 _ (by omega) (by rw [fitI_s _ _ _ (by omega)]; exact if_pos ⟨e3, by omega⟩)  (by omega)
        ·
          refine z_aload_n hx dX8_fitsNotes_26 rfl 0 rfl ?_
          refine z_iload_n hx dX8_fitsNotes_27 rfl 1 rfl ?_
          refine z_iload_n hx dX8_fitsNotes_28 rfl 2 rfl ?_
          refine z_aload_n hx dX8_fitsNotes_29 rfl 0 rfl ?_
          refine z_get hx dX8_fitsNotes_30 fl_X8_10 x0 rfl ?_
          refine z_get hx dX8_fitsNotes_33 fl_X8_296 k0 rfl ?_
          refine z_iload_n hx dX8_fitsNotes_36 rfl 3 rfl ?_
          refine z_iald hx dX8_fitsNotes_37 k4 (by omega) (by decide) ?_
          have nn_10 := hNn v3 (by omega) (by omega)
          have no_11 := hno v3 (by omega) (by omega)
          have rg_12 := hI.rg (40 + 3 * v3) (by omega)
          have rg_13 := hI.rg (40 + 3 * v3 + 1) (by omega)
          have rg_14 := hI.rg (40 + 3 * v3 + 2) (by omega)
          refine z_cVI (as := [.int (iI kd), .int (iI k), .int (iI (N 1 v3))]) (rest := []) hx dX8_fitsNotes_38 lk_X8_219 wm_X8_holdsAs wv_X8_holdsAs (rcv_obj hx x0 rfl) mo_X8_holdsAs (kX8_holdsAs g (kd := kd) (k := k) (w := (N 1 v3)) (F := F) (N := N) (f := f) x0 ⟨k0, k1, k2, k3, k4, k5⟩ hR hI (show 0 ≤ kd ∧ kd ≤ 5 by omega) (show 0 ≤ k ∧ k < f 26 by omega) (show 0 ≤ (N 1 v3) ∧ (N 1 v3) ≤ 40 by omega)) (by decide) rfl rfl (Nat.le_of_ble_eq_true rfl) ?_
          have f_15 := hol_rg (k := kd) (s := f (32 + k)) (w := (N 1 v3)) (by omega) (by have := (hI).k k (by have := (hI).n; omega); omega) (by omega)
          have eh : hol kd (f (32 + k)) (N 1 v3) = hol kd (f (32 + k)) (f (40 + 3 * v3 + 1)) := by rw [show N 1 v3 = f (40 + 3 * v3 + 1) by omega]
          refine z_aload_n hx dX8_fitsNotes_41 rfl 0 rfl ?_
          refine z_get hx dX8_fitsNotes_42 fl_X8_10 x0 rfl ?_
          refine z_get hx dX8_fitsNotes_45 fl_X8_299 k0 rfl ?_
          refine z_iload_n hx dX8_fitsNotes_48 rfl 3 rfl ?_
          refine z_iald hx dX8_fitsNotes_49 k5 (by omega) (by decide) ?_
          have nn_16 := hNn v3 (by omega) (by omega)
          have no_17 := hno v3 (by omega) (by omega)
          have rg_18 := hI.rg (40 + 3 * v3) (by omega)
          have rg_19 := hI.rg (40 + 3 * v3 + 1) (by omega)
          have rg_20 := hI.rg (40 + 3 * v3 + 2) (by omega)
          refine z_icmp_eq (tgt := 55) hx dX8_fitsNotes_50 (by decide) (by omega) (by omega) (fun c_21 => ?_) (fun c_21 => ?_)
          ·
            refine z_iinc hx dX8_fitsNotes_55 (by decide) 3 rfl [1, 2, 3, 0] (lv' := [(0, .ref b), (1, .int (iI kd)), (2, .int (iI k)), (3, .int (iI (v3 + 1)))]) rfl ?_
            refine z_goto (tgt := 2) hx dX8_fitsNotes_58 (by decide) ?_
            exact ih_2 _ (by omega) (by rw [fitI_s _ _ _ (by omega)]; exact if_pos ⟨e3, by omega⟩)  (by omega)
          ·
            refine z_iconst hx dX8_fitsNotes_53 ?_
            refine z_iret hx hr dX8_fitsNotes_54 rfl rfl (q_i (by unfold b2i; first | (rw [if_pos (by rw [← show v3 = f 39 by omega]; exact e3)]) | (rw [if_neg (by rw [fit_z (m := v3 + 1) (by omega) (by rw [fitI_s _ _ _ (by omega)]; exact if_neg (by rintro ⟨q1, q2⟩; omega))]; decide)])))
  exact hL_1 ((f 39 - 0) + 1 : Int).toNat _ (by omega) (by rfl)  (by omega)

set_option maxHeartbeats 4000000 in
set_option maxRecDepth 20000 in
theorem kX8_fittingKinds (g : Gt) {h : AH} {b : Nat} {la lb c0 c1 c2 : Int} {F : Nat → Int → Int} {pi : Int → Int} {Fs : Int → Nat → Int → Int} {m n kq : Int} {N : Nat → Int → Int} {f : Int → Int} {k : Int}(x0 : XO h b la lb c0 c1 c2) (hK : KM h (b + 1) F pi Fs m n kq N) (hR : RLC F f) (hI : inv f) (hn9 : n = f 39) (hNn : NRl N f) (h39 : 0 ≤ f 39 ∧ f 39 ≤ 6) (hno : ∀ i, 0 ≤ i → i < f 39 → f (40 + 3 * i) < 5 ∧ f (40 + 3 * i + 1) ≤ 40 ∧ f (40 + 3 * i + 2) ≤ 9) (hk : 0 ≤ k ∧ k < f 26) : CnI g mX8_fittingKinds 5 [.ref b, .int (iI k)] h (kof f k) := by
  refine Cn.mk (by decide +kernel) (Nat.le_of_ble_eq_true rfl) ?_
  intro x sz hx hr
  show Zj g x (sz, 0, 0) h 0 [(0, .ref b), (1, .int (iI k))] []
  obtain ⟨k0, k1, k2, k3, k4, k5⟩ := hK
  have hn := hI.n
  have rn := hR.n
  subst hn9
  refine z_iconst hx dX8_fittingKinds_0 ?_
  refine z_istore_n hx dX8_fittingKinds_1 rfl (by decide) [1, 2, 0] (lv' := [(0, .ref b), (1, .int (iI k)), (2, .int (iI 0))]) rfl ?_
  refine z_iconst hx dX8_fittingKinds_2 ?_
  refine z_istore_n hx dX8_fittingKinds_3 rfl (by decide) [1, 2, 3, 0] (lv' := [(0, .ref b), (1, .int (iI k)), (2, .int (iI 0)), (3, .int (iI 0))]) rfl ?_
  have hL_1 : ∀ (mm : Nat) (va : Int) (vp : Int), (0 ≤ vp ∧ vp ≤ 6) → (va = msk (fun kd => fitI f k kd (f 39) = 1) vp) → (6 : Int) - vp < (mm : Int) → Zj g x (sz, 0, 0) h 4 [(0, .ref b), (1, .int (iI k)), (2, .int (iI va)), (3, .int (iI vp))] [] := by
    intro mm
    induction mm with
    | zero => intro va vp kv ea hm; exfalso; omega
    | succ mm ih =>
      intro va vp kv ea hm
      have ih_2 := ih; clear ih
      have hm := msk_rg (fun kd => fitI f k kd (f 39) = 1) (n := vp) (by omega)
      have hm2 := msk_64 (fun kd => fitI f k kd (f 39) = 1) (n := vp) (by omega)
      rw [← ea] at hm hm2
      refine z_iload_n hx dX8_fittingKinds_4 rfl 3 rfl ?_
      refine z_bipush hx dX8_fittingKinds_5 (by decide) ?_
      refine z_icmp_ge (tgt := 31) hx dX8_fittingKinds_7 (by decide) (by omega) (by decide) (fun c_3 => ?_) (fun c_3 => ?_)
      ·
        refine z_iload_n hx dX8_fittingKinds_31 rfl 2 rfl ?_
        refine z_iret hx hr dX8_fittingKinds_32 rfl rfl (q_i (by rw [ea, show vp = 6 by omega]; rfl))
      ·
        refine z_aload_n hx dX8_fittingKinds_10 rfl 0 rfl ?_
        refine z_iload_n hx dX8_fittingKinds_11 rfl 3 rfl ?_
        refine z_iload_n hx dX8_fittingKinds_12 rfl 1 rfl ?_
        refine z_cVI (as := [.int (iI vp), .int (iI k)]) (rest := []) hx dX8_fittingKinds_13 lk_X8_289 wm_X8_fitsNotes wv_X8_fitsNotes (rcv_obj hx x0 rfl) mo_X8_fitsNotes (kX8_fitsNotes g (kd := vp) (k := k) (F := F) (N := N) (f := f) x0 ⟨k0, k1, k2, k3, k4, k5⟩ hR hI rfl hNn h39 hno (show 0 ≤ vp ∧ vp ≤ 5 by omega) (show 0 ≤ k ∧ k < f 26 by omega)) (by decide) rfl rfl (Nat.le_of_ble_eq_true rfl) ?_
        refine z_ifeq_b (tgt := 25) hx dX8_fittingKinds_16 (by decide)  (fun c_4 => ?_) (fun c_4 => ?_)
        ·
          refine z_iinc hx dX8_fittingKinds_25 (by decide) 3 rfl [1, 2, 3, 0] (lv' := [(0, .ref b), (1, .int (iI k)), (2, .int (iI va)), (3, .int (iI (vp + 1)))]) rfl ?_
          refine z_goto (tgt := 4) hx dX8_fittingKinds_28 (by decide) ?_
          exact ih_2 _ _ (by omega) (by rw [msk_s _ (by omega), ← ea]; first | (rw [if_pos (by assumption)]) | (rw [if_neg (by assumption)]; done) | (rw [if_neg (by assumption)]; omega))  (by omega)
        ·
          refine z_iload_n hx dX8_fittingKinds_19 rfl 2 rfl ?_
          refine z_iconst hx dX8_fittingKinds_20 ?_
          have hpw := pw_rg (p := vp) (by omega)
          refine z_iload_n hx dX8_fittingKinds_21 rfl 3 rfl ?_
          refine z_ishl hx dX8_fittingKinds_22 ?_
          rw [show shlI 1 vp = (pw vp) from by exact shlI_' (by omega)]
          refine z_ior hx dX8_fittingKinds_23 ?_
          rw [show orI va (pw vp) = (va + (pw vp)) from by exact orI_pw (by omega) (by omega)]
          refine z_istore_n hx dX8_fittingKinds_24 rfl (by decide) [1, 2, 0, 3] (lv' := [(0, .ref b), (1, .int (iI k)), (2, .int (iI (va + (pw vp)))), (3, .int (iI vp))]) rfl ?_
          refine z_iinc hx dX8_fittingKinds_25 (by decide) 3 rfl [1, 2, 3, 0] (lv' := [(0, .ref b), (1, .int (iI k)), (2, .int (iI (va + (pw vp)))), (3, .int (iI (vp + 1)))]) rfl ?_
          refine z_goto (tgt := 4) hx dX8_fittingKinds_28 (by decide) ?_
          exact ih_2 _ _ (by omega) (by rw [msk_s _ (by omega), ← ea]; first | (rw [if_pos (by assumption)]) | (rw [if_neg (by assumption)]; done) | (rw [if_neg (by assumption)]; omega))  (by omega)
  exact hL_1 (((6 : Int) - 0) + 1 : Int).toNat _ _ (by omega) (by rfl)  (by omega)

set_option maxHeartbeats 4000000 in
set_option maxRecDepth 20000 in
theorem kX8_is (g : Gt) {h : AH} {b : Nat} {S : Nat → Int → Int} {k : Int} (hX : XR h b S) (hV : invM S) (g_k : rgI k) : CnJ g mX8_is 6 [.ref b, .int (iI k)] h (isA S k).1 (QX h b (isA S k).2) := by
  refine Cn.mk (by decide +kernel) (Nat.le_of_ble_eq_true rfl) ?_
  intro x sz hx hr
  show Zj g x (sz, 0, 0) h 0 [(0, .ref b), (1, .int (iI k))] []
  obtain ⟨F, pi, Fs, kq, N, T, x0, hK, hi0, hi1, htx, htr, hrb, heb, hhb, ⟨hR, hPR, hNn⟩, htt⟩ := hX
  obtain ⟨k0, k1, k2, k3, k4, k5⟩ := hK
  have hN := hV.1
  have hI := hN.1
  have hn := hI.n
  have rn := hR.n
  have h58 : 0 ≤ S 1 58 ∧ S 1 58 ≤ 8 := ⟨(hI.rg 58 (by decide)).1, hN.2.2.2.1⟩
  have h39 : 0 ≤ S 1 39 ∧ S 1 39 ≤ 6 := ⟨(hI.rg 39 (by decide)).1, hN.2.2.1⟩
  have h0 : 0 ≤ S 1 0 ∧ S 1 0 ≤ 999 := ⟨hN.2.1.2, hN.2.1.1⟩
  have hmx : ∀ i, 0 ≤ i → i < S 1 58 → inv (mixF (S 1) i) := fun i a b => (hN.2.2.2.2.1 i a b).1
  have hno : ∀ i, 0 ≤ i → i < S 1 39 → S 1 (40 + 3 * i) < 5 ∧ S 1 (40 + 3 * i + 1) ≤ 40 ∧ S 1 (40 + 3 * i + 2) ≤ 9 := fun i a b => by have q := hN.2.2.2.2.2 i a b; rw [show 41 + 3 * i = 40 + 3 * i + 1 by omega, show 42 + 3 * i = 40 + 3 * i + 2 by omega] at q; exact q
  have hTo : outR (S 2) := hV.2.1
  have hL := hV.2.2.2.1
  have htt2 := hV.2.2.2.2.1
  refine z_aload_n hx dX8_is_0 rfl 0 rfl ?_
  refine z_iload_n hx dX8_is_1 rfl 1 rfl ?_
  refine z_cVI (as := [.int (iI k)]) (rest := []) hx dX8_is_2 lk_X8_154 wm_X8_isCosy wv_X8_isCosy (rcv_obj hx x0 rfl) mo_X8_isCosy (kX8_isCosy g (k := k) (F := F) (N := N) (f := (S 1)) x0 ⟨k0, k1, k2, k3, k4, k5⟩ hR hI (show rgI k by omega)) (by decide) rfl rfl (Nat.le_of_ble_eq_true rfl) ?_
  refine z_ifeq_b (tgt := 16) hx dX8_is_5 (by decide)  (fun c_1 => ?_) (fun c_1 => ?_)
  ·
    refine z_aload_n hx dX8_is_16 rfl 0 rfl ?_
    refine z_bipush hx dX8_is_17 (by decide) ?_
    refine z_cVJ (as := [.int (iI (-2))]) (rest := []) hx dX8_is_19 lk_X8_88 wm_X8_bad wv_X8_bad (rcv_obj hx x0 rfl) mo_X8_bad (kX8_bad g (v := (-2)) x0) (by decide) rfl rfl (Nat.le_of_ble_eq_true rfl) (fun h_2 q_3 => ?_)
    obtain ⟨hs_4, hf_5⟩ := q_3
    have h_6 := hf_5.at (by omega) k0
    have h_7 := CM.fr k1 hf_5 (by omega)
    have h_8 := PM.fr k2 hf_5 (by omega)
    have h_9 := hf_5.at (by omega) k3
    have h_10 := hf_5.at (by omega) k4
    have h_11 := hf_5.at (by omega) k5
    have h_12 := IB.fr hi0 hf_5 (by omega)
    have h_13 := IB.fr hi1 hf_5 (by omega)
    have h_14 := TB.fr htx hf_5 (by omega)
    have h_15 := CB.fr htr hf_5 (by omega)
    have h_16 := RB.fr hrb hf_5 (by omega)
    have h_17 := EB.fr heb hf_5 (by omega)
    have h_18 := HB.fr hhb hf_5 (by omega)
    have fr_19 : Fr h h_2 b 367 := hf_5.wd (by omega) (by omega)
    refine z_iret hx hr dX8_is_22 rfl rfl (q_j (by unfold isA; (repeat (first | rw [if_pos (by omega)] | rw [if_neg (by omega)])); (try first | rfl | omega)) (by unfold isA; (repeat (first | rw [if_pos (by omega)] | rw [if_neg (by omega)])); show XC h_2 b (S 0) (S 1) (S 4) (S 5) (fup (S 6) 0 ((S 6) 0 + 1)) (S 7) ∧ Fr h h_2 b 367; exact ⟨⟨F, pi, Fs, kq, N, T, hs_4, KM.eq ⟨h_6, h_7, h_8, h_9, h_10, h_11⟩ (rfl) (rfl), h_12, h_13, h_14, h_15, h_16, h_17, h_18, ⟨hR, hPR, hNn⟩, htt⟩, fr_19⟩))
  ·
    refine z_aload_n hx dX8_is_8 rfl 0 rfl ?_
    refine z_iload_n hx dX8_is_9 rfl 1 rfl ?_
    refine z_cVI (as := [.int (iI k)]) (rest := []) hx dX8_is_10 lk_X8_228 wm_X8_fittingKinds wv_X8_fittingKinds (rcv_obj hx x0 rfl) mo_X8_fittingKinds (kX8_fittingKinds g (k := k) (F := F) (N := N) (f := (S 1)) x0 ⟨k0, k1, k2, k3, k4, k5⟩ hR hI rfl hNn h39 hno (show 0 ≤ k ∧ k < (S 1) 26 by omega)) (by decide) rfl rfl (Nat.le_of_ble_eq_true rfl) ?_
    have f_20 := kof_rg (S 1) k
    refine z_goto (tgt := 22) hx dX8_is_13 (by decide) ?_
    refine z_iret hx hr dX8_is_22 rfl rfl (q_j (by unfold isA; (repeat (first | rw [if_pos (by omega)] | rw [if_neg (by omega)])); (try first | rfl | omega)) (by unfold isA; (repeat (first | rw [if_pos (by omega)] | rw [if_neg (by omega)])); show XC h b (S 0) (S 1) (S 4) (S 5) (S 6) (S 7) ∧ Fr h h b 367; exact ⟨⟨F, pi, Fs, kq, N, T, x0, KM.eq ⟨k0, k1, k2, k3, k4, k5⟩ (rfl) (rfl), hi0, hi1, htx, htr, hrb, heb, hhb, ⟨hR, hPR, hNn⟩, htt⟩, Fr.rf⟩))

set_option maxHeartbeats 4000000 in
set_option maxRecDepth 20000 in
theorem kX8_getsBy (g : Gt) {h : AH} {b : Nat} {la lb c0 c1 c2 : Int} {F : Nat → Int → Int} {pi : Int → Int} {Fs : Int → Nat → Int → Int} {m n kq : Int} {N : Nat → Int → Int} {f : Int → Int} {p : Int} {i : Int} {o : Int} {j : Int}(x0 : XO h b la lb c0 c1 c2) (hK : KM h (b + 1) F pi Fs m n kq N) (hR : RLC F f) (hI : inv f) (hp : 0 ≤ p ∧ p < f 37) (hi : 0 ≤ i ∧ i < f 26) (ho : rgI o) (hj : rgI j) : CnI g mX8_getsBy 4 [.ref b, .int (iI p), .int (iI i), .int (iI o), .int (iI j)] h (gts f p i o j) := by
  refine Cn.mk (by decide +kernel) (Nat.le_of_ble_eq_true rfl) ?_
  intro x sz hx hr
  show Zj g x (sz, 0, 0) h 0 [(0, .ref b), (1, .int (iI p)), (2, .int (iI i)), (3, .int (iI o)), (4, .int (iI j))] []
  obtain ⟨k0, k1, k2, k3, k4, k5⟩ := hK
  have hn := hI.n
  have rn := hR.n
  refine z_bipush hx dX8_getsBy_0 (by decide) ?_
  refine z_aload_n hx dX8_getsBy_2 rfl 0 rfl ?_
  refine z_get hx dX8_getsBy_3 fl_X8_10 x0 rfl ?_
  refine z_get hx dX8_getsBy_6 fl_X8_71 k0 rfl ?_
  refine z_get hx dX8_getsBy_9 fl_X8_306 k1.1 rfl ?_
  refine z_iload_n hx dX8_getsBy_12 rfl 1 rfl ?_
  refine z_iald hx dX8_getsBy_13 k1.2.2.2.2.2.1 (by omega) (by decide) ?_
  have rp_1 := hR.p p (by first | omega | decide)
  have ip_2 := hI.p p (by first | omega | decide)
  have cc_3 := cv_c (f (17 + p))
  refine z_aload_n hx dX8_getsBy_14 rfl 0 rfl ?_
  refine z_get hx dX8_getsBy_15 fl_X8_10 x0 rfl ?_
  refine z_get hx dX8_getsBy_18 fl_X8_71 k0 rfl ?_
  refine z_get hx dX8_getsBy_21 fl_X8_170 k1.1 rfl ?_
  refine z_iload_n hx dX8_getsBy_24 rfl 2 rfl ?_
  refine z_iald hx dX8_getsBy_25 k1.2.2.1 (by omega) (by decide) ?_
  have rk_4 := hR.k i (by first | omega | decide)
  have ik_5 := hI.k i (by first | omega | decide)
  have ff := far_rg (a := F 5 p) (b := F 2 i) (by omega) (by omega)
  have e1 : far (F 5 p) (F 2 i) = far (f (11 + p)) (f (1 + i)) := by rw [show F 5 p = f (11 + p) by omega, show F 2 i = f (1 + i) by omega]
  refine z_cSI (as := [.int (iI (F 5 p)), .int (iI (F 2 i))]) (rest := [.int (iI 9)]) hx dX8_getsBy_26 lk_X8_309 wt_X0_far mo_X0_far (kX0_far g (a := (F 5 p)) (b := (F 2 i)) (by omega) (by omega)) (by decide) rfl rfl (Nat.le_of_ble_eq_true rfl) ?_
  refine z_isub hx dX8_getsBy_29 ?_
  refine z_istore hx dX8_getsBy_30 (by decide) [1, 2, 3, 4, 5, 0] (lv' := [(0, .ref b), (1, .int (iI p)), (2, .int (iI i)), (3, .int (iI o)), (4, .int (iI j)), (5, .int (iI (9 - (far (F 5 p) (F 2 i)))))]) rfl ?_
  refine z_aload_n hx dX8_getsBy_32 rfl 0 rfl ?_
  refine z_get hx dX8_getsBy_33 fl_X8_10 x0 rfl ?_
  refine z_get hx dX8_getsBy_36 fl_X8_71 k0 rfl ?_
  refine z_iload_n hx dX8_getsBy_39 rfl 2 rfl ?_
  refine z_cVI (as := [.int (iI i)]) (rest := []) hx dX8_getsBy_40 lk_X8_188 wm_X1_holds wv_X1_holds (rcv_obj hx (And.left k1) rfl) mo_X1_holds (kX1_holds g (F := F) (f := f) (k := i) k1 hR hI (show 0 ≤ i ∧ i < f 26 by omega)) (by decide) rfl rfl (Nat.le_of_ble_eq_true rfl) ?_
  have f_6 := hlf_rg hI (k := i) (by omega)
  refine z_aload_n hx dX8_getsBy_43 rfl 0 rfl ?_
  refine z_get hx dX8_getsBy_44 fl_X8_10 x0 rfl ?_
  refine z_get hx dX8_getsBy_47 fl_X8_71 k0 rfl ?_
  refine z_iload_n hx dX8_getsBy_50 rfl 2 rfl ?_
  refine z_cVI (as := [.int (iI i)]) (rest := [.int (iI (hlf f i))]) hx dX8_getsBy_51 lk_X8_314 wm_X1_manyUnder wv_X1_manyUnder (rcv_obj hx (And.left k1) rfl) mo_X1_manyUnder (kX1_manyUnder g (F := F) (f := f) (k := i) k1 hR hI (show rgI i by omega)) (by decide) rfl rfl (Nat.le_of_ble_eq_true rfl) ?_
  have f_7 := popc_rg (v := who f i)
  have f_8 := who_rg hI i
  refine z_isub hx dX8_getsBy_54 ?_
  have e2 : popc (who f i) = popc (und f i) := by rw [who_und hI (by omega)]
  refine z_istore hx dX8_getsBy_55 (by decide) [1, 2, 3, 4, 5, 6, 0] (lv' := [(0, .ref b), (1, .int (iI p)), (2, .int (iI i)), (3, .int (iI o)), (4, .int (iI j)), (5, .int (iI (9 - (far (F 5 p) (F 2 i))))), (6, .int (iI ((hlf f i) - (popc (who f i)))))]) rfl ?_
  refine z_iload hx dX8_getsBy_57 6 rfl ?_
  refine z_iconst hx dX8_getsBy_59 ?_
  refine z_icmp_ne (tgt := 78) hx dX8_getsBy_60 (by decide) (by omega) (by decide) (fun c_9 => ?_) (fun c_9 => ?_)
  ·
    refine z_iconst hx dX8_getsBy_78 ?_
    refine z_istore hx dX8_getsBy_79 (by decide) [1, 2, 3, 4, 5, 6, 7, 0] (lv' := [(0, .ref b), (1, .int (iI p)), (2, .int (iI i)), (3, .int (iI o)), (4, .int (iI j)), (5, .int (iI (9 - (far (F 5 p) (F 2 i))))), (6, .int (iI ((hlf f i) - (popc (who f i))))), (7, .int (iI 0))]) rfl ?_
    refine z_iload hx dX8_getsBy_81 6 rfl ?_
    refine z_if_le (tgt := 91) hx dX8_getsBy_83 (by decide) (by omega) (fun c_10 => ?_) (fun c_10 => ?_)
    ·
      refine z_iload hx dX8_getsBy_91 5 rfl ?_
      refine z_ineg hx dX8_getsBy_93 ?_
      refine z_goto (tgt := 99) hx dX8_getsBy_94 (by decide) ?_
      refine z_iret hx hr dX8_getsBy_99 rfl rfl (q_i (by unfold gts; rw [← e1, ← e2]; (repeat' split) <;> omega))
    ·
      refine z_iload hx dX8_getsBy_86 7 rfl ?_
      refine z_if_eq (tgt := 97) hx dX8_getsBy_88 (by decide) (by decide) (fun _ => ?_) (fun q => absurd q (by decide))
      refine z_iload hx dX8_getsBy_97 5 rfl ?_
      refine z_iret hx hr dX8_getsBy_99 rfl rfl (q_i (by unfold gts; rw [← e1, ← e2]; (repeat' split) <;> omega))
  ·
    refine z_iload_n hx dX8_getsBy_63 rfl 2 rfl ?_
    refine z_iload hx dX8_getsBy_64 4 rfl ?_
    refine z_icmp_ne (tgt := 78) hx dX8_getsBy_66 (by decide) (by omega) (by omega) (fun c_12 => ?_) (fun c_12 => ?_)
    ·
      refine z_iconst hx dX8_getsBy_78 ?_
      refine z_istore hx dX8_getsBy_79 (by decide) [1, 2, 3, 4, 5, 6, 7, 0] (lv' := [(0, .ref b), (1, .int (iI p)), (2, .int (iI i)), (3, .int (iI o)), (4, .int (iI j)), (5, .int (iI (9 - (far (F 5 p) (F 2 i))))), (6, .int (iI ((hlf f i) - (popc (who f i))))), (7, .int (iI 0))]) rfl ?_
      refine z_iload hx dX8_getsBy_81 6 rfl ?_
      refine z_if_le (tgt := 91) hx dX8_getsBy_83 (by decide) (by omega) (fun c_13 => ?_) (fun c_13 => ?_)
      ·
        refine z_iload hx dX8_getsBy_91 5 rfl ?_
        refine z_ineg hx dX8_getsBy_93 ?_
        refine z_goto (tgt := 99) hx dX8_getsBy_94 (by decide) ?_
        refine z_iret hx hr dX8_getsBy_99 rfl rfl (q_i (by unfold gts; rw [← e1, ← e2]; (repeat' split) <;> omega))
      ·
        refine z_iload hx dX8_getsBy_86 7 rfl ?_
        refine z_if_eq (tgt := 97) hx dX8_getsBy_88 (by decide) (by decide) (fun _ => ?_) (fun q => absurd q (by decide))
        refine z_iload hx dX8_getsBy_97 5 rfl ?_
        refine z_iret hx hr dX8_getsBy_99 rfl rfl (q_i (by unfold gts; rw [← e1, ← e2]; (repeat' split) <;> omega))
    ·
      refine z_iload_n hx dX8_getsBy_69 rfl 1 rfl ?_
      refine z_iload_n hx dX8_getsBy_70 rfl 3 rfl ?_
      refine z_icmp_le (tgt := 78) hx dX8_getsBy_71 (by decide) (by omega) (by omega) (fun c_15 => ?_) (fun c_15 => ?_)
      ·
        refine z_iconst hx dX8_getsBy_78 ?_
        refine z_istore hx dX8_getsBy_79 (by decide) [1, 2, 3, 4, 5, 6, 7, 0] (lv' := [(0, .ref b), (1, .int (iI p)), (2, .int (iI i)), (3, .int (iI o)), (4, .int (iI j)), (5, .int (iI (9 - (far (F 5 p) (F 2 i))))), (6, .int (iI ((hlf f i) - (popc (who f i))))), (7, .int (iI 0))]) rfl ?_
        refine z_iload hx dX8_getsBy_81 6 rfl ?_
        refine z_if_le (tgt := 91) hx dX8_getsBy_83 (by decide) (by omega) (fun c_16 => ?_) (fun c_16 => ?_)
        ·
          refine z_iload hx dX8_getsBy_91 5 rfl ?_
          refine z_ineg hx dX8_getsBy_93 ?_
          refine z_goto (tgt := 99) hx dX8_getsBy_94 (by decide) ?_
          refine z_iret hx hr dX8_getsBy_99 rfl rfl (q_i (by unfold gts; rw [← e1, ← e2]; (repeat' split) <;> omega))
        ·
          refine z_iload hx dX8_getsBy_86 7 rfl ?_
          refine z_if_eq (tgt := 97) hx dX8_getsBy_88 (by decide) (by decide) (fun _ => ?_) (fun q => absurd q (by decide))
          refine z_iload hx dX8_getsBy_97 5 rfl ?_
          refine z_iret hx hr dX8_getsBy_99 rfl rfl (q_i (by unfold gts; rw [← e1, ← e2]; (repeat' split) <;> omega))
      ·
        refine z_iconst hx dX8_getsBy_74 ?_
        refine z_goto (tgt := 79) hx dX8_getsBy_75 (by decide) ?_
        refine z_istore hx dX8_getsBy_79 (by decide) [1, 2, 3, 4, 5, 6, 7, 0] (lv' := [(0, .ref b), (1, .int (iI p)), (2, .int (iI i)), (3, .int (iI o)), (4, .int (iI j)), (5, .int (iI (9 - (far (F 5 p) (F 2 i))))), (6, .int (iI ((hlf f i) - (popc (who f i))))), (7, .int (iI 1))]) rfl ?_
        refine z_iload hx dX8_getsBy_81 6 rfl ?_
        refine z_if_le (tgt := 91) hx dX8_getsBy_83 (by decide) (by omega) (fun c_18 => ?_) (fun c_18 => ?_)
        ·
          refine z_iload hx dX8_getsBy_91 5 rfl ?_
          refine z_ineg hx dX8_getsBy_93 ?_
          refine z_goto (tgt := 99) hx dX8_getsBy_94 (by decide) ?_
          refine z_iret hx hr dX8_getsBy_99 rfl rfl (q_i (by unfold gts; rw [← e1, ← e2]; (repeat' split) <;> omega))
        ·
          refine z_iload hx dX8_getsBy_86 7 rfl ?_
          refine z_if_eq (tgt := 97) hx dX8_getsBy_88 (by decide) (by decide) (fun q => absurd q (by decide)) (fun _ => ?_)
          refine z_iload hx dX8_getsBy_91 5 rfl ?_
          refine z_ineg hx dX8_getsBy_93 ?_
          refine z_goto (tgt := 99) hx dX8_getsBy_94 (by decide) ?_
          refine z_iret hx hr dX8_getsBy_99 rfl rfl (q_i (by unfold gts; rw [← e1, ← e2]; (repeat' split) <;> omega))

set_option maxHeartbeats 4000000 in
set_option maxRecDepth 20000 in
theorem kX8_rests (g : Gt) {h : AH} {b : Nat} {la lb c0 c1 c2 : Int} {F : Nat → Int → Int} {pi : Int → Int} {Fs : Int → Nat → Int → Int} {m n kq : Int} {N : Nat → Int → Int} {f : Int → Int} {p : Int} {i : Int} {o : Int} {j : Int}(x0 : XO h b la lb c0 c1 c2) (hK : KM h (b + 1) F pi Fs m n kq N) (hR : RLC F f) (hI : inv f) (hp : 0 ≤ p ∧ p < f 37) (hi : 0 ≤ i ∧ i < f 26) (ho : rgI o) (hj : rgI j) : CnI g mX8_rests 5 [.ref b, .int (iI p), .int (iI i), .int (iI o), .int (iI j)] h (b2i (rsg f p i o j = 1)) := by
  refine Cn.mk (by decide +kernel) (Nat.le_of_ble_eq_true rfl) ?_
  intro x sz hx hr
  show Zj g x (sz, 0, 0) h 0 [(0, .ref b), (1, .int (iI p)), (2, .int (iI i)), (3, .int (iI o)), (4, .int (iI j))] []
  obtain ⟨k0, k1, k2, k3, k4, k5⟩ := hK
  have hn := hI.n
  have rn := hR.n
  refine z_aload_n hx dX8_rests_0 rfl 0 rfl ?_
  refine z_iload_n hx dX8_rests_1 rfl 1 rfl ?_
  refine z_iload_n hx dX8_rests_2 rfl 2 rfl ?_
  refine z_iload_n hx dX8_rests_3 rfl 3 rfl ?_
  refine z_iload hx dX8_rests_4 4 rfl ?_
  refine z_cVI (as := [.int (iI p), .int (iI i), .int (iI o), .int (iI j)]) (rest := []) hx dX8_rests_6 lk_X8_302 wm_X8_getsBy wv_X8_getsBy (rcv_obj hx x0 rfl) mo_X8_getsBy (kX8_getsBy g (p := p) (i := i) (o := o) (j := j) (F := F) (N := N) (f := f) x0 ⟨k0, k1, k2, k3, k4, k5⟩ hR hI (show 0 ≤ p ∧ p < f 37 by omega) (show 0 ≤ i ∧ i < f 26 by omega) (show rgI o by omega) (show rgI j by omega)) (by decide) rfl rfl (Nat.le_of_ble_eq_true rfl) ?_
  have f_1 := gts_rg hI (p := p) (i := i) (o := o) (j := j) (by have := (hI).n; omega) (by have := (hI).n; omega)
  refine z_istore hx dX8_rests_9 (by decide) [1, 2, 3, 4, 5, 0] (lv' := [(0, .ref b), (1, .int (iI p)), (2, .int (iI i)), (3, .int (iI o)), (4, .int (iI j)), (5, .int (iI (gts f p i o j)))]) rfl ?_
  refine z_iconst hx dX8_rests_11 ?_
  refine z_istore hx dX8_rests_12 (by decide) [1, 2, 3, 4, 5, 6, 0] (lv' := [(0, .ref b), (1, .int (iI p)), (2, .int (iI i)), (3, .int (iI o)), (4, .int (iI j)), (5, .int (iI (gts f p i o j))), (6, .int (iI 0))]) rfl ?_
  have hL_2 : ∀ (mm : Nat) (v6 : Int), (0 ≤ v6 ∧ v6 ≤ f 26) → (itI v6 (rsgG f p i o j) 1 = 1) → f 26 - v6 < (mm : Int) → Zj g x (sz, 0, 0) h 14 [(0, .ref b), (1, .int (iI p)), (2, .int (iI i)), (3, .int (iI o)), (4, .int (iI j)), (5, .int (iI (gts f p i o j))), (6, .int (iI v6))] [] := by
    intro mm
    induction mm with
    | zero => intro v6 kv e6 hm; exfalso; omega
    | succ mm ih =>
      intro v6 kv e6 hm
      have ih_3 := ih; clear ih
      refine z_iload hx dX8_rests_14 6 rfl ?_
      refine z_aload_n hx dX8_rests_16 rfl 0 rfl ?_
      refine z_get hx dX8_rests_17 fl_X8_10 x0 rfl ?_
      refine z_get hx dX8_rests_20 fl_X8_71 k0 rfl ?_
      refine z_get hx dX8_rests_23 fl_X8_74 k1.1 rfl ?_
      refine z_icmp_ge (tgt := 52) hx dX8_rests_26 (by decide) (by omega) (by omega) (fun c_4 => ?_) (fun c_4 => ?_)
      ·
        refine z_iconst hx dX8_rests_52 ?_
        refine z_iret hx hr dX8_rests_53 rfl rfl (q_i (by unfold b2i; first | (rw [if_pos (by unfold rsg; rw [← show v6 = f 26 by omega]; exact e6)]) | (rw [if_neg (by rw [rsg_z (m := v6 + 1) (by omega) (by rw [itI_s _ _ (by omega)]; exact if_neg (by rintro ⟨q1, q2⟩; omega))]; decide)])))
      ·
        refine z_aload_n hx dX8_rests_29 rfl 0 rfl ?_
        refine z_iload_n hx dX8_rests_30 rfl 1 rfl ?_
        refine z_iload hx dX8_rests_31 6 rfl ?_
        refine z_iload_n hx dX8_rests_33 rfl 3 rfl ?_
        refine z_iload hx dX8_rests_34 4 rfl ?_
        refine z_cVI (as := [.int (iI p), .int (iI v6), .int (iI o), .int (iI j)]) (rest := []) hx dX8_rests_36 lk_X8_302 wm_X8_getsBy wv_X8_getsBy (rcv_obj hx x0 rfl) mo_X8_getsBy (kX8_getsBy g (p := p) (i := v6) (o := o) (j := j) (F := F) (N := N) (f := f) x0 ⟨k0, k1, k2, k3, k4, k5⟩ hR hI (show 0 ≤ p ∧ p < f 37 by omega) (show 0 ≤ v6 ∧ v6 < f 26 by omega) (show rgI o by omega) (show rgI j by omega)) (by decide) rfl rfl (Nat.le_of_ble_eq_true rfl) ?_
        have f_5 := gts_rg hI (p := p) (i := v6) (o := o) (j := j) (by have := (hI).n; omega) (by have := (hI).n; omega)
        refine z_iload hx dX8_rests_39 5 rfl ?_
        refine z_icmp_le (tgt := 46) hx dX8_rests_41 (by decide) (by omega) (by omega) (fun c_6 => ?_) (fun c_6 => ?_)
        ·
          refine z_iinc hx dX8_rests_46 (by decide) 6 rfl [1, 2, 3, 4, 5, 6, 0] (lv' := [(0, .ref b), (1, .int (iI p)), (2, .int (iI i)), (3, .int (iI o)), (4, .int (iI j)), (5, .int (iI (gts f p i o j))), (6, .int (iI (v6 + 1)))]) rfl ?_
          refine z_goto (tgt := 14) hx dX8_rests_49 (by decide) ?_
          exact ih_3 _ (by omega) (by rw [itI_s _ _ (by omega)]; exact if_pos ⟨e6, by omega⟩)  (by omega)
        ·
          refine z_iconst hx dX8_rests_44 ?_
          refine z_iret hx hr dX8_rests_45 rfl rfl (q_i (by unfold b2i; first | (rw [if_pos (by unfold rsg; rw [← show v6 = f 26 by omega]; exact e6)]) | (rw [if_neg (by rw [rsg_z (m := v6 + 1) (by omega) (by rw [itI_s _ _ (by omega)]; exact if_neg (by rintro ⟨q1, q2⟩; omega))]; decide)])))
  exact hL_2 ((f 26 - 0) + 1 : Int).toNat _ (by omega) (by rfl)  (by omega)

theorem cntV_rg {S : Nat → Int → Int} (hV : invM S) (w : Int) : 0 ≤ cntV S w ∧ cntV S w ≤ 999 := by
  have hN := hV.1
  have hI := hN.1
  have hn := hI.n
  have h58 := hN.r58
  have h39 := hN.r39
  have h0 := hN.r0
  have hL := hV.2.2.2.1
  have hu := una_rg hI
  have hp := popc_rg (v := tkn (S 1))
  unfold cntV
  (repeat' split) <;> omega

set_option maxHeartbeats 4000000 in
set_option maxRecDepth 20000 in
theorem kX8_countOf (g : Gt) {h : AH} {b : Nat} {S : Nat → Int → Int} {w : Int} (hX : XR h b S) (hV : invM S) (hw : 0 ≤ w ∧ w ≤ 8) : CnI g mX8_countOf 4 [.ref b, .int (iI w)] h (cntV S w) := by
  refine Cn.mk (by decide +kernel) (Nat.le_of_ble_eq_true rfl) ?_
  intro x sz hx hr
  show Zj g x (sz, 0, 0) h 0 [(0, .ref b), (1, .int (iI w))] []
  obtain ⟨F, pi, Fs, kq, N, T, x0, hK, hi0, hi1, htx, htr, hrb, heb, hhb, ⟨hR, hPR, hNn⟩, htt⟩ := hX
  obtain ⟨k0, k1, k2, k3, k4, k5⟩ := hK
  have hN := hV.1
  have hI := hN.1
  have hn := hI.n
  have rn := hR.n
  have h58 : 0 ≤ S 1 58 ∧ S 1 58 ≤ 8 := ⟨(hI.rg 58 (by decide)).1, hN.2.2.2.1⟩
  have h39 : 0 ≤ S 1 39 ∧ S 1 39 ≤ 6 := ⟨(hI.rg 39 (by decide)).1, hN.2.2.1⟩
  have h0 : 0 ≤ S 1 0 ∧ S 1 0 ≤ 999 := ⟨hN.2.1.2, hN.2.1.1⟩
  have hmx : ∀ i, 0 ≤ i → i < S 1 58 → inv (mixF (S 1) i) := fun i a b => (hN.2.2.2.2.1 i a b).1
  have hno : ∀ i, 0 ≤ i → i < S 1 39 → S 1 (40 + 3 * i) < 5 ∧ S 1 (40 + 3 * i + 1) ≤ 40 ∧ S 1 (40 + 3 * i + 2) ≤ 9 := fun i a b => by have q := hN.2.2.2.2.2 i a b; rw [show 41 + 3 * i = 40 + 3 * i + 1 by omega, show 42 + 3 * i = 40 + 3 * i + 2 by omega] at q; exact q
  have hTo : outR (S 2) := hV.2.1
  have hL := hV.2.2.2.1
  have htt2 := hV.2.2.2.2.1
  obtain ⟨a1, a2, a3, a4, t0, t1⟩ := htx
  refine z_iload_n hx dX8_countOf_0 rfl 1 rfl ?_
  by_cases c_1 : w = 0
  ·
    refine z_tblIn (off := 47) (tgt := 48) hx dX8_countOf_1 (by omega) 0 c_1 (by decide) rfl (by decide) ?_
    refine z_aload_n hx dX8_countOf_48 rfl 0 rfl ?_
    refine z_get hx dX8_countOf_49 fl_X8_10 x0 rfl ?_
    refine z_get hx dX8_countOf_52 fl_X8_71 k0 rfl ?_
    refine z_get hx dX8_countOf_55 fl_X8_74 k1.1 rfl ?_
    refine z_iret hx hr dX8_countOf_58 rfl rfl (q_i (by unfold cntV; (repeat' split) <;> omega))
  by_cases c_2 : w = 1
  ·
    refine z_tblIn (off := 58) (tgt := 59) hx dX8_countOf_1 (by omega) 1 c_2 (by decide) rfl (by decide) ?_
    refine z_aload_n hx dX8_countOf_59 rfl 0 rfl ?_
    refine z_get hx dX8_countOf_60 fl_X8_10 x0 rfl ?_
    refine z_get hx dX8_countOf_63 fl_X8_71 k0 rfl ?_
    refine z_get hx dX8_countOf_66 fl_X8_109 k1.1 rfl ?_
    refine z_iret hx hr dX8_countOf_69 rfl rfl (q_i (by unfold cntV; (repeat' split) <;> omega))
  by_cases c_3 : w = 2
  ·
    refine z_tblIn (off := 69) (tgt := 70) hx dX8_countOf_1 (by omega) 2 c_3 (by decide) rfl (by decide) ?_
    refine z_aload_n hx dX8_countOf_70 rfl 0 rfl ?_
    refine z_get hx dX8_countOf_71 fl_X8_10 x0 rfl ?_
    refine z_get hx dX8_countOf_74 fl_X8_71 k0 rfl ?_
    refine z_get hx dX8_countOf_77 fl_X8_115 k1.1 rfl ?_
    refine z_iret hx hr dX8_countOf_80 rfl rfl (q_i (by unfold cntV; (repeat' split) <;> omega))
  by_cases c_4 : w = 3
  ·
    refine z_tblIn (off := 80) (tgt := 81) hx dX8_countOf_1 (by omega) 3 c_4 (by decide) rfl (by decide) ?_
    refine z_aload_n hx dX8_countOf_81 rfl 0 rfl ?_
    refine z_get hx dX8_countOf_82 fl_X8_10 x0 rfl ?_
    refine z_get hx dX8_countOf_85 fl_X8_71 k0 rfl ?_
    refine z_get hx dX8_countOf_88 fl_X8_145 k1.1 rfl ?_
    refine z_iret hx hr dX8_countOf_91 rfl rfl (q_i (by unfold cntV; (repeat' split) <;> omega))
  by_cases c_5 : w = 4
  ·
    refine z_tblIn (off := 91) (tgt := 92) hx dX8_countOf_1 (by omega) 4 c_5 (by decide) rfl (by decide) ?_
    refine z_aload_n hx dX8_countOf_92 rfl 0 rfl ?_
    refine z_get hx dX8_countOf_93 fl_X8_10 x0 rfl ?_
    refine z_get hx dX8_countOf_96 fl_X8_71 k0 rfl ?_
    refine z_cVI (as := []) (rest := []) hx dX8_countOf_99 lk_X8_151 wm_X1_manyTaken wv_X1_manyTaken (rcv_obj hx (And.left k1) rfl) mo_X1_manyTaken (kX1_manyTaken g (F := F) (f := (S 1))  k1 hR hI ) (by decide) rfl rfl (Nat.le_of_ble_eq_true rfl) ?_
    have f_6 := popc_rg (v := tkn (S 1))
    have f_7 := tkn_rg hI
    refine z_iret hx hr dX8_countOf_102 rfl rfl (q_i (by unfold cntV; (repeat' split) <;> omega))
  by_cases c_8 : w = 5
  ·
    refine z_tblIn (off := 102) (tgt := 103) hx dX8_countOf_1 (by omega) 5 c_8 (by decide) rfl (by decide) ?_
    refine z_aload_n hx dX8_countOf_103 rfl 0 rfl ?_
    refine z_get hx dX8_countOf_104 fl_X8_10 x0 rfl ?_
    refine z_get hx dX8_countOf_107 fl_X8_71 k0 rfl ?_
    refine z_cVI (as := []) (rest := []) hx dX8_countOf_110 lk_X8_206 wm_X1_manyUnder_ wv_X1_manyUnder_ (rcv_obj hx (And.left k1) rfl) mo_X1_manyUnder_ (kX1_manyUnder_ g (F := F) (f := (S 1))  k1 hR hI ) (by decide) rfl rfl (Nat.le_of_ble_eq_true rfl) ?_
    have f_9 := una_rg hI
    refine z_iret hx hr dX8_countOf_113 rfl rfl (q_i (by unfold cntV; (repeat' split) <;> omega))
  by_cases c_10 : w = 6
  ·
    refine z_tblIn (off := 113) (tgt := 114) hx dX8_countOf_1 (by omega) 6 c_10 (by decide) rfl (by decide) ?_
    refine z_aload_n hx dX8_countOf_114 rfl 0 rfl ?_
    refine z_get hx dX8_countOf_115 fl_X8_10 x0 rfl ?_
    refine z_get hx dX8_countOf_118 fl_X8_222 k0 rfl ?_
    refine z_iret hx hr dX8_countOf_121 rfl rfl (q_i (by unfold cntV; (repeat' split) <;> omega))
  by_cases c_11 : w = 7
  ·
    refine z_tblIn (off := 121) (tgt := 122) hx dX8_countOf_1 (by omega) 7 c_11 (by decide) rfl (by decide) ?_
    refine z_aload_n hx dX8_countOf_122 rfl 0 rfl ?_
    refine z_get hx dX8_countOf_123 fl_X8_10 x0 rfl ?_
    refine z_get hx dX8_countOf_126 fl_X8_96 k0 rfl ?_
    refine z_get hx dX8_countOf_129 fl_X8_100 k2.1 rfl ?_
    refine z_iret hx hr dX8_countOf_132 rfl rfl (q_i (by unfold cntV; (repeat' split) <;> omega))
  refine z_tblOut (tgt := 133) hx dX8_countOf_1 (by omega) (by omega) (by decide) ?_
  refine z_aload_n hx dX8_countOf_133 rfl 0 rfl ?_
  refine z_get hx dX8_countOf_134 fl_X8_25 x0 rfl ?_
  refine z_get hx dX8_countOf_137 fl_X8_121 t0 rfl ?_
  refine z_iret hx hr dX8_countOf_140 rfl rfl (q_i (by unfold cntV; (repeat' split) <;> omega))

set_option maxHeartbeats 4000000 in
set_option maxRecDepth 20000 in
theorem kX8_count (g : Gt) {h : AH} {b : Nat} {S : Nat → Int → Int} {w : Int} (hX : XR h b S) (hV : invM S) (g_w : rgI w) : CnJ g mX8_count 5 [.ref b, .int (iI w)] h (countA S w).1 (QX h b (countA S w).2) := by
  refine Cn.mk (by decide +kernel) (Nat.le_of_ble_eq_true rfl) ?_
  intro x sz hx hr
  show Zj g x (sz, 0, 0) h 0 [(0, .ref b), (1, .int (iI w))] []
  have hX0 := hX
  obtain ⟨F, pi, Fs, kq, N, T, x0, hK, hi0, hi1, htx, htr, hrb, heb, hhb, ⟨hR, hPR, hNn⟩, htt⟩ := hX
  obtain ⟨k0, k1, k2, k3, k4, k5⟩ := hK
  have hN := hV.1
  have hI := hN.1
  have hn := hI.n
  have rn := hR.n
  have h58 : 0 ≤ S 1 58 ∧ S 1 58 ≤ 8 := ⟨(hI.rg 58 (by decide)).1, hN.2.2.2.1⟩
  have h39 : 0 ≤ S 1 39 ∧ S 1 39 ≤ 6 := ⟨(hI.rg 39 (by decide)).1, hN.2.2.1⟩
  have h0 : 0 ≤ S 1 0 ∧ S 1 0 ≤ 999 := ⟨hN.2.1.2, hN.2.1.1⟩
  have hmx : ∀ i, 0 ≤ i → i < S 1 58 → inv (mixF (S 1) i) := fun i a b => (hN.2.2.2.2.1 i a b).1
  have hno : ∀ i, 0 ≤ i → i < S 1 39 → S 1 (40 + 3 * i) < 5 ∧ S 1 (40 + 3 * i + 1) ≤ 40 ∧ S 1 (40 + 3 * i + 2) ≤ 9 := fun i a b => by have q := hN.2.2.2.2.2 i a b; rw [show 41 + 3 * i = 40 + 3 * i + 1 by omega, show 42 + 3 * i = 40 + 3 * i + 2 by omega] at q; exact q
  have hTo : outR (S 2) := hV.2.1
  have hL := hV.2.2.2.1
  have htt2 := hV.2.2.2.2.1
  refine z_iload_n hx dX8_count_0 rfl 1 rfl ?_
  refine z_iconst hx dX8_count_1 ?_
  refine z_bipush hx dX8_count_2 (by decide) ?_
  refine z_cSI (as := [.int (iI w), .int (iI 0), .int (iI 8)]) (rest := []) hx dX8_count_4 lk_X8_80 wt_X8_isIn mo_X8_isIn (kX8_isIn g (a := w) (b := 0) (c := 8) (by omega) (by omega) (by omega)) (by decide) rfl rfl (Nat.le_of_ble_eq_true rfl) ?_
  refine z_ifeq_b (tgt := 18) hx dX8_count_7 (by decide)  (fun c_1 => ?_) (fun c_1 => ?_)
  ·
    refine z_aload_n hx dX8_count_18 rfl 0 rfl ?_
    refine z_bipush hx dX8_count_19 (by decide) ?_
    refine z_cVJ (as := [.int (iI (-2))]) (rest := []) hx dX8_count_21 lk_X8_88 wm_X8_bad wv_X8_bad (rcv_obj hx x0 rfl) mo_X8_bad (kX8_bad g (v := (-2)) x0) (by decide) rfl rfl (Nat.le_of_ble_eq_true rfl) (fun h_2 q_3 => ?_)
    obtain ⟨hs_4, hf_5⟩ := q_3
    have h_6 := hf_5.at (by omega) k0
    have h_7 := CM.fr k1 hf_5 (by omega)
    have h_8 := PM.fr k2 hf_5 (by omega)
    have h_9 := hf_5.at (by omega) k3
    have h_10 := hf_5.at (by omega) k4
    have h_11 := hf_5.at (by omega) k5
    have h_12 := IB.fr hi0 hf_5 (by omega)
    have h_13 := IB.fr hi1 hf_5 (by omega)
    have h_14 := TB.fr htx hf_5 (by omega)
    have h_15 := CB.fr htr hf_5 (by omega)
    have h_16 := RB.fr hrb hf_5 (by omega)
    have h_17 := EB.fr heb hf_5 (by omega)
    have h_18 := HB.fr hhb hf_5 (by omega)
    have fr_19 : Fr h h_2 b 367 := hf_5.wd (by omega) (by omega)
    refine z_iret hx hr dX8_count_24 rfl rfl (q_j (by unfold countA; (repeat (first | rw [if_pos (by omega)] | rw [if_neg (by omega)])); (try first | rfl | omega)) (by unfold countA; (repeat (first | rw [if_pos (by omega)] | rw [if_neg (by omega)])); show XC h_2 b (S 0) (S 1) (S 4) (S 5) (fup (S 6) 0 ((S 6) 0 + 1)) (S 7) ∧ Fr h h_2 b 367; exact ⟨⟨F, pi, Fs, kq, N, T, hs_4, KM.eq ⟨h_6, h_7, h_8, h_9, h_10, h_11⟩ (rfl) (rfl), h_12, h_13, h_14, h_15, h_16, h_17, h_18, ⟨hR, hPR, hNn⟩, htt⟩, fr_19⟩))
  ·
    refine z_aload_n hx dX8_count_10 rfl 0 rfl ?_
    refine z_iload_n hx dX8_count_11 rfl 1 rfl ?_
    refine z_cVI (as := [.int (iI w)]) (rest := []) hx dX8_count_12 lk_X8_271 wm_X8_countOf wv_X8_countOf (rcv_obj hx x0 rfl) mo_X8_countOf (kX8_countOf g (S := S) (w := w) hX0 hV (show 0 ≤ w ∧ w ≤ 8 by omega)) (by decide) rfl rfl (Nat.le_of_ble_eq_true rfl) ?_
    have f_20 := cntV_rg hV w
    refine z_goto (tgt := 24) hx dX8_count_15 (by decide) ?_
    refine z_iret hx hr dX8_count_24 rfl rfl (q_j (by unfold countA; (repeat (first | rw [if_pos (by omega)] | rw [if_neg (by omega)])); (try first | rfl | omega)) (by unfold countA; (repeat (first | rw [if_pos (by omega)] | rw [if_neg (by omega)])); show XC h b (S 0) (S 1) (S 4) (S 5) (S 6) (S 7) ∧ Fr h h b 367; exact ⟨⟨F, pi, Fs, kq, N, T, x0, KM.eq ⟨k0, k1, k2, k3, k4, k5⟩ (rfl) (rfl), hi0, hi1, htx, htr, hrb, heb, hhb, ⟨hR, hPR, hNn⟩, htt⟩, Fr.rf⟩))

set_option maxHeartbeats 4000000 in
set_option maxRecDepth 20000 in
theorem kX8_of (g : Gt) {h : AH} {b : Nat} {S : Nat → Int → Int} {k : Int} {w : Int} (hX : XR h b S) (hV : invM S) (g_k : rgI k) (g_w : rgI w) : CnJ g mX8_of 4 [.ref b, .int (iI k), .int (iI w)] h (ofA S k w).1 (QX h b (ofA S k w).2) := by
  refine Cn.mk (by decide +kernel) (Nat.le_of_ble_eq_true rfl) ?_
  intro x sz hx hr
  show Zj g x (sz, 0, 0) h 0 [(0, .ref b), (1, .int (iI k)), (2, .int (iI w))] []
  have hX0 := hX
  obtain ⟨F, pi, Fs, kq, N, T, x0, hK, hi0, hi1, htx, htr, hrb, heb, hhb, ⟨hR, hPR, hNn⟩, htt⟩ := hX
  obtain ⟨k0, k1, k2, k3, k4, k5⟩ := hK
  have hN := hV.1
  have hI := hN.1
  have hn := hI.n
  have rn := hR.n
  have h58 : 0 ≤ S 1 58 ∧ S 1 58 ≤ 8 := ⟨(hI.rg 58 (by decide)).1, hN.2.2.2.1⟩
  have h39 : 0 ≤ S 1 39 ∧ S 1 39 ≤ 6 := ⟨(hI.rg 39 (by decide)).1, hN.2.2.1⟩
  have h0 : 0 ≤ S 1 0 ∧ S 1 0 ≤ 999 := ⟨hN.2.1.2, hN.2.1.1⟩
  have hmx : ∀ i, 0 ≤ i → i < S 1 58 → inv (mixF (S 1) i) := fun i a b => (hN.2.2.2.2.1 i a b).1
  have hno : ∀ i, 0 ≤ i → i < S 1 39 → S 1 (40 + 3 * i) < 5 ∧ S 1 (40 + 3 * i + 1) ≤ 40 ∧ S 1 (40 + 3 * i + 2) ≤ 9 := fun i a b => by have q := hN.2.2.2.2.2 i a b; rw [show 41 + 3 * i = 40 + 3 * i + 1 by omega, show 42 + 3 * i = 40 + 3 * i + 2 by omega] at q; exact q
  have hTo : outR (S 2) := hV.2.1
  have hL := hV.2.2.2.1
  have htt2 := hV.2.2.2.2.1
  refine z_aload_n hx dX8_of_0 rfl 0 rfl ?_
  refine z_iload_n hx dX8_of_1 rfl 1 rfl ?_
  refine z_cVI (as := [.int (iI k)]) (rest := []) hx dX8_of_2 lk_X8_154 wm_X8_isCosy wv_X8_isCosy (rcv_obj hx x0 rfl) mo_X8_isCosy (kX8_isCosy g (k := k) (F := F) (N := N) (f := (S 1)) x0 ⟨k0, k1, k2, k3, k4, k5⟩ hR hI (show rgI k by omega)) (by decide) rfl rfl (Nat.le_of_ble_eq_true rfl) ?_
  refine z_ifne_b (tgt := 15) hx dX8_of_5 (by decide)  (fun c_1 => ?_) (fun c_1 => ?_)
  ·
    refine z_iload_n hx dX8_of_15 rfl 2 rfl ?_
    by_cases c_2 : w = 0
    ·
      refine z_tblIn (off := 40) (tgt := 56) hx dX8_of_16 (by omega) 0 c_2 (by decide) rfl (by decide) ?_
      refine z_aload_n hx dX8_of_56 rfl 0 rfl ?_
      refine z_get hx dX8_of_57 fl_X8_10 x0 rfl ?_
      refine z_get hx dX8_of_60 fl_X8_71 k0 rfl ?_
      refine z_get hx dX8_of_63 fl_X8_182 k1.1 rfl ?_
      refine z_iload_n hx dX8_of_66 rfl 1 rfl ?_
      refine z_iald hx dX8_of_67 k1.2.1 (by omega) (by decide) ?_
      have rk_3 := hR.k k (by first | omega | decide)
      have ik_4 := hI.k k (by first | omega | decide)
      refine z_iret hx hr dX8_of_68 rfl rfl (q_j (by unfold ofA; (repeat (first | rw [if_pos (by omega)] | rw [if_neg (by omega)])); (try first | rfl | omega)) (by unfold ofA; (repeat (first | rw [if_pos (by omega)] | rw [if_neg (by omega)])); show XC h b (S 0) (S 1) (S 4) (S 5) (S 6) (S 7) ∧ Fr h h b 367; exact ⟨⟨F, pi, Fs, kq, N, T, x0, KM.eq ⟨k0, k1, k2, k3, k4, k5⟩ (rfl) (rfl), hi0, hi1, htx, htr, hrb, heb, hhb, ⟨hR, hPR, hNn⟩, htt⟩, Fr.rf⟩))
    by_cases c_5 : w = 1
    ·
      refine z_tblIn (off := 53) (tgt := 69) hx dX8_of_16 (by omega) 1 c_5 (by decide) rfl (by decide) ?_
      refine z_aload_n hx dX8_of_69 rfl 0 rfl ?_
      refine z_get hx dX8_of_70 fl_X8_10 x0 rfl ?_
      refine z_get hx dX8_of_73 fl_X8_71 k0 rfl ?_
      refine z_get hx dX8_of_76 fl_X8_170 k1.1 rfl ?_
      refine z_iload_n hx dX8_of_79 rfl 1 rfl ?_
      refine z_iald hx dX8_of_80 k1.2.2.1 (by omega) (by decide) ?_
      have rk_6 := hR.k k (by first | omega | decide)
      have ik_7 := hI.k k (by first | omega | decide)
      refine z_iret hx hr dX8_of_81 rfl rfl (q_j (by unfold ofA; (repeat (first | rw [if_pos (by omega)] | rw [if_neg (by omega)])); (try first | rfl | omega)) (by unfold ofA; (repeat (first | rw [if_pos (by omega)] | rw [if_neg (by omega)])); show XC h b (S 0) (S 1) (S 4) (S 5) (S 6) (S 7) ∧ Fr h h b 367; exact ⟨⟨F, pi, Fs, kq, N, T, x0, KM.eq ⟨k0, k1, k2, k3, k4, k5⟩ (rfl) (rfl), hi0, hi1, htx, htr, hrb, heb, hhb, ⟨hR, hPR, hNn⟩, htt⟩, Fr.rf⟩))
    by_cases c_8 : w = 2
    ·
      refine z_tblIn (off := 66) (tgt := 82) hx dX8_of_16 (by omega) 2 c_8 (by decide) rfl (by decide) ?_
      refine z_aload_n hx dX8_of_82 rfl 0 rfl ?_
      refine z_get hx dX8_of_83 fl_X8_10 x0 rfl ?_
      refine z_get hx dX8_of_86 fl_X8_71 k0 rfl ?_
      refine z_get hx dX8_of_89 fl_X8_185 k1.1 rfl ?_
      refine z_iload_n hx dX8_of_92 rfl 1 rfl ?_
      refine z_iald hx dX8_of_93 k1.2.2.2.1 (by omega) (by decide) ?_
      have rk_9 := hR.k k (by first | omega | decide)
      have ik_10 := hI.k k (by first | omega | decide)
      refine z_iret hx hr dX8_of_94 rfl rfl (q_j (by unfold ofA; (repeat (first | rw [if_pos (by omega)] | rw [if_neg (by omega)])); (try first | rfl | omega)) (by unfold ofA; (repeat (first | rw [if_pos (by omega)] | rw [if_neg (by omega)])); show XC h b (S 0) (S 1) (S 4) (S 5) (S 6) (S 7) ∧ Fr h h b 367; exact ⟨⟨F, pi, Fs, kq, N, T, x0, KM.eq ⟨k0, k1, k2, k3, k4, k5⟩ (rfl) (rfl), hi0, hi1, htx, htr, hrb, heb, hhb, ⟨hR, hPR, hNn⟩, htt⟩, Fr.rf⟩))
    by_cases c_11 : w = 3
    ·
      refine z_tblIn (off := 79) (tgt := 95) hx dX8_of_16 (by omega) 3 c_11 (by decide) rfl (by decide) ?_
      refine z_aload_n hx dX8_of_95 rfl 0 rfl ?_
      refine z_get hx dX8_of_96 fl_X8_10 x0 rfl ?_
      refine z_get hx dX8_of_99 fl_X8_71 k0 rfl ?_
      refine z_get hx dX8_of_102 fl_X8_157 k1.1 rfl ?_
      refine z_iload_n hx dX8_of_105 rfl 1 rfl ?_
      refine z_iald hx dX8_of_106 k1.2.2.2.2.1 (by omega) (by decide) ?_
      have rk_12 := hR.k k (by first | omega | decide)
      have ik_13 := hI.k k (by first | omega | decide)
      refine z_iret hx hr dX8_of_107 rfl rfl (q_j (by unfold ofA; (repeat (first | rw [if_pos (by omega)] | rw [if_neg (by omega)])); (try first | rfl | omega)) (by unfold ofA; (repeat (first | rw [if_pos (by omega)] | rw [if_neg (by omega)])); show XC h b (S 0) (S 1) (S 4) (S 5) (S 6) (S 7) ∧ Fr h h b 367; exact ⟨⟨F, pi, Fs, kq, N, T, x0, KM.eq ⟨k0, k1, k2, k3, k4, k5⟩ (rfl) (rfl), hi0, hi1, htx, htr, hrb, heb, hhb, ⟨hR, hPR, hNn⟩, htt⟩, Fr.rf⟩))
    by_cases c_14 : w = 4
    ·
      refine z_tblIn (off := 92) (tgt := 108) hx dX8_of_16 (by omega) 4 c_14 (by decide) rfl (by decide) ?_
      refine z_aload_n hx dX8_of_108 rfl 0 rfl ?_
      refine z_get hx dX8_of_109 fl_X8_10 x0 rfl ?_
      refine z_get hx dX8_of_112 fl_X8_71 k0 rfl ?_
      refine z_iload_n hx dX8_of_115 rfl 1 rfl ?_
      refine z_cVI (as := [.int (iI k)]) (rest := []) hx dX8_of_116 lk_X8_188 wm_X1_holds wv_X1_holds (rcv_obj hx (And.left k1) rfl) mo_X1_holds (kX1_holds g (F := F) (f := (S 1)) (k := k) k1 hR hI (show 0 ≤ k ∧ k < (S 1) 26 by omega)) (by decide) rfl rfl (Nat.le_of_ble_eq_true rfl) ?_
      have f_15 := hlf_rg hI (k := k) (by omega)
      refine z_iret hx hr dX8_of_119 rfl rfl (q_j (by unfold ofA; (repeat (first | rw [if_pos (by omega)] | rw [if_neg (by omega)])); (try first | rfl | omega)) (by unfold ofA; (repeat (first | rw [if_pos (by omega)] | rw [if_neg (by omega)])); show XC h b (S 0) (S 1) (S 4) (S 5) (S 6) (S 7) ∧ Fr h h b 367; exact ⟨⟨F, pi, Fs, kq, N, T, x0, KM.eq ⟨k0, k1, k2, k3, k4, k5⟩ (rfl) (rfl), hi0, hi1, htx, htr, hrb, heb, hhb, ⟨hR, hPR, hNn⟩, htt⟩, Fr.rf⟩))
    by_cases c_16 : w = 5
    ·
      refine z_tblIn (off := 104) (tgt := 120) hx dX8_of_16 (by omega) 5 c_16 (by decide) rfl (by decide) ?_
      refine z_aload_n hx dX8_of_120 rfl 0 rfl ?_
      refine z_get hx dX8_of_121 fl_X8_10 x0 rfl ?_
      refine z_get hx dX8_of_124 fl_X8_71 k0 rfl ?_
      refine z_iload_n hx dX8_of_127 rfl 1 rfl ?_
      refine z_cVI (as := [.int (iI k)]) (rest := []) hx dX8_of_128 lk_X8_191 wm_X1_whoIs wv_X1_whoIs (rcv_obj hx (And.left k1) rfl) mo_X1_whoIs (kX1_whoIs g (F := F) (f := (S 1)) (v := k) k1 hR hI (show rgI k by omega)) (by decide) rfl rfl (Nat.le_of_ble_eq_true rfl) ?_
      have f_17 := who_rg hI k
      have ew : who (S 1) k = und (S 1) k := who_und hI (by omega)
      refine z_iret hx hr dX8_of_131 rfl rfl (q_j (by unfold ofA; (repeat (first | rw [if_pos (by omega)] | rw [if_neg (by omega)])); (try first | rfl | omega)) (by unfold ofA; (repeat (first | rw [if_pos (by omega)] | rw [if_neg (by omega)])); show XC h b (S 0) (S 1) (S 4) (S 5) (S 6) (S 7) ∧ Fr h h b 367; exact ⟨⟨F, pi, Fs, kq, N, T, x0, KM.eq ⟨k0, k1, k2, k3, k4, k5⟩ (rfl) (rfl), hi0, hi1, htx, htr, hrb, heb, hhb, ⟨hR, hPR, hNn⟩, htt⟩, Fr.rf⟩))
    refine z_tblOut (tgt := 132) hx dX8_of_16 (by omega) (by omega) (by decide) ?_
    refine z_aload_n hx dX8_of_132 rfl 0 rfl ?_
    refine z_bipush hx dX8_of_133 (by decide) ?_
    refine z_cVJ (as := [.int (iI (-2))]) (rest := []) hx dX8_of_135 lk_X8_88 wm_X8_bad wv_X8_bad (rcv_obj hx x0 rfl) mo_X8_bad (kX8_bad g (v := (-2)) x0) (by decide) rfl rfl (Nat.le_of_ble_eq_true rfl) (fun h_18 q_19 => ?_)
    obtain ⟨hs_20, hf_21⟩ := q_19
    have h_22 := hf_21.at (by omega) k0
    have h_23 := CM.fr k1 hf_21 (by omega)
    have h_24 := PM.fr k2 hf_21 (by omega)
    have h_25 := hf_21.at (by omega) k3
    have h_26 := hf_21.at (by omega) k4
    have h_27 := hf_21.at (by omega) k5
    have h_28 := IB.fr hi0 hf_21 (by omega)
    have h_29 := IB.fr hi1 hf_21 (by omega)
    have h_30 := TB.fr htx hf_21 (by omega)
    have h_31 := CB.fr htr hf_21 (by omega)
    have h_32 := RB.fr hrb hf_21 (by omega)
    have h_33 := EB.fr heb hf_21 (by omega)
    have h_34 := HB.fr hhb hf_21 (by omega)
    have fr_35 : Fr h h_18 b 367 := hf_21.wd (by omega) (by omega)
    refine z_iret hx hr dX8_of_138 rfl rfl (q_j (by unfold ofA; (repeat (first | rw [if_pos (by omega)] | rw [if_neg (by omega)])); (try first | rfl | omega)) (by unfold ofA; (repeat (first | rw [if_pos (by omega)] | rw [if_neg (by omega)])); show XC h_18 b (S 0) (S 1) (S 4) (S 5) (fup (S 6) 0 ((S 6) 0 + 1)) (S 7) ∧ Fr h h_18 b 367; exact ⟨⟨F, pi, Fs, kq, N, T, hs_20, KM.eq ⟨h_22, h_23, h_24, h_25, h_26, h_27⟩ (rfl) (rfl), h_28, h_29, h_30, h_31, h_32, h_33, h_34, ⟨hR, hPR, hNn⟩, htt⟩, fr_35⟩))
  ·
    refine z_aload_n hx dX8_of_8 rfl 0 rfl ?_
    refine z_bipush hx dX8_of_9 (by decide) ?_
    refine z_cVJ (as := [.int (iI (-2))]) (rest := []) hx dX8_of_11 lk_X8_88 wm_X8_bad wv_X8_bad (rcv_obj hx x0 rfl) mo_X8_bad (kX8_bad g (v := (-2)) x0) (by decide) rfl rfl (Nat.le_of_ble_eq_true rfl) (fun h_36 q_37 => ?_)
    obtain ⟨hs_38, hf_39⟩ := q_37
    have h_40 := hf_39.at (by omega) k0
    have h_41 := CM.fr k1 hf_39 (by omega)
    have h_42 := PM.fr k2 hf_39 (by omega)
    have h_43 := hf_39.at (by omega) k3
    have h_44 := hf_39.at (by omega) k4
    have h_45 := hf_39.at (by omega) k5
    have h_46 := IB.fr hi0 hf_39 (by omega)
    have h_47 := IB.fr hi1 hf_39 (by omega)
    have h_48 := TB.fr htx hf_39 (by omega)
    have h_49 := CB.fr htr hf_39 (by omega)
    have h_50 := RB.fr hrb hf_39 (by omega)
    have h_51 := EB.fr heb hf_39 (by omega)
    have h_52 := HB.fr hhb hf_39 (by omega)
    have fr_53 : Fr h h_36 b 367 := hf_39.wd (by omega) (by omega)
    refine z_iret hx hr dX8_of_14 rfl rfl (q_j (by unfold ofA; (repeat (first | rw [if_pos (by omega)] | rw [if_neg (by omega)])); (try first | rfl | omega)) (by unfold ofA; (repeat (first | rw [if_pos (by omega)] | rw [if_neg (by omega)])); show XC h_36 b (S 0) (S 1) (S 4) (S 5) (fup (S 6) 0 ((S 6) 0 + 1)) (S 7) ∧ Fr h h_36 b 367; exact ⟨⟨F, pi, Fs, kq, N, T, hs_38, KM.eq ⟨h_40, h_41, h_42, h_43, h_44, h_45⟩ (rfl) (rfl), h_46, h_47, h_48, h_49, h_50, h_51, h_52, ⟨hR, hPR, hNn⟩, htt⟩, fr_53⟩))

set_option maxHeartbeats 4000000 in
set_option maxRecDepth 20000 in
theorem kX8_about (g : Gt) {h : AH} {b : Nat} {S : Nat → Int → Int} {p : Int} {w : Int} (hX : XR h b S) (hV : invM S) (g_p : rgI p) (g_w : rgI w) : CnJ g mX8_about 3 [.ref b, .int (iI p), .int (iI w)] h (aboutA S p w).1 (QX h b (aboutA S p w).2) := by
  refine Cn.mk (by decide +kernel) (Nat.le_of_ble_eq_true rfl) ?_
  intro x sz hx hr
  show Zj g x (sz, 0, 0) h 0 [(0, .ref b), (1, .int (iI p)), (2, .int (iI w))] []
  have hX0 := hX
  obtain ⟨F, pi, Fs, kq, N, T, x0, hK, hi0, hi1, htx, htr, hrb, heb, hhb, ⟨hR, hPR, hNn⟩, htt⟩ := hX
  obtain ⟨k0, k1, k2, k3, k4, k5⟩ := hK
  have hN := hV.1
  have hI := hN.1
  have hn := hI.n
  have rn := hR.n
  have h58 : 0 ≤ S 1 58 ∧ S 1 58 ≤ 8 := ⟨(hI.rg 58 (by decide)).1, hN.2.2.2.1⟩
  have h39 : 0 ≤ S 1 39 ∧ S 1 39 ≤ 6 := ⟨(hI.rg 39 (by decide)).1, hN.2.2.1⟩
  have h0 : 0 ≤ S 1 0 ∧ S 1 0 ≤ 999 := ⟨hN.2.1.2, hN.2.1.1⟩
  have hmx : ∀ i, 0 ≤ i → i < S 1 58 → inv (mixF (S 1) i) := fun i a b => (hN.2.2.2.2.1 i a b).1
  have hno : ∀ i, 0 ≤ i → i < S 1 39 → S 1 (40 + 3 * i) < 5 ∧ S 1 (40 + 3 * i + 1) ≤ 40 ∧ S 1 (40 + 3 * i + 2) ≤ 9 := fun i a b => by have q := hN.2.2.2.2.2 i a b; rw [show 41 + 3 * i = 40 + 3 * i + 1 by omega, show 42 + 3 * i = 40 + 3 * i + 2 by omega] at q; exact q
  have hTo : outR (S 2) := hV.2.1
  have hL := hV.2.2.2.1
  have htt2 := hV.2.2.2.2.1
  refine z_aload_n hx dX8_about_0 rfl 0 rfl ?_
  refine z_iload_n hx dX8_about_1 rfl 1 rfl ?_
  refine z_cVI (as := [.int (iI p)]) (rest := []) hx dX8_about_2 lk_X8_194 wm_X8_isOneHunted wv_X8_isOneHunted (rcv_obj hx x0 rfl) mo_X8_isOneHunted (kX8_isOneHunted g (k := p) (F := F) (N := N) (f := (S 1)) x0 ⟨k0, k1, k2, k3, k4, k5⟩ hR hI (show rgI p by omega)) (by decide) rfl rfl (Nat.le_of_ble_eq_true rfl) ?_
  refine z_ifeq_b (tgt := 17) hx dX8_about_5 (by decide)  (fun c_1 => ?_) (fun c_1 => ?_)
  ·
    refine z_aload_n hx dX8_about_17 rfl 0 rfl ?_
    refine z_bipush hx dX8_about_18 (by decide) ?_
    refine z_cVJ (as := [.int (iI (-10))]) (rest := []) hx dX8_about_20 lk_X8_88 wm_X8_bad wv_X8_bad (rcv_obj hx x0 rfl) mo_X8_bad (kX8_bad g (v := (-10)) x0) (by decide) rfl rfl (Nat.le_of_ble_eq_true rfl) (fun h_2 q_3 => ?_)
    obtain ⟨hs_4, hf_5⟩ := q_3
    have h_6 := hf_5.at (by omega) k0
    have h_7 := CM.fr k1 hf_5 (by omega)
    have h_8 := PM.fr k2 hf_5 (by omega)
    have h_9 := hf_5.at (by omega) k3
    have h_10 := hf_5.at (by omega) k4
    have h_11 := hf_5.at (by omega) k5
    have h_12 := IB.fr hi0 hf_5 (by omega)
    have h_13 := IB.fr hi1 hf_5 (by omega)
    have h_14 := TB.fr htx hf_5 (by omega)
    have h_15 := CB.fr htr hf_5 (by omega)
    have h_16 := RB.fr hrb hf_5 (by omega)
    have h_17 := EB.fr heb hf_5 (by omega)
    have h_18 := HB.fr hhb hf_5 (by omega)
    have fr_19 : Fr h h_2 b 367 := hf_5.wd (by omega) (by omega)
    refine z_iret hx hr dX8_about_23 rfl rfl (q_j (by unfold aboutA; (repeat (first | rw [if_pos (by omega)] | rw [if_neg (by omega)])); (try first | rfl | omega)) (by unfold aboutA; (repeat (first | rw [if_pos (by omega)] | rw [if_neg (by omega)])); show XC h_2 b (S 0) (S 1) (S 4) (S 5) (fup (S 6) 0 ((S 6) 0 + 1)) (S 7) ∧ Fr h h_2 b 367; exact ⟨⟨F, pi, Fs, kq, N, T, hs_4, KM.eq ⟨h_6, h_7, h_8, h_9, h_10, h_11⟩ (rfl) (rfl), h_12, h_13, h_14, h_15, h_16, h_17, h_18, ⟨hR, hPR, hNn⟩, htt⟩, fr_19⟩))
  ·
    refine z_iload_n hx dX8_about_8 rfl 2 rfl ?_
    refine z_iconst hx dX8_about_9 ?_
    refine z_iconst hx dX8_about_10 ?_
    refine z_cSI (as := [.int (iI w), .int (iI 0), .int (iI 2)]) (rest := []) hx dX8_about_11 lk_X8_80 wt_X8_isIn mo_X8_isIn (kX8_isIn g (a := w) (b := 0) (c := 2) (by omega) (by omega) (by omega)) (by decide) rfl rfl (Nat.le_of_ble_eq_true rfl) ?_
    refine z_ifne_b (tgt := 24) hx dX8_about_14 (by decide)  (fun c_20 => ?_) (fun c_20 => ?_)
    ·
      refine z_aload_n hx dX8_about_24 rfl 0 rfl ?_
      refine z_get hx dX8_about_25 fl_X8_10 x0 rfl ?_
      refine z_get hx dX8_about_28 fl_X8_71 k0 rfl ?_
      refine z_iload_n hx dX8_about_31 rfl 1 rfl ?_
      refine z_iload_n hx dX8_about_32 rfl 2 rfl ?_
      refine z_cVI (as := [.int (iI p), .int (iI w)]) (rest := []) hx dX8_about_33 lk_X8_197 wm_X1_tellOf wv_X1_tellOf (rcv_obj hx (And.left k1) rfl) mo_X1_tellOf (kX1_tellOf g (F := F) (f := (S 1)) (p := p) (w := w) k1 hR hI (show 0 ≤ p ∧ p < (S 1) 37 by omega) (show 0 ≤ w ∧ w ≤ 2 by omega)) (by decide) rfl rfl (Nat.le_of_ble_eq_true rfl) ?_
      have f_21 := tel_rg hI (p := p) (w := w) (by have := (hI).n; omega)
      refine z_iret hx hr dX8_about_36 rfl rfl (q_j (by unfold aboutA; (repeat (first | rw [if_pos (by omega)] | rw [if_neg (by omega)])); (try first | rfl | omega)) (by unfold aboutA; (repeat (first | rw [if_pos (by omega)] | rw [if_neg (by omega)])); show XC h b (S 0) (S 1) (S 4) (S 5) (S 6) (S 7) ∧ Fr h h b 367; exact ⟨⟨F, pi, Fs, kq, N, T, x0, KM.eq ⟨k0, k1, k2, k3, k4, k5⟩ (rfl) (rfl), hi0, hi1, htx, htr, hrb, heb, hhb, ⟨hR, hPR, hNn⟩, htt⟩, Fr.rf⟩))
    ·
      refine z_aload_n hx dX8_about_17 rfl 0 rfl ?_
      refine z_bipush hx dX8_about_18 (by decide) ?_
      refine z_cVJ (as := [.int (iI (-10))]) (rest := []) hx dX8_about_20 lk_X8_88 wm_X8_bad wv_X8_bad (rcv_obj hx x0 rfl) mo_X8_bad (kX8_bad g (v := (-10)) x0) (by decide) rfl rfl (Nat.le_of_ble_eq_true rfl) (fun h_22 q_23 => ?_)
      obtain ⟨hs_24, hf_25⟩ := q_23
      have h_26 := hf_25.at (by omega) k0
      have h_27 := CM.fr k1 hf_25 (by omega)
      have h_28 := PM.fr k2 hf_25 (by omega)
      have h_29 := hf_25.at (by omega) k3
      have h_30 := hf_25.at (by omega) k4
      have h_31 := hf_25.at (by omega) k5
      have h_32 := IB.fr hi0 hf_25 (by omega)
      have h_33 := IB.fr hi1 hf_25 (by omega)
      have h_34 := TB.fr htx hf_25 (by omega)
      have h_35 := CB.fr htr hf_25 (by omega)
      have h_36 := RB.fr hrb hf_25 (by omega)
      have h_37 := EB.fr heb hf_25 (by omega)
      have h_38 := HB.fr hhb hf_25 (by omega)
      have fr_39 : Fr h h_22 b 367 := hf_25.wd (by omega) (by omega)
      refine z_iret hx hr dX8_about_23 rfl rfl (q_j (by unfold aboutA; (repeat (first | rw [if_pos (by omega)] | rw [if_neg (by omega)])); (try first | rfl | omega)) (by unfold aboutA; (repeat (first | rw [if_pos (by omega)] | rw [if_neg (by omega)])); show XC h_22 b (S 0) (S 1) (S 4) (S 5) (fup (S 6) 0 ((S 6) 0 + 1)) (S 7) ∧ Fr h h_22 b 367; exact ⟨⟨F, pi, Fs, kq, N, T, hs_24, KM.eq ⟨h_26, h_27, h_28, h_29, h_30, h_31⟩ (rfl) (rfl), h_32, h_33, h_34, h_35, h_36, h_37, h_38, ⟨hR, hPR, hNn⟩, htt⟩, fr_39⟩))

set_option maxHeartbeats 4000000 in
set_option maxRecDepth 20000 in
theorem kX8_where (g : Gt) {h : AH} {b : Nat} {S : Nat → Int → Int} {k : Int} (hX : XR h b S) (hV : invM S) (g_k : rgI k) : CnJ g mX8_where 2 [.ref b, .int (iI k)] h (whereA S k).1 (QX h b (whereA S k).2) := by
  refine Cn.mk (by decide +kernel) (Nat.le_of_ble_eq_true rfl) ?_
  intro x sz hx hr
  show Zj g x (sz, 0, 0) h 0 [(0, .ref b), (1, .int (iI k))] []
  have hX0 := hX
  obtain ⟨F, pi, Fs, kq, N, T, x0, hK, hi0, hi1, htx, htr, hrb, heb, hhb, ⟨hR, hPR, hNn⟩, htt⟩ := hX
  obtain ⟨k0, k1, k2, k3, k4, k5⟩ := hK
  have hN := hV.1
  have hI := hN.1
  have hn := hI.n
  have rn := hR.n
  have h58 : 0 ≤ S 1 58 ∧ S 1 58 ≤ 8 := ⟨(hI.rg 58 (by decide)).1, hN.2.2.2.1⟩
  have h39 : 0 ≤ S 1 39 ∧ S 1 39 ≤ 6 := ⟨(hI.rg 39 (by decide)).1, hN.2.2.1⟩
  have h0 : 0 ≤ S 1 0 ∧ S 1 0 ≤ 999 := ⟨hN.2.1.2, hN.2.1.1⟩
  have hmx : ∀ i, 0 ≤ i → i < S 1 58 → inv (mixF (S 1) i) := fun i a b => (hN.2.2.2.2.1 i a b).1
  have hno : ∀ i, 0 ≤ i → i < S 1 39 → S 1 (40 + 3 * i) < 5 ∧ S 1 (40 + 3 * i + 1) ≤ 40 ∧ S 1 (40 + 3 * i + 2) ≤ 9 := fun i a b => by have q := hN.2.2.2.2.2 i a b; rw [show 41 + 3 * i = 40 + 3 * i + 1 by omega, show 42 + 3 * i = 40 + 3 * i + 2 by omega] at q; exact q
  have hTo : outR (S 2) := hV.2.1
  have hL := hV.2.2.2.1
  have htt2 := hV.2.2.2.2.1
  refine z_iload_n hx dX8_where_0 rfl 1 rfl ?_
  refine z_iconst hx dX8_where_1 ?_
  refine z_aload_n hx dX8_where_2 rfl 0 rfl ?_
  refine z_get hx dX8_where_3 fl_X8_10 x0 rfl ?_
  refine z_get hx dX8_where_6 fl_X8_71 k0 rfl ?_
  refine z_get hx dX8_where_9 fl_X8_115 k1.1 rfl ?_
  refine z_iconst hx dX8_where_12 ?_
  refine z_isub hx dX8_where_13 ?_
  refine z_cSI (as := [.int (iI k), .int (iI 0), .int (iI ((F 0 2) - 1))]) (rest := []) hx dX8_where_14 lk_X8_80 wt_X8_isIn mo_X8_isIn (kX8_isIn g (a := k) (b := 0) (c := ((F 0 2) - 1)) (by omega) (by omega) (by omega)) (by decide) rfl rfl (Nat.le_of_ble_eq_true rfl) ?_
  refine z_ifne_b (tgt := 27) hx dX8_where_17 (by decide)  (fun c_1 => ?_) (fun c_1 => ?_)
  ·
    refine z_aload_n hx dX8_where_27 rfl 0 rfl ?_
    refine z_get hx dX8_where_28 fl_X8_10 x0 rfl ?_
    refine z_get hx dX8_where_31 fl_X8_71 k0 rfl ?_
    refine z_get hx dX8_where_34 fl_X8_200 k1.1 rfl ?_
    refine z_iload_n hx dX8_where_37 rfl 1 rfl ?_
    refine z_iald hx dX8_where_38 k1.2.2.2.2.2.2.2.1 (by omega) (by decide) ?_
    have rs_2 := hR.s k (by first | omega | decide)
    have is_3 := hI.s k (by first | omega | decide)
    refine z_iret hx hr dX8_where_39 rfl rfl (q_j (by unfold whereA; (repeat (first | rw [if_pos (by omega)] | rw [if_neg (by omega)])); (try first | rfl | omega)) (by unfold whereA; (repeat (first | rw [if_pos (by omega)] | rw [if_neg (by omega)])); show XC h b (S 0) (S 1) (S 4) (S 5) (S 6) (S 7) ∧ Fr h h b 367; exact ⟨⟨F, pi, Fs, kq, N, T, x0, KM.eq ⟨k0, k1, k2, k3, k4, k5⟩ (rfl) (rfl), hi0, hi1, htx, htr, hrb, heb, hhb, ⟨hR, hPR, hNn⟩, htt⟩, Fr.rf⟩))
  ·
    refine z_aload_n hx dX8_where_20 rfl 0 rfl ?_
    refine z_bipush hx dX8_where_21 (by decide) ?_
    refine z_cVJ (as := [.int (iI (-2))]) (rest := []) hx dX8_where_23 lk_X8_88 wm_X8_bad wv_X8_bad (rcv_obj hx x0 rfl) mo_X8_bad (kX8_bad g (v := (-2)) x0) (by decide) rfl rfl (Nat.le_of_ble_eq_true rfl) (fun h_4 q_5 => ?_)
    obtain ⟨hs_6, hf_7⟩ := q_5
    have h_8 := hf_7.at (by omega) k0
    have h_9 := CM.fr k1 hf_7 (by omega)
    have h_10 := PM.fr k2 hf_7 (by omega)
    have h_11 := hf_7.at (by omega) k3
    have h_12 := hf_7.at (by omega) k4
    have h_13 := hf_7.at (by omega) k5
    have h_14 := IB.fr hi0 hf_7 (by omega)
    have h_15 := IB.fr hi1 hf_7 (by omega)
    have h_16 := TB.fr htx hf_7 (by omega)
    have h_17 := CB.fr htr hf_7 (by omega)
    have h_18 := RB.fr hrb hf_7 (by omega)
    have h_19 := EB.fr heb hf_7 (by omega)
    have h_20 := HB.fr hhb hf_7 (by omega)
    have fr_21 : Fr h h_4 b 367 := hf_7.wd (by omega) (by omega)
    refine z_iret hx hr dX8_where_26 rfl rfl (q_j (by unfold whereA; (repeat (first | rw [if_pos (by omega)] | rw [if_neg (by omega)])); (try first | rfl | omega)) (by unfold whereA; (repeat (first | rw [if_pos (by omega)] | rw [if_neg (by omega)])); show XC h_4 b (S 0) (S 1) (S 4) (S 5) (fup (S 6) 0 ((S 6) 0 + 1)) (S 7) ∧ Fr h h_4 b 367; exact ⟨⟨F, pi, Fs, kq, N, T, hs_6, KM.eq ⟨h_8, h_9, h_10, h_11, h_12, h_13⟩ (rfl) (rfl), h_14, h_15, h_16, h_17, h_18, h_19, h_20, ⟨hR, hPR, hNn⟩, htt⟩, fr_21⟩))

set_option maxHeartbeats 4000000 in
set_option maxRecDepth 20000 in
theorem kX8_status (g : Gt) {h : AH} {b : Nat} {S : Nat → Int → Int} {w : Int} (hX : XR h b S) (hV : invM S) (g_w : rgI w) : CnJ g mX8_status 2 [.ref b, .int (iI w)] h (statusA S w).1 (QX h b (statusA S w).2) := by
  refine Cn.mk (by decide +kernel) (Nat.le_of_ble_eq_true rfl) ?_
  intro x sz hx hr
  show Zj g x (sz, 0, 0) h 0 [(0, .ref b), (1, .int (iI w))] []
  have hX0 := hX
  obtain ⟨F, pi, Fs, kq, N, T, x0, hK, hi0, hi1, htx, htr, hrb, heb, hhb, ⟨hR, hPR, hNn⟩, htt⟩ := hX
  obtain ⟨k0, k1, k2, k3, k4, k5⟩ := hK
  have hN := hV.1
  have hI := hN.1
  have hn := hI.n
  have rn := hR.n
  have h58 : 0 ≤ S 1 58 ∧ S 1 58 ≤ 8 := ⟨(hI.rg 58 (by decide)).1, hN.2.2.2.1⟩
  have h39 : 0 ≤ S 1 39 ∧ S 1 39 ≤ 6 := ⟨(hI.rg 39 (by decide)).1, hN.2.2.1⟩
  have h0 : 0 ≤ S 1 0 ∧ S 1 0 ≤ 999 := ⟨hN.2.1.2, hN.2.1.1⟩
  have hmx : ∀ i, 0 ≤ i → i < S 1 58 → inv (mixF (S 1) i) := fun i a b => (hN.2.2.2.2.1 i a b).1
  have hno : ∀ i, 0 ≤ i → i < S 1 39 → S 1 (40 + 3 * i) < 5 ∧ S 1 (40 + 3 * i + 1) ≤ 40 ∧ S 1 (40 + 3 * i + 2) ≤ 9 := fun i a b => by have q := hN.2.2.2.2.2 i a b; rw [show 41 + 3 * i = 40 + 3 * i + 1 by omega, show 42 + 3 * i = 40 + 3 * i + 2 by omega] at q; exact q
  have hTo : outR (S 2) := hV.2.1
  have hL := hV.2.2.2.1
  have htt2 := hV.2.2.2.2.1
  refine z_iload_n hx dX8_status_0 rfl 1 rfl ?_
  by_cases c_1 : w = 0
  ·
    refine z_tblIn (off := 27) (tgt := 28) hx dX8_status_1 (by omega) 0 c_1 (by decide) rfl (by decide) ?_
    refine z_aload_n hx dX8_status_28 rfl 0 rfl ?_
    refine z_get hx dX8_status_29 fl_X8_61 x0 rfl ?_
    refine z_iret hx hr dX8_status_32 rfl rfl (q_j (by unfold statusA; (repeat (first | rw [if_pos (by omega)] | rw [if_neg (by omega)])); (try first | rfl | omega | (subst_vars; rfl))) (by unfold statusA; (repeat (first | rw [if_pos (by omega)] | rw [if_neg (by omega)])); show XC h b (S 0) (S 1) (S 4) (S 5) (S 6) (S 7) ∧ Fr h h b 367; exact ⟨⟨F, pi, Fs, kq, N, T, x0, KM.eq ⟨k0, k1, k2, k3, k4, k5⟩ (rfl) (rfl), hi0, hi1, htx, htr, hrb, heb, hhb, ⟨hR, hPR, hNn⟩, htt⟩, Fr.rf⟩))
  by_cases c_2 : w = 1
  ·
    refine z_tblIn (off := 32) (tgt := 33) hx dX8_status_1 (by omega) 1 c_2 (by decide) rfl (by decide) ?_
    refine z_aload_n hx dX8_status_33 rfl 0 rfl ?_
    refine z_get hx dX8_status_34 fl_X8_65 x0 rfl ?_
    refine z_iret hx hr dX8_status_37 rfl rfl (q_j (by unfold statusA; (repeat (first | rw [if_pos (by omega)] | rw [if_neg (by omega)])); (try first | rfl | omega | (subst_vars; rfl))) (by unfold statusA; (repeat (first | rw [if_pos (by omega)] | rw [if_neg (by omega)])); show XC h b (S 0) (S 1) (S 4) (S 5) (S 6) (S 7) ∧ Fr h h b 367; exact ⟨⟨F, pi, Fs, kq, N, T, x0, KM.eq ⟨k0, k1, k2, k3, k4, k5⟩ (rfl) (rfl), hi0, hi1, htx, htr, hrb, heb, hhb, ⟨hR, hPR, hNn⟩, htt⟩, Fr.rf⟩))
  by_cases c_3 : w = 2
  ·
    refine z_tblIn (off := 37) (tgt := 38) hx dX8_status_1 (by omega) 2 c_3 (by decide) rfl (by decide) ?_
    refine z_aload_n hx dX8_status_38 rfl 0 rfl ?_
    refine z_get hx dX8_status_39 fl_X8_68 x0 rfl ?_
    refine z_iret hx hr dX8_status_42 rfl rfl (q_j (by unfold statusA; (repeat (first | rw [if_pos (by omega)] | rw [if_neg (by omega)])); (try first | rfl | omega | (subst_vars; rfl))) (by unfold statusA; (repeat (first | rw [if_pos (by omega)] | rw [if_neg (by omega)])); show XC h b (S 0) (S 1) (S 4) (S 5) (S 6) (S 7) ∧ Fr h h b 367; exact ⟨⟨F, pi, Fs, kq, N, T, x0, KM.eq ⟨k0, k1, k2, k3, k4, k5⟩ (rfl) (rfl), hi0, hi1, htx, htr, hrb, heb, hhb, ⟨hR, hPR, hNn⟩, htt⟩, Fr.rf⟩))
  refine z_tblOut (tgt := 43) hx dX8_status_1 (by omega) (by omega) (by decide) ?_
  refine z_aload_n hx dX8_status_43 rfl 0 rfl ?_
  refine z_iconst hx dX8_status_44 ?_
  refine z_cVJ (as := [.int (iI (-1))]) (rest := []) hx dX8_status_45 lk_X8_88 wm_X8_bad wv_X8_bad (rcv_obj hx x0 rfl) mo_X8_bad (kX8_bad g (v := (-1)) x0) (by decide) rfl rfl (Nat.le_of_ble_eq_true rfl) (fun h_4 q_5 => ?_)
  obtain ⟨hs_6, hf_7⟩ := q_5
  have h_8 := hf_7.at (by omega) k0
  have h_9 := CM.fr k1 hf_7 (by omega)
  have h_10 := PM.fr k2 hf_7 (by omega)
  have h_11 := hf_7.at (by omega) k3
  have h_12 := hf_7.at (by omega) k4
  have h_13 := hf_7.at (by omega) k5
  have h_14 := IB.fr hi0 hf_7 (by omega)
  have h_15 := IB.fr hi1 hf_7 (by omega)
  have h_16 := TB.fr htx hf_7 (by omega)
  have h_17 := CB.fr htr hf_7 (by omega)
  have h_18 := RB.fr hrb hf_7 (by omega)
  have h_19 := EB.fr heb hf_7 (by omega)
  have h_20 := HB.fr hhb hf_7 (by omega)
  have fr_21 : Fr h h_4 b 367 := hf_7.wd (by omega) (by omega)
  refine z_iret hx hr dX8_status_48 rfl rfl (q_j (by unfold statusA; (repeat (first | rw [if_pos (by omega)] | rw [if_neg (by omega)])); (try first | rfl | omega | (subst_vars; rfl))) (by unfold statusA; (repeat (first | rw [if_pos (by omega)] | rw [if_neg (by omega)])); show XC h_4 b (S 0) (S 1) (S 4) (S 5) (fup (S 6) 0 ((S 6) 0 + 1)) (S 7) ∧ Fr h h_4 b 367; exact ⟨⟨F, pi, Fs, kq, N, T, hs_6, KM.eq ⟨h_8, h_9, h_10, h_11, h_12, h_13⟩ (rfl) (rfl), h_14, h_15, h_16, h_17, h_18, h_19, h_20, ⟨hR, hPR, hNn⟩, htt⟩, fr_21⟩))

set_option maxHeartbeats 4000000 in
set_option maxRecDepth 20000 in
theorem kX8_part (g : Gt) {h : AH} {b : Nat} {S : Nat → Int → Int} {w : Int} (hX : XR h b S) (hV : invM S) (g_w : rgI w) : CnM g mX8_part 2 [.ref b, .int (iI w)] h (partA S w).1 (QX h b (partA S w).2) := by
  refine Cn.mk (by decide +kernel) (Nat.le_of_ble_eq_true rfl) ?_
  intro x sz hx hr
  show Zj g x (sz, 0, 0) h 0 [(0, .ref b), (1, .int (iI w))] []
  have hX0 := hX
  obtain ⟨F, pi, Fs, kq, N, T, x0, hK, hi0, hi1, htx, htr, hrb, heb, hhb, ⟨hR, hPR, hNn⟩, htt⟩ := hX
  obtain ⟨k0, k1, k2, k3, k4, k5⟩ := hK
  have hN := hV.1
  have hI := hN.1
  have hn := hI.n
  have rn := hR.n
  have h58 : 0 ≤ S 1 58 ∧ S 1 58 ≤ 8 := ⟨(hI.rg 58 (by decide)).1, hN.2.2.2.1⟩
  have h39 : 0 ≤ S 1 39 ∧ S 1 39 ≤ 6 := ⟨(hI.rg 39 (by decide)).1, hN.2.2.1⟩
  have h0 : 0 ≤ S 1 0 ∧ S 1 0 ≤ 999 := ⟨hN.2.1.2, hN.2.1.1⟩
  have hmx : ∀ i, 0 ≤ i → i < S 1 58 → inv (mixF (S 1) i) := fun i a b => (hN.2.2.2.2.1 i a b).1
  have hno : ∀ i, 0 ≤ i → i < S 1 39 → S 1 (40 + 3 * i) < 5 ∧ S 1 (40 + 3 * i + 1) ≤ 40 ∧ S 1 (40 + 3 * i + 2) ≤ 9 := fun i a b => by have q := hN.2.2.2.2.2 i a b; rw [show 41 + 3 * i = 40 + 3 * i + 1 by omega, show 42 + 3 * i = 40 + 3 * i + 2 by omega] at q; exact q
  have hTo : outR (S 2) := hV.2.1
  have hL := hV.2.2.2.1
  have htt2 := hV.2.2.2.2.1
  refine z_iload_n hx dX8_part_0 rfl 1 rfl ?_
  by_cases c_1 : w = 0
  ·
    refine z_lookup (off := 27) (tgt := 28) hx dX8_part_1 (by omega) (by decide) (by rw [c_1]; decide) (by decide) ?_
    refine z_aload_n hx dX8_part_28 rfl 0 rfl ?_
    refine z_get hx dX8_part_29 fl_X8_54 x0 rfl ?_
    refine z_lret hx hr dX8_part_32 rfl (q_m (by unfold partA; (repeat (first | rw [if_pos (by omega)] | rw [if_neg (by omega)])); (try first | rfl | omega)) (by unfold partA; (repeat (first | rw [if_pos (by omega)] | rw [if_neg (by omega)])); show XC h b (S 0) (S 1) (S 4) (S 5) (S 6) (S 7) ∧ Fr h h b 367; exact ⟨⟨F, pi, Fs, kq, N, T, x0, KM.eq ⟨k0, k1, k2, k3, k4, k5⟩ (rfl) (rfl), hi0, hi1, htx, htr, hrb, heb, hhb, ⟨hR, hPR, hNn⟩, htt⟩, Fr.rf⟩))
  by_cases c_2 : w = 1
  ·
    refine z_lookup (off := 32) (tgt := 33) hx dX8_part_1 (by omega) (by decide) (by rw [c_2]; decide) (by decide) ?_
    refine z_aload_n hx dX8_part_33 rfl 0 rfl ?_
    refine z_get hx dX8_part_34 fl_X8_58 x0 rfl ?_
    refine z_lret hx hr dX8_part_37 rfl (q_m (by unfold partA; (repeat (first | rw [if_pos (by omega)] | rw [if_neg (by omega)])); (try first | rfl | omega)) (by unfold partA; (repeat (first | rw [if_pos (by omega)] | rw [if_neg (by omega)])); show XC h b (S 0) (S 1) (S 4) (S 5) (S 6) (S 7) ∧ Fr h h b 367; exact ⟨⟨F, pi, Fs, kq, N, T, x0, KM.eq ⟨k0, k1, k2, k3, k4, k5⟩ (rfl) (rfl), hi0, hi1, htx, htr, hrb, heb, hhb, ⟨hR, hPR, hNn⟩, htt⟩, Fr.rf⟩))
  refine z_lookup (off := 37) (tgt := 38) hx dX8_part_1 (by omega) (by decide) (by simp [Op.lookupswitch.offset, c_1, Ne.symm c_1, c_2, Ne.symm c_2]) (by decide) ?_
  refine z_aload_n hx dX8_part_38 rfl 0 rfl ?_
  refine z_bipush hx dX8_part_39 (by decide) ?_
  refine z_cVJ (as := [.int (iI (-2))]) (rest := []) hx dX8_part_41 lk_X8_88 wm_X8_bad wv_X8_bad (rcv_obj hx x0 rfl) mo_X8_bad (kX8_bad g (v := (-2)) x0) (by decide) rfl rfl (Nat.le_of_ble_eq_true rfl) (fun h_3 q_4 => ?_)
  obtain ⟨hs_5, hf_6⟩ := q_4
  have h_7 := hf_6.at (by omega) k0
  have h_8 := CM.fr k1 hf_6 (by omega)
  have h_9 := PM.fr k2 hf_6 (by omega)
  have h_10 := hf_6.at (by omega) k3
  have h_11 := hf_6.at (by omega) k4
  have h_12 := hf_6.at (by omega) k5
  have h_13 := IB.fr hi0 hf_6 (by omega)
  have h_14 := IB.fr hi1 hf_6 (by omega)
  have h_15 := TB.fr htx hf_6 (by omega)
  have h_16 := CB.fr htr hf_6 (by omega)
  have h_17 := RB.fr hrb hf_6 (by omega)
  have h_18 := EB.fr heb hf_6 (by omega)
  have h_19 := HB.fr hhb hf_6 (by omega)
  have fr_20 : Fr h h_3 b 367 := hf_6.wd (by omega) (by omega)
  refine z_i2l hx dX8_part_44 (by decide) ?_
  refine z_lret hx hr dX8_part_45 rfl (q_m (by unfold partA; (repeat (first | rw [if_pos (by omega)] | rw [if_neg (by omega)])); (try first | rfl | omega)) (by unfold partA; (repeat (first | rw [if_pos (by omega)] | rw [if_neg (by omega)])); show XC h_3 b (S 0) (S 1) (S 4) (S 5) (fup (S 6) 0 ((S 6) 0 + 1)) (S 7) ∧ Fr h h_3 b 367; exact ⟨⟨F, pi, Fs, kq, N, T, hs_5, KM.eq ⟨h_7, h_8, h_9, h_10, h_11, h_12⟩ (rfl) (rfl), h_13, h_14, h_15, h_16, h_17, h_18, h_19, ⟨hR, hPR, hNn⟩, htt⟩, fr_20⟩))

set_option maxHeartbeats 4000000 in
set_option maxRecDepth 20000 in
theorem kX8_lookAhead (g : Gt) {h : AH} {b : Nat} {la lb c0 c1 c2 : Int} {F : Nat → Int → Int} {pi : Int → Int} {Fs : Int → Nat → Int → Int} {m n kq : Int} {N : Nat → Int → Int} {f : Int → Int} {Ft : Nat → Int → Int} {mh : Int} (x0 : XO h b la lb c0 c1 c2) (hK : KM h (b + 1) F pi Fs m n kq N) (hR : RLC F f) (hI : inv f) (trm : CM h (b + 291) Ft) (hm : 0 ≤ mh ∧ mh ≤ 100) : CnV g mX8_lookAhead 8 [.ref b, .int (iI mh)] h (QR h (b + 291) (gon mh f)) := by
  refine Cn.mk (by decide +kernel) (Nat.le_of_ble_eq_true rfl) ?_
  intro x sz hx hr
  show Zj g x (sz, 0, 0) h 0 [(0, .ref b), (1, .int (iI mh))] []
  obtain ⟨k0, k1, k2, k3, k4, k5⟩ := hK
  have hn := hI.n
  have rn := hR.n
  refine z_aload_n hx dX8_lookAhead_0 rfl 0 rfl ?_
  refine z_get hx dX8_lookAhead_1 fl_X8_32 x0 rfl ?_
  refine z_aload_n hx dX8_lookAhead_4 rfl 0 rfl ?_
  refine z_get hx dX8_lookAhead_5 fl_X8_10 x0 rfl ?_
  refine z_get hx dX8_lookAhead_8 fl_X8_71 k0 rfl ?_
  refine z_cVV (as := [.ref ((b + 1) + 1)]) (rest := []) hx dX8_lookAhead_11 lk_X8_135 wm_X1_becomes wv_X1_becomes (rcv_obj hx (And.left trm) rfl) mo_X1_becomes (kX1_becomes g (F := Ft) (G := F) (f := f) trm k1 hR hI (by omega)) (by decide) rfl rfl (Nat.le_of_ble_eq_true rfl) (fun h_1 q_2 => ?_)
  obtain ⟨F_5, hC_3, hR_6, hf_4⟩ := q_2
  have h_7 := hf_4.at (by omega) x0
  have h_8 := hf_4.at (by omega) k0
  have h_9 := CM.fr k1 hf_4 (by omega)
  have h_10 := PM.fr k2 hf_4 (by omega)
  have h_11 := hf_4.at (by omega) k3
  have h_12 := hf_4.at (by omega) k4
  have h_13 := hf_4.at (by omega) k5
  have fr_14 : Fr h h_1 (b + 291) 10 := hf_4.wd (by omega) (by omega)
  refine z_aload_n hx dX8_lookAhead_14 rfl 0 rfl ?_
  refine z_get hx dX8_lookAhead_15 fl_X8_32 h_7 rfl ?_
  refine z_iload_n hx dX8_lookAhead_18 rfl 1 rfl ?_
  refine z_cVV (as := [.int (iI mh)]) (rest := []) hx dX8_lookAhead_19 lk_X8_148 wm_X1_passHours wv_X1_passHours (rcv_obj hx (And.left hC_3) rfl) mo_X1_passHours (kX1_passHours g (F := F_5) (f := f) (m := mh) hC_3 hR_6 hI  (show 0 ≤ mh ∧ mh ≤ 100 by omega)) (by decide) rfl rfl (Nat.le_of_ble_eq_true rfl) (fun h_15 q_16 => ?_)
  obtain ⟨F_19, hC_17, hR_20, hf_18⟩ := q_16
  obtain ⟨f_22, ef_22⟩ : ∃ G : Int → Int, G = gon mh f := ⟨_, rfl⟩
  rw [← ef_22] at hR_20
  have iv_23 := inv_gon hI (m := mh) (by omega)
  rw [← ef_22] at iv_23
  have h_24 := hf_18.at (by omega) h_7
  have h_25 := hf_18.at (by omega) h_8
  have h_26 := CM.fr h_9 hf_18 (by omega)
  have h_27 := PM.fr h_10 hf_18 (by omega)
  have h_28 := hf_18.at (by omega) h_11
  have h_29 := hf_18.at (by omega) h_12
  have h_30 := hf_18.at (by omega) h_13
  have fr_31 := fr_14.tr (hf_18.wd (by omega) (by omega))
  refine z_vret hx hr dX8_lookAhead_22 rfl (q_v ⟨F_19, hC_17, (by rw [← ef_22]; exact hR_20), fr_31⟩)

set_option maxHeartbeats 4000000 in
set_option maxRecDepth 20000 in
theorem kX8_then (g : Gt) {h : AH} {b : Nat} {S : Nat → Int → Int} {p : Int} {m : Int} {w : Int} (hX : XR h b S) (hV : invM S) (g_p : rgI p) (g_m : rgI m) (g_w : rgI w) : CnJ g mX8_then 9 [.ref b, .int (iI p), .int (iI m), .int (iI w)] h (thenA S p m w).1 (QX h b (thenA S p m w).2) := by
  refine Cn.mk (by decide +kernel) (Nat.le_of_ble_eq_true rfl) ?_
  intro x sz hx hr
  show Zj g x (sz, 0, 0) h 0 [(0, .ref b), (1, .int (iI p)), (2, .int (iI m)), (3, .int (iI w))] []
  have hX0 := hX
  obtain ⟨F, pi, Fs, kq, N, T, x0, hK, hi0, hi1, htx, htr, hrb, heb, hhb, ⟨hR, hPR, hNn⟩, htt⟩ := hX
  obtain ⟨k0, k1, k2, k3, k4, k5⟩ := hK
  have hN := hV.1
  have hI := hN.1
  have hn := hI.n
  have rn := hR.n
  have h58 : 0 ≤ S 1 58 ∧ S 1 58 ≤ 8 := ⟨(hI.rg 58 (by decide)).1, hN.2.2.2.1⟩
  have h39 : 0 ≤ S 1 39 ∧ S 1 39 ≤ 6 := ⟨(hI.rg 39 (by decide)).1, hN.2.2.1⟩
  have h0 : 0 ≤ S 1 0 ∧ S 1 0 ≤ 999 := ⟨hN.2.1.2, hN.2.1.1⟩
  have hmx : ∀ i, 0 ≤ i → i < S 1 58 → inv (mixF (S 1) i) := fun i a b => (hN.2.2.2.2.1 i a b).1
  have hno : ∀ i, 0 ≤ i → i < S 1 39 → S 1 (40 + 3 * i) < 5 ∧ S 1 (40 + 3 * i + 1) ≤ 40 ∧ S 1 (40 + 3 * i + 2) ≤ 9 := fun i a b => by have q := hN.2.2.2.2.2 i a b; rw [show 41 + 3 * i = 40 + 3 * i + 1 by omega, show 42 + 3 * i = 40 + 3 * i + 2 by omega] at q; exact q
  have hTo : outR (S 2) := hV.2.1
  have hL := hV.2.2.2.1
  have htt2 := hV.2.2.2.2.1
  obtain ⟨Ft, trm⟩ := htr
  have hIT : inv (cpn (S 1) (S 2)) := inv_T hV
  have cT : ∀ j, 0 ≤ j → j < 39 → cpn (S 1) (S 2) j = S 1 j := fun j x y => cpn_in ⟨x, by omega⟩
  have hRT : RLC F (cpn (S 1) (S 2)) := RLC_ext hR hn cT
  have cT37 := cT 37 (by decide) (by decide)
  refine z_aload_n hx dX8_then_0 rfl 0 rfl ?_
  refine z_iload_n hx dX8_then_1 rfl 1 rfl ?_
  refine z_cVI (as := [.int (iI p)]) (rest := []) hx dX8_then_2 lk_X8_194 wm_X8_isOneHunted wv_X8_isOneHunted (rcv_obj hx x0 rfl) mo_X8_isOneHunted (kX8_isOneHunted g (k := p) (F := F) (N := N) (f := (S 1)) x0 ⟨k0, k1, k2, k3, k4, k5⟩ hR hI (show rgI p by omega)) (by decide) rfl rfl (Nat.le_of_ble_eq_true rfl) ?_
  refine z_ifeq_b (tgt := 27) hx dX8_then_5 (by decide)  (fun c_1 => ?_) (fun c_1 => ?_)
  ·
    refine z_aload_n hx dX8_then_27 rfl 0 rfl ?_
    refine z_bipush hx dX8_then_28 (by decide) ?_
    refine z_cVJ (as := [.int (iI (-10))]) (rest := []) hx dX8_then_30 lk_X8_88 wm_X8_bad wv_X8_bad (rcv_obj hx x0 rfl) mo_X8_bad (kX8_bad g (v := (-10)) x0) (by decide) rfl rfl (Nat.le_of_ble_eq_true rfl) (fun h_2 q_3 => ?_)
    obtain ⟨hs_4, hf_5⟩ := q_3
    have h_6 := hf_5.at (by omega) k0
    have h_7 := CM.fr k1 hf_5 (by omega)
    have h_8 := PM.fr k2 hf_5 (by omega)
    have h_9 := hf_5.at (by omega) k3
    have h_10 := hf_5.at (by omega) k4
    have h_11 := hf_5.at (by omega) k5
    have h_12 := IB.fr hi0 hf_5 (by omega)
    have h_13 := IB.fr hi1 hf_5 (by omega)
    have h_14 := TB.fr htx hf_5 (by omega)
    have h_15 := RB.fr hrb hf_5 (by omega)
    have h_16 := EB.fr heb hf_5 (by omega)
    have h_17 := HB.fr hhb hf_5 (by omega)
    have h_18 := CM.fr trm hf_5 (by omega)
    have fr_19 : Fr h h_2 b 367 := hf_5.wd (by omega) (by omega)
    refine z_iret hx hr dX8_then_33 rfl rfl (q_j (by unfold thenA; (repeat (first | rw [if_pos (by omega)] | rw [if_neg (by omega)])); (try first | rfl | omega)) (by unfold thenA; (repeat (first | rw [if_pos (by omega)] | rw [if_neg (by omega)])); show XC h_2 b (S 0) (S 1) (S 4) (S 5) (fup (S 6) 0 ((S 6) 0 + 1)) (S 7) ∧ Fr h h_2 b 367; exact ⟨⟨F, pi, Fs, kq, N, T, hs_4, KM.eq ⟨h_6, h_7, h_8, h_9, h_10, h_11⟩ (rfl) (rfl), h_12, h_13, h_14, ⟨_, h_18⟩, h_15, h_16, h_17, ⟨hR, hPR, hNn⟩, htt⟩, fr_19⟩))
  ·
    refine z_iload_n hx dX8_then_8 rfl 2 rfl ?_
    refine z_iconst hx dX8_then_9 ?_
    refine z_bipush hx dX8_then_10 (by decide) ?_
    refine z_cSI (as := [.int (iI m), .int (iI 0), .int (iI 40)]) (rest := []) hx dX8_then_12 lk_X8_80 wt_X8_isIn mo_X8_isIn (kX8_isIn g (a := m) (b := 0) (c := 40) (by omega) (by omega) (by omega)) (by decide) rfl rfl (Nat.le_of_ble_eq_true rfl) ?_
    refine z_ifeq_b (tgt := 27) hx dX8_then_15 (by decide)  (fun c_20 => ?_) (fun c_20 => ?_)
    ·
      refine z_aload_n hx dX8_then_27 rfl 0 rfl ?_
      refine z_bipush hx dX8_then_28 (by decide) ?_
      refine z_cVJ (as := [.int (iI (-10))]) (rest := []) hx dX8_then_30 lk_X8_88 wm_X8_bad wv_X8_bad (rcv_obj hx x0 rfl) mo_X8_bad (kX8_bad g (v := (-10)) x0) (by decide) rfl rfl (Nat.le_of_ble_eq_true rfl) (fun h_21 q_22 => ?_)
      obtain ⟨hs_23, hf_24⟩ := q_22
      have h_25 := hf_24.at (by omega) k0
      have h_26 := CM.fr k1 hf_24 (by omega)
      have h_27 := PM.fr k2 hf_24 (by omega)
      have h_28 := hf_24.at (by omega) k3
      have h_29 := hf_24.at (by omega) k4
      have h_30 := hf_24.at (by omega) k5
      have h_31 := IB.fr hi0 hf_24 (by omega)
      have h_32 := IB.fr hi1 hf_24 (by omega)
      have h_33 := TB.fr htx hf_24 (by omega)
      have h_34 := RB.fr hrb hf_24 (by omega)
      have h_35 := EB.fr heb hf_24 (by omega)
      have h_36 := HB.fr hhb hf_24 (by omega)
      have h_37 := CM.fr trm hf_24 (by omega)
      have fr_38 : Fr h h_21 b 367 := hf_24.wd (by omega) (by omega)
      refine z_iret hx hr dX8_then_33 rfl rfl (q_j (by unfold thenA; (repeat (first | rw [if_pos (by omega)] | rw [if_neg (by omega)])); (try first | rfl | omega)) (by unfold thenA; (repeat (first | rw [if_pos (by omega)] | rw [if_neg (by omega)])); show XC h_21 b (S 0) (S 1) (S 4) (S 5) (fup (S 6) 0 ((S 6) 0 + 1)) (S 7) ∧ Fr h h_21 b 367; exact ⟨⟨F, pi, Fs, kq, N, T, hs_23, KM.eq ⟨h_25, h_26, h_27, h_28, h_29, h_30⟩ (rfl) (rfl), h_31, h_32, h_33, ⟨_, h_37⟩, h_34, h_35, h_36, ⟨hR, hPR, hNn⟩, htt⟩, fr_38⟩))
    ·
      refine z_iload_n hx dX8_then_18 rfl 3 rfl ?_
      refine z_iconst hx dX8_then_19 ?_
      refine z_iconst hx dX8_then_20 ?_
      refine z_cSI (as := [.int (iI w), .int (iI 0), .int (iI 2)]) (rest := []) hx dX8_then_21 lk_X8_80 wt_X8_isIn mo_X8_isIn (kX8_isIn g (a := w) (b := 0) (c := 2) (by omega) (by omega) (by omega)) (by decide) rfl rfl (Nat.le_of_ble_eq_true rfl) ?_
      refine z_ifne_b (tgt := 34) hx dX8_then_24 (by decide)  (fun c_39 => ?_) (fun c_39 => ?_)
      ·
        refine z_aload_n hx dX8_then_34 rfl 0 rfl ?_
        refine z_iload_n hx dX8_then_35 rfl 2 rfl ?_
        refine z_cVV (as := [.int (iI m)]) (rest := []) hx dX8_then_36 lk_X8_203 wm_X8_lookAhead wv_X8_lookAhead (rcv_obj hx x0 rfl) mo_X8_lookAhead (kX8_lookAhead g (mh := m) (F := F) (N := N) (f := (cpn (S 1) (S 2))) x0 ⟨k0, k1, k2, k3, k4, k5⟩ hRT hIT trm (by omega)) (by decide) rfl rfl (Nat.le_of_ble_eq_true rfl) (fun h_40 q_41 => ?_)
        obtain ⟨F_42, hC_43, hR_44, hf_45⟩ := q_41
        have h_46 := hf_45.at (by omega) x0
        have h_47 := hf_45.at (by omega) k0
        have h_48 := CM.fr k1 hf_45 (by omega)
        have h_49 := PM.fr k2 hf_45 (by omega)
        have h_50 := hf_45.at (by omega) k3
        have h_51 := hf_45.at (by omega) k4
        have h_52 := hf_45.at (by omega) k5
        have h_53 := IB.fr hi0 hf_45 (by omega)
        have h_54 := IB.fr hi1 hf_45 (by omega)
        have h_55 := TB.fr htx hf_45 (by omega)
        have h_56 := RB.fr hrb hf_45 (by omega)
        have h_57 := EB.fr heb hf_45 (by omega)
        have h_58 := HB.fr hhb hf_45 (by omega)
        have fr_59 : Fr h h_40 b 367 := hf_45.wd (by omega) (by omega)
        have hIg := inv_gon hIT (m := m) (by omega)
        have g37 := hIg.2 37 (by decide)
        refine z_aload_n hx dX8_then_39 rfl 0 rfl ?_
        refine z_get hx dX8_then_40 fl_X8_32 h_46 rfl ?_
        refine z_iload_n hx dX8_then_43 rfl 1 rfl ?_
        refine z_iload_n hx dX8_then_44 rfl 3 rfl ?_
        refine z_cVI (as := [.int (iI p), .int (iI w)]) (rest := []) hx dX8_then_45 lk_X8_197 wm_X1_tellOf wv_X1_tellOf (rcv_obj hx (And.left hC_43) rfl) mo_X1_tellOf (kX1_tellOf g (F := F_42) (f := (gon m (cpn (S 1) (S 2)))) (p := p) (w := w) hC_43 hR_44 hIg.1 (show 0 ≤ p ∧ p < (gon m (cpn (S 1) (S 2))) 37 by omega) (show 0 ≤ w ∧ w ≤ 2 by omega)) (by decide) rfl rfl (Nat.le_of_ble_eq_true rfl) ?_
        have f_60 := tel_rg hIg.1 (p := p) (w := w) (by have := (hIg.1).n; omega)
        refine z_iret hx hr dX8_then_48 rfl rfl (q_j (by unfold thenA; (repeat (first | rw [if_pos (by omega)] | rw [if_neg (by omega)])); (try first | rfl | omega)) (by unfold thenA; (repeat (first | rw [if_pos (by omega)] | rw [if_neg (by omega)])); show XC h_40 b (S 0) (S 1) (S 4) (S 5) (S 6) (S 7) ∧ Fr h h_40 b 367; exact ⟨⟨F, pi, Fs, kq, N, T, h_46, KM.eq ⟨h_47, h_48, h_49, h_50, h_51, h_52⟩ (rfl) (rfl), h_53, h_54, h_55, ⟨_, hC_43⟩, h_56, h_57, h_58, ⟨hR, hPR, hNn⟩, htt⟩, fr_59⟩))
      ·
        refine z_aload_n hx dX8_then_27 rfl 0 rfl ?_
        refine z_bipush hx dX8_then_28 (by decide) ?_
        refine z_cVJ (as := [.int (iI (-10))]) (rest := []) hx dX8_then_30 lk_X8_88 wm_X8_bad wv_X8_bad (rcv_obj hx x0 rfl) mo_X8_bad (kX8_bad g (v := (-10)) x0) (by decide) rfl rfl (Nat.le_of_ble_eq_true rfl) (fun h_61 q_62 => ?_)
        obtain ⟨hs_63, hf_64⟩ := q_62
        have h_65 := hf_64.at (by omega) k0
        have h_66 := CM.fr k1 hf_64 (by omega)
        have h_67 := PM.fr k2 hf_64 (by omega)
        have h_68 := hf_64.at (by omega) k3
        have h_69 := hf_64.at (by omega) k4
        have h_70 := hf_64.at (by omega) k5
        have h_71 := IB.fr hi0 hf_64 (by omega)
        have h_72 := IB.fr hi1 hf_64 (by omega)
        have h_73 := TB.fr htx hf_64 (by omega)
        have h_74 := RB.fr hrb hf_64 (by omega)
        have h_75 := EB.fr heb hf_64 (by omega)
        have h_76 := HB.fr hhb hf_64 (by omega)
        have h_77 := CM.fr trm hf_64 (by omega)
        have fr_78 : Fr h h_61 b 367 := hf_64.wd (by omega) (by omega)
        refine z_iret hx hr dX8_then_33 rfl rfl (q_j (by unfold thenA; (repeat (first | rw [if_pos (by omega)] | rw [if_neg (by omega)])); (try first | rfl | omega)) (by unfold thenA; (repeat (first | rw [if_pos (by omega)] | rw [if_neg (by omega)])); show XC h_61 b (S 0) (S 1) (S 4) (S 5) (fup (S 6) 0 ((S 6) 0 + 1)) (S 7) ∧ Fr h h_61 b 367; exact ⟨⟨F, pi, Fs, kq, N, T, hs_63, KM.eq ⟨h_65, h_66, h_67, h_68, h_69, h_70⟩ (rfl) (rfl), h_71, h_72, h_73, ⟨_, h_77⟩, h_74, h_75, h_76, ⟨hR, hPR, hNn⟩, htt⟩, fr_78⟩))

set_option maxHeartbeats 4000000 in
set_option maxRecDepth 20000 in
theorem kX8_fate (g : Gt) {h : AH} {b : Nat} {S : Nat → Int → Int} {m : Int} {w : Int} (hX : XR h b S) (hV : invM S) (g_m : rgI m) (g_w : rgI w) : CnJ g mX8_fate 9 [.ref b, .int (iI m), .int (iI w)] h (fateA S m w).1 (QX h b (fateA S m w).2) := by
  refine Cn.mk (by decide +kernel) (Nat.le_of_ble_eq_true rfl) ?_
  intro x sz hx hr
  show Zj g x (sz, 0, 0) h 0 [(0, .ref b), (1, .int (iI m)), (2, .int (iI w))] []
  have hX0 := hX
  obtain ⟨F, pi, Fs, kq, N, T, x0, hK, hi0, hi1, htx, htr, hrb, heb, hhb, ⟨hR, hPR, hNn⟩, htt⟩ := hX
  obtain ⟨k0, k1, k2, k3, k4, k5⟩ := hK
  have hN := hV.1
  have hI := hN.1
  have hn := hI.n
  have rn := hR.n
  have h58 : 0 ≤ S 1 58 ∧ S 1 58 ≤ 8 := ⟨(hI.rg 58 (by decide)).1, hN.2.2.2.1⟩
  have h39 : 0 ≤ S 1 39 ∧ S 1 39 ≤ 6 := ⟨(hI.rg 39 (by decide)).1, hN.2.2.1⟩
  have h0 : 0 ≤ S 1 0 ∧ S 1 0 ≤ 999 := ⟨hN.2.1.2, hN.2.1.1⟩
  have hmx : ∀ i, 0 ≤ i → i < S 1 58 → inv (mixF (S 1) i) := fun i a b => (hN.2.2.2.2.1 i a b).1
  have hno : ∀ i, 0 ≤ i → i < S 1 39 → S 1 (40 + 3 * i) < 5 ∧ S 1 (40 + 3 * i + 1) ≤ 40 ∧ S 1 (40 + 3 * i + 2) ≤ 9 := fun i a b => by have q := hN.2.2.2.2.2 i a b; rw [show 41 + 3 * i = 40 + 3 * i + 1 by omega, show 42 + 3 * i = 40 + 3 * i + 2 by omega] at q; exact q
  have hTo : outR (S 2) := hV.2.1
  have hL := hV.2.2.2.1
  have htt2 := hV.2.2.2.2.1
  obtain ⟨Ft, trm⟩ := htr
  have hIT : inv (cpn (S 1) (S 2)) := inv_T hV
  have cT : ∀ j, 0 ≤ j → j < 39 → cpn (S 1) (S 2) j = S 1 j := fun j x y => cpn_in ⟨x, by omega⟩
  have hRT : RLC F (cpn (S 1) (S 2)) := RLC_ext hR hn cT
  have cT37 := cT 37 (by decide) (by decide)
  refine z_iload_n hx dX8_fate_0 rfl 1 rfl ?_
  refine z_iconst hx dX8_fate_1 ?_
  refine z_bipush hx dX8_fate_2 (by decide) ?_
  refine z_cSI (as := [.int (iI m), .int (iI 0), .int (iI 40)]) (rest := []) hx dX8_fate_4 lk_X8_80 wt_X8_isIn mo_X8_isIn (kX8_isIn g (a := m) (b := 0) (c := 40) (by omega) (by omega) (by omega)) (by decide) rfl rfl (Nat.le_of_ble_eq_true rfl) ?_
  refine z_ifeq_b (tgt := 19) hx dX8_fate_7 (by decide)  (fun c_1 => ?_) (fun c_1 => ?_)
  ·
    refine z_aload_n hx dX8_fate_19 rfl 0 rfl ?_
    refine z_bipush hx dX8_fate_20 (by decide) ?_
    refine z_cVJ (as := [.int (iI (-2))]) (rest := []) hx dX8_fate_22 lk_X8_88 wm_X8_bad wv_X8_bad (rcv_obj hx x0 rfl) mo_X8_bad (kX8_bad g (v := (-2)) x0) (by decide) rfl rfl (Nat.le_of_ble_eq_true rfl) (fun h_2 q_3 => ?_)
    obtain ⟨hs_4, hf_5⟩ := q_3
    have h_6 := hf_5.at (by omega) k0
    have h_7 := CM.fr k1 hf_5 (by omega)
    have h_8 := PM.fr k2 hf_5 (by omega)
    have h_9 := hf_5.at (by omega) k3
    have h_10 := hf_5.at (by omega) k4
    have h_11 := hf_5.at (by omega) k5
    have h_12 := IB.fr hi0 hf_5 (by omega)
    have h_13 := IB.fr hi1 hf_5 (by omega)
    have h_14 := TB.fr htx hf_5 (by omega)
    have h_15 := RB.fr hrb hf_5 (by omega)
    have h_16 := EB.fr heb hf_5 (by omega)
    have h_17 := HB.fr hhb hf_5 (by omega)
    have h_18 := CM.fr trm hf_5 (by omega)
    have fr_19 : Fr h h_2 b 367 := hf_5.wd (by omega) (by omega)
    refine z_iret hx hr dX8_fate_25 rfl rfl (q_j (by unfold fateA; (repeat (first | rw [if_pos (by omega)] | rw [if_neg (by omega)])); (try first | rfl | exact ew)) (by unfold fateA; (repeat (first | rw [if_pos (by omega)] | rw [if_neg (by omega)])); show XC h_2 b (S 0) (S 1) (S 4) (S 5) (fup (S 6) 0 ((S 6) 0 + 1)) (S 7) ∧ Fr h h_2 b 367; exact ⟨⟨F, pi, Fs, kq, N, T, hs_4, KM.eq ⟨h_6, h_7, h_8, h_9, h_10, h_11⟩ (rfl) (rfl), h_12, h_13, h_14, ⟨_, h_18⟩, h_15, h_16, h_17, ⟨hR, hPR, hNn⟩, htt⟩, fr_19⟩))
  ·
    refine z_iload_n hx dX8_fate_10 rfl 2 rfl ?_
    refine z_iconst hx dX8_fate_11 ?_
    refine z_iconst hx dX8_fate_12 ?_
    refine z_cSI (as := [.int (iI w), .int (iI 0), .int (iI 2)]) (rest := []) hx dX8_fate_13 lk_X8_80 wt_X8_isIn mo_X8_isIn (kX8_isIn g (a := w) (b := 0) (c := 2) (by omega) (by omega) (by omega)) (by decide) rfl rfl (Nat.le_of_ble_eq_true rfl) ?_
    refine z_ifne_b (tgt := 26) hx dX8_fate_16 (by decide)  (fun c_20 => ?_) (fun c_20 => ?_)
    ·
      refine z_aload_n hx dX8_fate_26 rfl 0 rfl ?_
      refine z_iload_n hx dX8_fate_27 rfl 1 rfl ?_
      refine z_cVV (as := [.int (iI m)]) (rest := []) hx dX8_fate_28 lk_X8_203 wm_X8_lookAhead wv_X8_lookAhead (rcv_obj hx x0 rfl) mo_X8_lookAhead (kX8_lookAhead g (mh := m) (F := F) (N := N) (f := (cpn (S 1) (S 2))) x0 ⟨k0, k1, k2, k3, k4, k5⟩ hRT hIT trm (by omega)) (by decide) rfl rfl (Nat.le_of_ble_eq_true rfl) (fun h_21 q_22 => ?_)
      obtain ⟨F_23, hC_24, hR_25, hf_26⟩ := q_22
      have h_27 := hf_26.at (by omega) x0
      have h_28 := hf_26.at (by omega) k0
      have h_29 := CM.fr k1 hf_26 (by omega)
      have h_30 := PM.fr k2 hf_26 (by omega)
      have h_31 := hf_26.at (by omega) k3
      have h_32 := hf_26.at (by omega) k4
      have h_33 := hf_26.at (by omega) k5
      have h_34 := IB.fr hi0 hf_26 (by omega)
      have h_35 := IB.fr hi1 hf_26 (by omega)
      have h_36 := TB.fr htx hf_26 (by omega)
      have h_37 := RB.fr hrb hf_26 (by omega)
      have h_38 := EB.fr heb hf_26 (by omega)
      have h_39 := HB.fr hhb hf_26 (by omega)
      have fr_40 : Fr h h_21 b 367 := hf_26.wd (by omega) (by omega)
      have hIg := inv_gon hIT (m := m) (by omega)
      have g37 := hIg.2 37 (by decide)
      refine z_iload_n hx dX8_fate_31 rfl 2 rfl ?_
      by_cases c_41 : w = 0
      ·
        refine z_lookup (off := 28) (tgt := 60) hx dX8_fate_32 (by omega) (by decide) (by rw [c_41]; decide) (by decide) ?_
        refine z_aload_n hx dX8_fate_60 rfl 0 rfl ?_
        refine z_get hx dX8_fate_61 fl_X8_32 h_27 rfl ?_
        refine z_cVI (as := []) (rest := []) hx dX8_fate_64 lk_X8_151 wm_X1_manyTaken wv_X1_manyTaken (rcv_obj hx (And.left hC_24) rfl) mo_X1_manyTaken (kX1_manyTaken g (F := F_23) (f := (gon m (cpn (S 1) (S 2))))  hC_24 hR_25 hIg.1 ) (by decide) rfl rfl (Nat.le_of_ble_eq_true rfl) ?_
        have f_42 := popc_rg (v := tkn (gon m (cpn (S 1) (S 2))))
        have f_43 := tkn_rg hIg.1
        refine z_iret hx hr dX8_fate_67 rfl rfl (q_j (by unfold fateA; (repeat (first | rw [if_pos (by omega)] | rw [if_neg (by omega)])); (try first | rfl | exact ew)) (by unfold fateA; (repeat (first | rw [if_pos (by omega)] | rw [if_neg (by omega)])); show XC h_21 b (S 0) (S 1) (S 4) (S 5) (S 6) (S 7) ∧ Fr h h_21 b 367; exact ⟨⟨F, pi, Fs, kq, N, T, h_27, KM.eq ⟨h_28, h_29, h_30, h_31, h_32, h_33⟩ (rfl) (rfl), h_34, h_35, h_36, ⟨_, hC_24⟩, h_37, h_38, h_39, ⟨hR, hPR, hNn⟩, htt⟩, fr_40⟩))
      by_cases c_44 : w = 1
      ·
        refine z_lookup (off := 36) (tgt := 68) hx dX8_fate_32 (by omega) (by decide) (by rw [c_44]; decide) (by decide) ?_
        refine z_aload_n hx dX8_fate_68 rfl 0 rfl ?_
        refine z_get hx dX8_fate_69 fl_X8_32 h_27 rfl ?_
        refine z_bipush hx dX8_fate_72 (by decide) ?_
        refine z_cVI (as := [.int (iI (-2))]) (rest := []) hx dX8_fate_74 lk_X8_191 wm_X1_whoIs wv_X1_whoIs (rcv_obj hx (And.left hC_24) rfl) mo_X1_whoIs (kX1_whoIs g (F := F_23) (f := (gon m (cpn (S 1) (S 2)))) (v := (-2)) hC_24 hR_25 hIg.1 (show rgI (-2) by omega)) (by decide) rfl rfl (Nat.le_of_ble_eq_true rfl) ?_
        have f_45 := who_rg hIg.1 (-2)
        have ew : who (gon m (cpn (S 1) (S 2))) (-2) = tkn (gon m (cpn (S 1) (S 2))) := who_tkn hIg.1
        refine z_iret hx hr dX8_fate_77 rfl rfl (q_j (by unfold fateA; (repeat (first | rw [if_pos (by omega)] | rw [if_neg (by omega)])); (try first | rfl | exact ew)) (by unfold fateA; (repeat (first | rw [if_pos (by omega)] | rw [if_neg (by omega)])); show XC h_21 b (S 0) (S 1) (S 4) (S 5) (S 6) (S 7) ∧ Fr h h_21 b 367; exact ⟨⟨F, pi, Fs, kq, N, T, h_27, KM.eq ⟨h_28, h_29, h_30, h_31, h_32, h_33⟩ (rfl) (rfl), h_34, h_35, h_36, ⟨_, hC_24⟩, h_37, h_38, h_39, ⟨hR, hPR, hNn⟩, htt⟩, fr_40⟩))
      refine z_lookup (off := 46) (tgt := 78) hx dX8_fate_32 (by omega) (by decide) (by simp [Op.lookupswitch.offset, c_41, Ne.symm c_41, c_44, Ne.symm c_44]) (by decide) ?_
      refine z_aload_n hx dX8_fate_78 rfl 0 rfl ?_
      refine z_get hx dX8_fate_79 fl_X8_32 h_27 rfl ?_
      refine z_cVI (as := []) (rest := []) hx dX8_fate_82 lk_X8_206 wm_X1_manyUnder_ wv_X1_manyUnder_ (rcv_obj hx (And.left hC_24) rfl) mo_X1_manyUnder_ (kX1_manyUnder_ g (F := F_23) (f := (gon m (cpn (S 1) (S 2))))  hC_24 hR_25 hIg.1 ) (by decide) rfl rfl (Nat.le_of_ble_eq_true rfl) ?_
      have f_46 := una_rg hIg.1
      refine z_iret hx hr dX8_fate_85 rfl rfl (q_j (by unfold fateA; (repeat (first | rw [if_pos (by omega)] | rw [if_neg (by omega)])); (try first | rfl | exact ew)) (by unfold fateA; (repeat (first | rw [if_pos (by omega)] | rw [if_neg (by omega)])); show XC h_21 b (S 0) (S 1) (S 4) (S 5) (S 6) (S 7) ∧ Fr h h_21 b 367; exact ⟨⟨F, pi, Fs, kq, N, T, h_27, KM.eq ⟨h_28, h_29, h_30, h_31, h_32, h_33⟩ (rfl) (rfl), h_34, h_35, h_36, ⟨_, hC_24⟩, h_37, h_38, h_39, ⟨hR, hPR, hNn⟩, htt⟩, fr_40⟩))
    ·
      refine z_aload_n hx dX8_fate_19 rfl 0 rfl ?_
      refine z_bipush hx dX8_fate_20 (by decide) ?_
      refine z_cVJ (as := [.int (iI (-2))]) (rest := []) hx dX8_fate_22 lk_X8_88 wm_X8_bad wv_X8_bad (rcv_obj hx x0 rfl) mo_X8_bad (kX8_bad g (v := (-2)) x0) (by decide) rfl rfl (Nat.le_of_ble_eq_true rfl) (fun h_47 q_48 => ?_)
      obtain ⟨hs_49, hf_50⟩ := q_48
      have h_51 := hf_50.at (by omega) k0
      have h_52 := CM.fr k1 hf_50 (by omega)
      have h_53 := PM.fr k2 hf_50 (by omega)
      have h_54 := hf_50.at (by omega) k3
      have h_55 := hf_50.at (by omega) k4
      have h_56 := hf_50.at (by omega) k5
      have h_57 := IB.fr hi0 hf_50 (by omega)
      have h_58 := IB.fr hi1 hf_50 (by omega)
      have h_59 := TB.fr htx hf_50 (by omega)
      have h_60 := RB.fr hrb hf_50 (by omega)
      have h_61 := EB.fr heb hf_50 (by omega)
      have h_62 := HB.fr hhb hf_50 (by omega)
      have h_63 := CM.fr trm hf_50 (by omega)
      have fr_64 : Fr h h_47 b 367 := hf_50.wd (by omega) (by omega)
      refine z_iret hx hr dX8_fate_25 rfl rfl (q_j (by unfold fateA; (repeat (first | rw [if_pos (by omega)] | rw [if_neg (by omega)])); (try first | rfl | exact ew)) (by unfold fateA; (repeat (first | rw [if_pos (by omega)] | rw [if_neg (by omega)])); show XC h_47 b (S 0) (S 1) (S 4) (S 5) (fup (S 6) 0 ((S 6) 0 + 1)) (S 7) ∧ Fr h h_47 b 367; exact ⟨⟨F, pi, Fs, kq, N, T, hs_49, KM.eq ⟨h_51, h_52, h_53, h_54, h_55, h_56⟩ (rfl) (rfl), h_57, h_58, h_59, ⟨_, h_63⟩, h_60, h_61, h_62, ⟨hR, hPR, hNn⟩, htt⟩, fr_64⟩))

set_option maxHeartbeats 4000000 in
set_option maxRecDepth 20000 in
theorem kX8_when (g : Gt) {h : AH} {b : Nat} {S : Nat → Int → Int} {p : Int} (hX : XR h b S) (hV : invM S) (g_p : rgI p) : CnJ g mX8_when 8 [.ref b, .int (iI p)] h (whenA S p).1 (QX h b (whenA S p).2) := by
  refine Cn.mk (by decide +kernel) (Nat.le_of_ble_eq_true rfl) ?_
  intro x sz hx hr
  show Zj g x (sz, 0, 0) h 0 [(0, .ref b), (1, .int (iI p))] []
  have hX0 := hX
  obtain ⟨F, pi, Fs, kq, N, T, x0, hK, hi0, hi1, htx, htr, hrb, heb, hhb, ⟨hR, hPR, hNn⟩, htt⟩ := hX
  obtain ⟨k0, k1, k2, k3, k4, k5⟩ := hK
  have hN := hV.1
  have hI := hN.1
  have hn := hI.n
  have rn := hR.n
  have h58 : 0 ≤ S 1 58 ∧ S 1 58 ≤ 8 := ⟨(hI.rg 58 (by decide)).1, hN.2.2.2.1⟩
  have h39 : 0 ≤ S 1 39 ∧ S 1 39 ≤ 6 := ⟨(hI.rg 39 (by decide)).1, hN.2.2.1⟩
  have h0 : 0 ≤ S 1 0 ∧ S 1 0 ≤ 999 := ⟨hN.2.1.2, hN.2.1.1⟩
  have hmx : ∀ i, 0 ≤ i → i < S 1 58 → inv (mixF (S 1) i) := fun i a b => (hN.2.2.2.2.1 i a b).1
  have hno : ∀ i, 0 ≤ i → i < S 1 39 → S 1 (40 + 3 * i) < 5 ∧ S 1 (40 + 3 * i + 1) ≤ 40 ∧ S 1 (40 + 3 * i + 2) ≤ 9 := fun i a b => by have q := hN.2.2.2.2.2 i a b; rw [show 41 + 3 * i = 40 + 3 * i + 1 by omega, show 42 + 3 * i = 40 + 3 * i + 2 by omega] at q; exact q
  have hTo : outR (S 2) := hV.2.1
  have hL := hV.2.2.2.1
  have htt2 := hV.2.2.2.2.1
  obtain ⟨Ft, trm⟩ := htr
  have hIT : inv (cpn (S 1) (S 2)) := inv_T hV
  have cT : ∀ j, 0 ≤ j → j < 39 → cpn (S 1) (S 2) j = S 1 j := fun j x y => cpn_in ⟨x, by omega⟩
  have hRT : RLC F (cpn (S 1) (S 2)) := RLC_ext hR hn cT
  have cT37 := cT 37 (by decide) (by decide)
  have cTp : 0 ≤ p → p < 6 → cpn (S 1) (S 2) (17 + p) = S 1 (17 + p) := fun x y => cT _ (by omega) (by omega)
  refine z_aload_n hx dX8_when_0 rfl 0 rfl ?_
  refine z_iload_n hx dX8_when_1 rfl 1 rfl ?_
  refine z_cVI (as := [.int (iI p)]) (rest := []) hx dX8_when_2 lk_X8_194 wm_X8_isOneHunted wv_X8_isOneHunted (rcv_obj hx x0 rfl) mo_X8_isOneHunted (kX8_isOneHunted g (k := p) (F := F) (N := N) (f := (S 1)) x0 ⟨k0, k1, k2, k3, k4, k5⟩ hR hI (show rgI p by omega)) (by decide) rfl rfl (Nat.le_of_ble_eq_true rfl) ?_
  refine z_ifne_b (tgt := 15) hx dX8_when_5 (by decide)  (fun c_1 => ?_) (fun c_1 => ?_)
  ·
    refine z_aload_n hx dX8_when_15 rfl 0 rfl ?_
    refine z_get hx dX8_when_16 fl_X8_10 x0 rfl ?_
    refine z_get hx dX8_when_19 fl_X8_71 k0 rfl ?_
    refine z_get hx dX8_when_22 fl_X8_209 k1.1 rfl ?_
    refine z_iload_n hx dX8_when_25 rfl 1 rfl ?_
    refine z_iald hx dX8_when_26 k1.2.2.2.2.2.2.1 (by omega) (by decide) ?_
    have rp_2 := hR.p p (by first | omega | decide)
    have ip_3 := hI.p p (by first | omega | decide)
    have cc_4 := cv_c ((S 1) (17 + p))
    have cv0 := cv_c (S 1 (17 + p))
    refine z_bipush hx dX8_when_27 (by decide) ?_
    refine z_icmp_ne (tgt := 34) hx dX8_when_29 (by decide) (by omega) (by decide) (fun c_5 => ?_) (fun c_5 => ?_)
    ·
      refine z_aload_n hx dX8_when_34 rfl 0 rfl ?_
      refine z_get hx dX8_when_35 fl_X8_32 x0 rfl ?_
      refine z_aload_n hx dX8_when_38 rfl 0 rfl ?_
      refine z_get hx dX8_when_39 fl_X8_10 x0 rfl ?_
      refine z_get hx dX8_when_42 fl_X8_71 k0 rfl ?_
      refine z_cVV (as := [.ref ((b + 1) + 1)]) (rest := []) hx dX8_when_45 lk_X8_135 wm_X1_becomes wv_X1_becomes (rcv_obj hx (And.left trm) rfl) mo_X1_becomes (kX1_becomes g (F := Ft) (G := F) (f := (cpn (S 1) (S 2))) trm k1 hRT hIT (by omega)) (by decide) rfl rfl (Nat.le_of_ble_eq_true rfl) (fun h_6 q_7 => ?_)
      obtain ⟨F_10, hC_8, hR_11, hf_9⟩ := q_7
      have h_12 := hf_9.at (by omega) x0
      have h_13 := hf_9.at (by omega) k0
      have h_14 := CM.fr k1 hf_9 (by omega)
      have h_15 := PM.fr k2 hf_9 (by omega)
      have h_16 := hf_9.at (by omega) k3
      have h_17 := hf_9.at (by omega) k4
      have h_18 := hf_9.at (by omega) k5
      have h_19 := IB.fr hi0 hf_9 (by omega)
      have h_20 := IB.fr hi1 hf_9 (by omega)
      have h_21 := TB.fr htx hf_9 (by omega)
      have h_22 := RB.fr hrb hf_9 (by omega)
      have h_23 := EB.fr heb hf_9 (by omega)
      have h_24 := HB.fr hhb hf_9 (by omega)
      have fr_25 : Fr h h_6 b 367 := hf_9.wd (by omega) (by omega)
      refine z_iconst hx dX8_when_48 ?_
      refine z_istore_n hx dX8_when_49 rfl (by decide) [1, 2, 0] (lv' := [(0, .ref b), (1, .int (iI p)), (2, .int (iI 1))]) rfl ?_
      have hL_26 : ∀ (mm : Nat) (v2 : Int) (gF : Nat → Int → Int) (gf : Int → Int) (h_27 : AH), (1 ≤ v2 ∧ v2 ≤ 41) → (RLC gF gf) → (inv gf ∧ cfx (cpn (S 1) (S 2)) gf) → (gf (17 + p) ≠ 6) → (whN p (41 - v2).toNat v2 gf = whN p 40 1 (cpn (S 1) (S 2))) → (h_27 b = some (.inr (.inr (0, [.ref (b + 1), .ref (b + 97), .ref (b + 193), .ref (b + 289), .ref (b + 291), .ref (b + 301), .ref (b + 313), .ref (b + 366), .long (lI (S 0 6)), .long (lI (S 0 7)), .int (iI (S 6 0)), .int (iI (S 6 1)), .int (iI (S 6 2))])))) → (h_27 (b + 1) = some (.inr (.inr (3, [.ref ((b + 1) + 1), .ref ((b + 1) + 11), .ref ((b + 1) + 93), .ref ((b + 1) + 94), .ref ((b + 1) + 95), .int (iI (S 1 39)), .int (iI kq)])))) → (CM h_27 ((b + 1) + 1) F) → (PM h_27 ((b + 1) + 11) pi Fs (S 1 58)) → (h_27 ((b + 1) + 93) = some (.inl (0, 6, N 0))) → (h_27 ((b + 1) + 94) = some (.inl (0, 6, N 1))) → (h_27 ((b + 1) + 95) = some (.inl (0, 6, N 2))) → (IB h_27 (b + 97) (S 5 0) (img (S 4) 0)) → (IB h_27 (b + 193) (S 5 1) (img (S 4) 1)) → (TB h_27 (b + 289) T (S 0 8)) → (RB h_27 (b + 301)) → (EB h_27 (b + 313)) → (HB h_27 (b + 366)) → (CM h_27 (b + 291) gF) → (Fr h h_27 b 367) → (41 : Int) - v2 < (mm : Int) → Zj g x (sz, 0, 0) h_27 50 [(0, .ref b), (1, .int (iI p)), (2, .int (iI v2))] [] := by
        intro mm
        induction mm with
        | zero => intro v2 gF gf h_27 kv hrl ig e6 eg hk_28 hk_29 hk_30 hk_31 hk_32 hk_33 hk_34 hk_35 hk_36 hk_37 hk_38 hk_39 hk_40 hk_41 fr_42 hm; exfalso; omega
        | succ mm ih =>
          intro v2 gF gf h_27 kv hrl ig e6 eg hk_28 hk_29 hk_30 hk_31 hk_32 hk_33 hk_34 hk_35 hk_36 hk_37 hk_38 hk_39 hk_40 hk_41 fr_42 hm
          have ih_43 := ih; clear ih
          have hn2 := ig.1.n
          have g37 := ig.2 37 (by decide)
          refine z_iload_n hx dX8_when_50 rfl 2 rfl ?_
          refine z_bipush hx dX8_when_51 (by decide) ?_
          refine z_icmp_gt (tgt := 86) hx dX8_when_53 (by decide) (by omega) (by decide) (fun c_44 => ?_) (fun c_44 => ?_)
          ·
            have eW : (whN p 40 1 (cpn (S 1) (S 2))).1 = -1 := by rw [← eg, whN_z (by omega)]
            refine z_iconst hx dX8_when_86 ?_
            refine z_iret hx hr dX8_when_87 rfl rfl (q_j (by unfold whenA; (repeat (first | rw [if_pos (by omega)] | rw [if_neg (by omega)])); (try dsimp only); (try first | exact eW | exact eW.symm | rfl)) (by unfold whenA; (repeat (first | rw [if_pos (by omega)] | rw [if_neg (by omega)])); show XC h_27 b (S 0) (S 1) (S 4) (S 5) (S 6) (S 7) ∧ Fr h h_27 b 367; exact ⟨⟨F, pi, Fs, kq, N, T, hk_28, KM.eq ⟨hk_29, hk_30, hk_31, hk_32, hk_33, hk_34⟩ (rfl) (rfl), hk_35, hk_36, hk_37, ⟨_, hk_41⟩, hk_38, hk_39, hk_40, ⟨hR, hPR, hNn⟩, htt⟩, fr_42⟩))
          ·
            refine z_aload_n hx dX8_when_56 rfl 0 rfl ?_
            refine z_get hx dX8_when_57 fl_X8_32 hk_28 rfl ?_
            refine z_iconst hx dX8_when_60 ?_
            refine z_cVV (as := [.int (iI 1)]) (rest := []) hx dX8_when_61 lk_X8_148 wm_X1_passHours wv_X1_passHours (rcv_obj hx (And.left hk_41) rfl) mo_X1_passHours (kX1_passHours g (F := gF) (f := gf) (m := 1) hk_41 hrl ig.1  (show 0 ≤ 1 ∧ 1 ≤ 100 by omega)) (by decide) rfl rfl (Nat.le_of_ble_eq_true rfl) (fun h_45 q_46 => ?_)
            obtain ⟨F_49, hC_47, hR_50, hf_48⟩ := q_46
            obtain ⟨f_52, ef_52⟩ : ∃ G : Int → Int, G = gon 1 gf := ⟨_, rfl⟩
            rw [← ef_52] at hR_50
            have iv_53 := inv_gon ig.1 (m := 1) (by omega)
            rw [← ef_52] at iv_53
            have h_54 := hf_48.at (by omega) hk_28
            have h_55 := hf_48.at (by omega) hk_29
            have h_56 := CM.fr hk_30 hf_48 (by omega)
            have h_57 := PM.fr hk_31 hf_48 (by omega)
            have h_58 := hf_48.at (by omega) hk_32
            have h_59 := hf_48.at (by omega) hk_33
            have h_60 := hf_48.at (by omega) hk_34
            have h_61 := IB.fr hk_35 hf_48 (by omega)
            have h_62 := IB.fr hk_36 hf_48 (by omega)
            have h_63 := TB.fr hk_37 hf_48 (by omega)
            have h_64 := RB.fr hk_38 hf_48 (by omega)
            have h_65 := EB.fr hk_39 hf_48 (by omega)
            have h_66 := HB.fr hk_40 hf_48 (by omega)
            have fr_67 := fr_42.tr (hf_48.wd (by omega) (by omega))
            have t37 := iv_53.2 37 (by decide)
            have rp9 := hR_50.p p (by omega)
            have cv9 := cv_c (f_52 (17 + p))
            refine z_aload_n hx dX8_when_64 rfl 0 rfl ?_
            refine z_get hx dX8_when_65 fl_X8_32 h_54 rfl ?_
            refine z_get hx dX8_when_68 fl_X8_209 hC_47.1 rfl ?_
            refine z_iload_n hx dX8_when_71 rfl 1 rfl ?_
            refine z_iald hx dX8_when_72 hC_47.2.2.2.2.2.2.1 (by omega) (by decide) ?_
            have rp_68 := hR_50.p p (by first | omega | decide)
            have ip_69 := iv_53.1.p p (by first | omega | decide)
            have cc_70 := cv_c (f_52 (17 + p))
            refine z_bipush hx dX8_when_73 (by decide) ?_
            refine z_icmp_ne (tgt := 80) hx dX8_when_75 (by decide) (by omega) (by decide) (fun c_71 => ?_) (fun c_71 => ?_)
            ·
              refine z_iinc hx dX8_when_80 (by decide) 2 rfl [1, 2, 0] (lv' := [(0, .ref b), (1, .int (iI p)), (2, .int (iI (v2 + 1)))]) rfl ?_
              refine z_goto (tgt := 50) hx dX8_when_83 (by decide) ?_
              have ec : f_52 = goBy gf := ef_52.trans rfl
              have c6 : goBy gf (17 + p) ≠ 6 := by rw [← ec]; omega
              exact ih_43 _ F_49 f_52 _ (by omega) (by exact hR_50) (by rw [ec]; exact ⟨(inv_goBy ig.1).1, ig.2.tr (inv_goBy ig.1).2⟩) (by rw [ec]; exact c6) (by rw [ec, ← whN_s (by omega) e6 c6]; exact eg) h_54 h_55 h_56 h_57 h_58 h_59 h_60 h_61 h_62 h_63 h_64 h_65 h_66 hC_47 fr_67 (by omega)
            ·
              have ec : f_52 = goBy gf := ef_52.trans rfl
              have eW : (whN p 40 1 (cpn (S 1) (S 2))).1 = v2 := by rw [← eg, whN_t (by omega) e6 (by rw [← ec]; omega)]
              refine z_iload_n hx dX8_when_78 rfl 2 rfl ?_
              refine z_iret hx hr dX8_when_79 rfl rfl (q_j (by unfold whenA; (repeat (first | rw [if_pos (by omega)] | rw [if_neg (by omega)])); (try dsimp only); (try first | exact eW | exact eW.symm | rfl)) (by unfold whenA; (repeat (first | rw [if_pos (by omega)] | rw [if_neg (by omega)])); show XC h_45 b (S 0) (S 1) (S 4) (S 5) (S 6) (S 7) ∧ Fr h h_45 b 367; exact ⟨⟨F, pi, Fs, kq, N, T, h_54, KM.eq ⟨h_55, h_56, h_57, h_58, h_59, h_60⟩ (rfl) (rfl), h_61, h_62, h_63, ⟨_, hC_47⟩, h_64, h_65, h_66, ⟨hR, hPR, hNn⟩, htt⟩, fr_67⟩))
      exact hL_26 (((41 : Int) - 1) + 1 : Int).toNat _ F_10 (cpn (S 1) (S 2)) _ (by omega) (by exact hR_11) (by exact ⟨hIT, cfx.rf⟩) (by omega) (by rfl) h_12 h_13 h_14 h_15 h_16 h_17 h_18 h_19 h_20 h_21 h_22 h_23 h_24 hC_8 fr_25 (by omega)
    ·
      have eW : (whN p 40 1 (cpn (S 1) (S 2))).1 = -1 := congrArg Prod.fst (whN_6 (p := p) (m := 1) (T := cpn (S 1) (S 2)) (by rw [cTp (by omega) (by omega)]; omega))
      refine z_iconst hx dX8_when_32 ?_
      refine z_iret hx hr dX8_when_33 rfl rfl (q_j (by unfold whenA; (repeat (first | rw [if_pos (by omega)] | rw [if_neg (by omega)])); (try dsimp only); (try first | exact eW | exact eW.symm | rfl)) (by unfold whenA; (repeat (first | rw [if_pos (by omega)] | rw [if_neg (by omega)])); show XC h b (S 0) (S 1) (S 4) (S 5) (S 6) (S 7) ∧ Fr h h b 367; exact ⟨⟨F, pi, Fs, kq, N, T, x0, KM.eq ⟨k0, k1, k2, k3, k4, k5⟩ (rfl) (rfl), hi0, hi1, htx, ⟨_, trm⟩, hrb, heb, hhb, ⟨hR, hPR, hNn⟩, htt⟩, Fr.rf⟩))
  ·
    refine z_aload_n hx dX8_when_8 rfl 0 rfl ?_
    refine z_bipush hx dX8_when_9 (by decide) ?_
    refine z_cVJ (as := [.int (iI (-2))]) (rest := []) hx dX8_when_11 lk_X8_88 wm_X8_bad wv_X8_bad (rcv_obj hx x0 rfl) mo_X8_bad (kX8_bad g (v := (-2)) x0) (by decide) rfl rfl (Nat.le_of_ble_eq_true rfl) (fun h_72 q_73 => ?_)
    obtain ⟨hs_74, hf_75⟩ := q_73
    have h_76 := hf_75.at (by omega) k0
    have h_77 := CM.fr k1 hf_75 (by omega)
    have h_78 := PM.fr k2 hf_75 (by omega)
    have h_79 := hf_75.at (by omega) k3
    have h_80 := hf_75.at (by omega) k4
    have h_81 := hf_75.at (by omega) k5
    have h_82 := IB.fr hi0 hf_75 (by omega)
    have h_83 := IB.fr hi1 hf_75 (by omega)
    have h_84 := TB.fr htx hf_75 (by omega)
    have h_85 := RB.fr hrb hf_75 (by omega)
    have h_86 := EB.fr heb hf_75 (by omega)
    have h_87 := HB.fr hhb hf_75 (by omega)
    have h_88 := CM.fr trm hf_75 (by omega)
    have fr_89 : Fr h h_72 b 367 := hf_75.wd (by omega) (by omega)
    refine z_iret hx hr dX8_when_14 rfl rfl (q_j (by unfold whenA; (repeat (first | rw [if_pos (by omega)] | rw [if_neg (by omega)])); (try dsimp only); (try first | exact eW | exact eW.symm | rfl)) (by unfold whenA; (repeat (first | rw [if_pos (by omega)] | rw [if_neg (by omega)])); show XC h_72 b (S 0) (S 1) (S 4) (S 5) (fup (S 6) 0 ((S 6) 0 + 1)) (S 7) ∧ Fr h h_72 b 367; exact ⟨⟨F, pi, Fs, kq, N, T, hs_74, KM.eq ⟨h_76, h_77, h_78, h_79, h_80, h_81⟩ (rfl) (rfl), h_82, h_83, h_84, ⟨_, h_88⟩, h_85, h_86, h_87, ⟨hR, hPR, hNn⟩, htt⟩, fr_89⟩))

