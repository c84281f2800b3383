/-! THE CLAIM OUT OF ONE WALK OF THE LAW'S BODY. Your part is whole_start (and what it stands on); all else here is the same for every law, but numbers. -/
def R_law : String := "CosyAsylumLaw"
def lw_P (b : Addr) (xs : List Int32) (args : Array Value) (s : State) : Prop := args = #[.ref b] ∧ s.IntsAt b xs ∧ xs.length ≤ 256 ∧ (Jvm.Cond.and given_1 narrow_1).before args s = true
def lw_Q (_ : Array Value) (s : State) (o : Outcome) (t : State) : Prop := o = .returned (some (.int 1)) ∧ Framed s o t [] 600000 7302250
def lw_Z (below : List Frame) (a : Array Value) (s : State) : State → Prop := fun t => ∃ o, t.status = .running ∧ Ended t below o ∧ lw_Q a s o t
/-- the law's own end, with 1 on the stack, nothing written that was there before, its room as the claim has it -/
theorem lw_ret {p : Program} {l : Launch} {e : Env} {s : State} {m : MethodId} {below : List Frame} {meth : Method} {c : Code} {b : Nat} (hx : p.tables.exec = Jvm.exec) (hb : c.code = code) (hr : meth.sig.returnType = ret) (hlocks : meth.locks = false) {pc : Nat} {H : Heap} {ls : Array Slot} (hdg : decode code pc = .ok (.ireturn, 1)) : W p l e room_1 s m #[Value.ref b] below meth c H [] 600000 7302250 (lw_Z below #[Value.ref b] s) (F0 m pc ls [.int 1]) := by
  intro T hT X
  obtain ⟨fs, hret, hrun, hended, hW, hframe⟩ := X.leave (v := some (.int 1)) (hlocks := hlocks) (fun h => by rw [hr] at h; cases h)
  have hmeth' : T.vm.method? m = some meth := X.method'
  refine ⟨T.setFrames fs, ?_, .returned (some (.int 1)), hrun, hended, rfl, ⟨_, rfl⟩, hW, hframe⟩
  jvm_step X.here [X.here.top, hx, hb, hdg, hmeth', hr, ret, narrow_b1]
  (try refine ⟨rfl, ?_⟩); (try refine ⟨rfl, ?_⟩)
  first | (intro acts; rw [hret _ acts rfl rfl rfl]) | rw [hret _ _ rfl rfl rfl]
  exact Steps.refl _
/-- what holds at the law's entry: the machine, the code, the tables' words (any of lw_tbl by 'hts w (by decide +kernel)'), the script of L ints xs at the cell b, what the Statement gives of the start (any of its parts by flat_of_before) -/
def lw_At (p : Program) (s : State) (m : MethodId) (meth : Method) (c : Code) (b L : Nat) (xs : Nat → Int32) : Prop :=
  p.tables.exec = Jvm.exec ∧ c.code = code ∧ meth.sig.returnType = ret ∧ c.maxLocals = 4 ∧ s.vm.findClass R_law = some m.cls ∧ (∀ w ∈ lw_tbl, w.before #[Value.ref b] s = true) ∧ va_X b L xs s s.heap ∧ b < s.heap.size ∧ meth.locks = false ∧ (Jvm.Cond.and given_1 narrow_1).before #[Value.ref b] s = true ∧ meth.name = "law"
theorem arr_T {args : Array Value} {s : State} {ty : FieldType} (h : (Cond.arrayClass ty).before args s = true) : ∃ cA : ClassId, ArrOfT s cA ty ∧ s.vm.findClass ("[" ++ ty.toString) = some cA := by
  obtain ⟨cA, kA, comp, h1, h2, h3⟩ := Cond.arrayClass_spec h
  exact ⟨cA, fun n z => ⟨fun k h => (by cases h), kA, h2, comp, h3⟩, h1⟩
theorem arr_O {args : Array Value} {s : State} {C : String} (h : (Cond.arrayOver (.object C)).before args s = true) : ∃ cA : ClassId, ArrOfT s cA (.object C) ∧ va_RA s cA (.object C) := by
  obtain ⟨comp, c, k, h1, h2, h3, h4, h5⟩ := Cond.arrayOver_spec h
  exact ⟨c, fun n z => ⟨fun k h => (by cases h), k, h3, comp, h4⟩, k, comp, h3, h4, h1, h5⟩
abbrev tmS (i : Nat) : Term := .string RX7 (strIx.getD i 0)
abbrev tmV (i : Nat) : Term := .field (tmS i) "java/lang/String" "value" "[B"
theorem fs_ex : ∀ i : Fin 5, Cond.exactly (tmS i.val) "java/lang/String" ∈ flatC (Jvm.Cond.and given_1 narrow_1) := by decide +kernel
theorem fs_co : ∀ i : Fin 5, Cond.eq (.field (tmS i.val) "java/lang/String" "coder" "B") (.int 0) ∈ flatC (Jvm.Cond.and given_1 narrow_1) := by decide +kernel
theorem fs_ar : ∀ i : Fin 5, Cond.arrayOf (tmV i.val) .byte ∈ flatC (Jvm.Cond.and given_1 narrow_1) := by decide +kernel
theorem fs_le : ∀ i : Fin 5, Cond.eq (.length (tmV i.val)) (.int (Int32.ofNat (strLen.getD i.val 0))) ∈ flatC (Jvm.Cond.and given_1 narrow_1) := by decide +kernel
theorem fs_el : ∀ i : Fin 5, ∀ j : Fin 7, j.val < strLen.getD i.val 0 → Cond.eq (.elem (tmV i.val) (.int (Int32.ofNat j.val))) (.int ((strByt.getD i.val []).getD j.val 0)) ∈ flatC (Jvm.Cond.and given_1 narrow_1) := by decide +kernel
theorem fs_ne : ∀ i j : Fin 5, i.val ≠ j.val → Cond.not (Cond.eq (tmS i.val) (tmS j.val)) ∈ flatC (Jvm.Cond.and given_1 narrow_1) ∨ Cond.not (Cond.eq (tmS j.val) (tmS i.val)) ∈ flatC (Jvm.Cond.and given_1 narrow_1) := by decide +kernel
theorem fs_cs : Cond.eq (.static "java/lang/String" "COMPACT_STRINGS" "Z") (.int 1) ∈ flatC (Jvm.Cond.and given_1 narrow_1) := by decide +kernel
theorem fs_fm : Cond.isRef (.static "jdk/internal/util/Preconditions" "SIOOBE_FORMATTER" "Ljava/util/function/BiFunction;") ∈ flatC (Jvm.Cond.and given_1 narrow_1) := by decide +kernel
theorem len7 : ∀ i : Fin 5, strLen.getD i.val 0 ≤ 7 := by decide
theorem sr_all : ∀ i : Nat, i < 5 → Cond.stringRef RX7 (strIx.getD i 0) (strTx.getD i "") ∈ lw_tbl := by
  intro i hi
  rcases i5 hi with rfl | rfl | rfl | rfl | rfl
  · exact wr_X7_48
  · exact wr_X7_54
  · exact wr_X7_56
  · exact wr_X7_58
  · exact wr_X7_60
theorem SF_start {args : Array Value} {s : State} (hts : ∀ w ∈ lw_tbl, w.before args s = true) (hgv : (Jvm.Cond.and given_1 narrow_1).before args s = true) :
    ∃ adK adV : Nat → Nat, va_Z "java/lang/String" "COMPACT_STRINGS" "Z" (.int 1) (fun q : Nat => s.heap.size ≤ q) s s.heap ∧ va_Zq "jdk/internal/util/Preconditions" "SIOOBE_FORMATTER" "Ljava/util/function/BiFunction;" (fun q : Nat => s.heap.size ≤ q) s s.heap ∧
      vk_S 5 strLen strByt adK adV (fun q : Nat => s.heap.size ≤ q) s s.heap ∧ ∀ i : Nat, i < 5 → vk_R RX7 (strIx.getD i 0) (strTx.getD i "") (adK i) s := by
  have hA : ∀ a : Nat, a < s.heap.size → ¬ (fun q : Nat => s.heap.size ≤ q) a := fun a h => Nat.not_le.mpr h
  have hs := flat_of_before _ hgv
  obtain ⟨adK, adV, h1, h2⟩ := vk_Sof (args := args) (s := s) (N := 5) (tm := tmS) (len := strLen) (byt := strByt) (A := fun q : Nat => s.heap.size ≤ q) (fun i hi => Nat.lt_of_le_of_lt (len7 ⟨i, hi⟩) (by decide)) (fun i hi => hs _ (fs_ex ⟨i, hi⟩)) (fun i hi => hs _ (fs_co ⟨i, hi⟩)) (fun i hi => hs _ (fs_ar ⟨i, hi⟩)) (fun i hi => hs _ (fs_le ⟨i, hi⟩))
    (fun i hi j hj => hs _ (fs_el ⟨i, hi⟩ ⟨j, Nat.lt_of_lt_of_le hj (len7 ⟨i, hi⟩)⟩ hj)) (fun i j hi hj hne => (fs_ne ⟨i, hi⟩ ⟨j, hj⟩ hne).imp (fun q => hs _ q) (fun q => hs _ q)) hA
  exact ⟨adK, adV, va_Zof (hts _ wx_COMPACT_STRINGS) (hts _ wi_RJ0) (va_eqt (hs _ fs_cs)) hA, va_Zqof (hts _ wx_SIOOBE_FORMATTER) (hts _ wi_RJ3) (hs _ fs_fm) hA, h1, fun i hi => vk_R.of (hts _ (sr_all i hi)) (h2 i hi)⟩

theorem KK_start (l : Launch) {args : Array Value} {s : State} (hts : ∀ w ∈ lw_tbl, w.before args s = true) (hgv : (Jvm.Cond.and given_1 narrow_1).before args s = true) : ∃ g : Gt, gl g = l ∧ gz g = s.heap.size ∧ KK g s := by
  obtain ⟨c0, j0, hk0⟩ := u_known (C := RX8) (T := TX8) (N := 13) (n := 13) hts wu_8 (hts _ wn_X8)
  obtain ⟨c1, j1, hk1⟩ := u_known (C := RX1) (T := TX1) (N := 13) (n := 13) hts wu_1 (hts _ wn_X1)
  obtain ⟨c2, j2, hk2⟩ := u_known (C := RX2) (T := TX2) (N := 2) (n := 2) hts wu_2 (hts _ wn_X2)
  obtain ⟨c3, j3, hk3⟩ := u_known (C := RX3) (T := TX3) (N := 7) (n := 7) hts wu_3 (hts _ wn_X3)
  obtain ⟨c4, j4, hk4⟩ := u_known (C := RX5) (T := TX5) (N := 2) (n := 2) hts wu_5 (hts _ wn_X5)
  obtain ⟨c5, j5, hk5⟩ := u_known (C := RX6) (T := TX6) (N := 5) (n := 5) hts wu_6 (hts _ wn_X6)
  obtain ⟨c6, j6, hk6⟩ := u_known (C := RX7) (T := TX7) (N := 6) (n := 6) hts wu_7 (hts _ wn_X7)
  obtain ⟨c7, j7, hk7⟩ := u_known (C := RX9) (T := TX9) (N := 17) (n := 17) hts wu_9 (hts _ wn_X9)
  obtain ⟨a0, ha0, hf0⟩ := arr_T (hts _ wa_int)
  obtain ⟨a1, ha1, hf1⟩ := arr_T (hts _ wa_char)
  obtain ⟨a2, ha2, hf2⟩ := arr_T (hts _ wa_boolean)
  obtain ⟨a3, ha3, hf3⟩ := arr_O (hts _ wa_over)
  obtain ⟨adK, adV, hS1, hS2, hS3, hS4⟩ := SF_start hts hgv
  refine ⟨(l, (fun k => if k = 0 then c0 else if k = 1 then c1 else if k = 2 then c2 else if k = 3 then c3 else if k = 4 then c4 else if k = 5 then c5 else if k = 6 then c6 else c7, fun k => if k = 0 then j0 else if k = 1 then j1 else if k = 2 then j2 else if k = 3 then j3 else if k = 4 then j4 else if k = 5 then j5 else if k = 6 then j6 else j7), fun k => if k = 0 then a0 else if k = 1 then a1 else if k = 2 then a2 else a3, s.heap.size, adK, adV), rfl, rfl, ⟨?_, ?_⟩, fun w hw hn => va_Nw.of (by cases w <;> first | rfl | (simp [isNest] at hn; done)) (hts w hw), Nat.le_refl _, va_AO.of (hts _ wa_over), hS1, hS2, hS3, hS4⟩
  · intro k q hq
    match k, hq with
    | 0, hq => cases hq; exact hk0
    | 1, hq => cases hq; exact hk1
    | 2, hq => cases hq; exact hk2
    | 3, hq => cases hq; exact hk3
    | 4, hq => cases hq; exact hk4
    | 5, hq => cases hq; exact hk5
    | 6, hq => cases hq; exact hk6
    | 7, hq => cases hq; exact hk7
    | k + 8, hq => simp [clsL] at hq
  · intro k q hq
    match k, hq with
    | 0, hq => cases hq; exact ⟨ha0, hf0⟩
    | 1, hq => cases hq; exact ⟨ha1, hf1⟩
    | 2, hq => cases hq; exact ⟨ha2, hf2⟩
    | 3, hq => cases hq; exact ⟨ha3, hf3⟩
    | k + 4, hq => simp at hq

set_option maxHeartbeats 4000000 in
set_option maxRecDepth 100000 in
theorem whole_start {p : Program} {e : Env} {s : State} {m : MethodId} {below : List Frame} {meth : Method} {c : Code} (l : Launch) (hflags : l.flags = flags0) {b L : Nat} {xs : Nat → Int32} (hL : L ≤ 256) (C0 : lw_At p s m meth c b L xs) : W p l e room_1 s m #[Value.ref b] below meth c s.heap [] 0 0 (lw_Z below #[Value.ref b] s) (entryFrame m ([Value.ref b] : List Value).toArray 4) := by
  obtain ⟨hx, hb, hr, hml, hown, hts, hX, hbl, hlocks, hgv, hnm⟩ := id C0
  obtain ⟨g, hg, hz, hK⟩ := KK_start l hts hgv
  subst hg
  have hts9 : ∀ w ∈ lw_good, w.before #[Value.ref b] s = true := fun w hw => hts w (List.mem_filter.mp hw).1
  have hOk : Ok g (p, e, room_1, s, m, #[Value.ref b], below, meth, c, 4, lw_Z below #[Value.ref b] s) mL_law 20 376 3782 := ⟨hx, hb, hml, rfl, hown, hts9, hK, hlocks, hnm, hr, Nat.le_of_ble_eq_true rfl, Nat.le_of_ble_eq_true rfl, Nat.le_of_ble_eq_true rfl, Nat.le_of_ble_eq_true rfl⟩
  have hA : XA g (p, e, room_1, s, m, #[Value.ref b], below, meth, c, 4, lw_Z below #[Value.ref b] s) b L xs := ⟨hX, hbl, by rw [hz]; exact hbl⟩
  obtain ⟨z, ez⟩ : ∃ z : Nat, z = s.heap.size := ⟨_, rfl⟩
  have hgo : Zj g (p, e, room_1, s, m, #[Value.ref b], below, meth, c, 4, lw_Z below #[Value.ref b] s) (z, 0, 0) (fun _ => none) 0 [(0, .ref b)] [] := by
    obtain ⟨X, eX⟩ : ∃ X : Xt, X = (p, e, room_1, s, m, #[Value.ref b], below, meth, c, 4, lw_Z below #[Value.ref b] s) := ⟨_, rfl⟩
    have hend : ∀ (h9 : AH) (v : Int), Zj g X (z + 376, 376, 3782) h9 1105 [(0, .ref b), (1, .ref z), (2, .ref (z + 367)), (3, .int (iI v))] [.int (iI 1)] := by
      subst eX
      intro h9 v H locs ls hW hz9 hu hS hl
      refine va_forget (fun q hq => by have := hS.2.2 q hq; show s.heap.size ≤ q.base; rw [← hz]; exact this) ?_
      refine W.widen (k := 600000) (n := 7302250) (Nat.le_of_ble_eq_true rfl) (Nat.le_of_ble_eq_true rfl) ?_
      rw [show iI 1 = (1 : Int32) by decide]
      exact lw_ret hx hb hr hlocks dL_law_1105
    rw [← eX] at hOk hA ⊢
    refine z_new (ci := 0) (fs := [.null, .null, .null, .null, .null, .null, .null, .null, .long (lI 0), .long (lI 0), .int (iI 0), .int (iI 0), .int (iI 0)]) hOk dL_law_0 wl_L_7 wn_X8 wi_RX8 rfl wg_8 tyX8_ok (fun j hj => by rcases (show j = 0 ∨ j = 1 ∨ j = 2 ∨ j = 3 ∨ j = 4 ∨ j = 5 ∨ j = 6 ∨ j = 7 ∨ j = 8 ∨ j = 9 ∨ j = 10 ∨ j = 11 ∨ j = 12 by omega) with rfl | rfl | rfl | rfl | rfl | rfl | rfl | rfl | rfl | rfl | rfl | rfl | rfl <;> rfl) ⟨Nat.le_of_ble_eq_true rfl, Nat.le_of_ble_eq_true rfl⟩ ?_
    show Zj g X (z + 1, 1, 13) (hup (fun _ => none) z (.inr (.inr (0, [.null, .null, .null, .null, .null, .null, .null, .null, .long (lI 0), .long (lI 0), .int (iI 0), .int (iI 0), .int (iI 0)])))) 3 [(0, .ref b)] [.ref z]
    obtain ⟨h1, e1⟩ : ∃ hh, hh = hup (fun _ => none) z (.inr (.inr (0, [.null, .null, .null, .null, .null, .null, .null, .null, .long (lI 0), .long (lI 0), .int (iI 0), .int (iI 0), .int (iI 0)]))) := ⟨_, rfl⟩
    have s1 : h1 z = some (.inr (.inr (0, [.null, .null, .null, .null, .null, .null, .null, .null, .long (lI 0), .long (lI 0), .int (iI 0), .int (iI 0), .int (iI 0)]))) := by rw [e1]; exact hup_s _ _ _
    rw [← e1]
    refine z_dup hOk dL_law_3 rfl ?_
    refine z_callI (as := []) (rest := [.ref z]) hOk dL_law_4 lk_L_9 wm_X8_init ⟨rfl, rfl⟩ mo_X8_init (kX8_init g (a := z) s1) (by decide) (Or.inr ⟨Nat.le_of_ble_eq_true rfl, Nat.le_of_ble_eq_true rfl⟩) rfl rfl (Nat.le_of_ble_eq_true rfl) (fun v2 h2 z2 q2 => ?_)
    obtain ⟨⟨rfl, rfl⟩, hXR, hF2⟩ := q2
    show Zj g X (z + 367, 367, 2271) h2 7 [(0, .ref b)] [.ref z]
    refine z_astore_n hOk dL_law_7 rfl (by decide) [1, 0] (lv' := [(0, .ref b), (1, .ref z)]) rfl ?_
    refine z_new (ci := 7) (fs := [.null, .null, .null, .null, .null, .null, .long (lI 0), .long (lI 0), .int (iI 0), .null, .int (iI 0), .int (iI 0), .int (iI 0), .int (iI 0), .long (lI 0), .int (iI 0), .null]) hOk dL_law_8 wl_L_10 wn_X9 wi_RX9 rfl wg_9 tyX9_ok (fun j hj => by rcases (show j = 0 ∨ j = 1 ∨ j = 2 ∨ j = 3 ∨ j = 4 ∨ j = 5 ∨ j = 6 ∨ j = 7 ∨ j = 8 ∨ j = 9 ∨ j = 10 ∨ j = 11 ∨ j = 12 ∨ j = 13 ∨ j = 14 ∨ j = 15 ∨ j = 16 by omega) with rfl | rfl | rfl | rfl | rfl | rfl | rfl | rfl | rfl | rfl | rfl | rfl | rfl | rfl | rfl | rfl | rfl <;> rfl) ⟨Nat.le_of_ble_eq_true rfl, Nat.le_of_ble_eq_true rfl⟩ ?_
    show Zj g X (z + 368, 368, 2288) (hup h2 (z + 367) (.inr (.inr (7, [.null, .null, .null, .null, .null, .null, .long (lI 0), .long (lI 0), .int (iI 0), .null, .int (iI 0), .int (iI 0), .int (iI 0), .int (iI 0), .long (lI 0), .int (iI 0), .null])))) 11 [(0, .ref b), (1, .ref z)] [.ref (z + 367)]
    obtain ⟨h3, e3⟩ : ∃ hh, hh = hup h2 (z + 367) (.inr (.inr (7, [.null, .null, .null, .null, .null, .null, .long (lI 0), .long (lI 0), .int (iI 0), .null, .int (iI 0), .int (iI 0), .int (iI 0), .int (iI 0), .long (lI 0), .int (iI 0), .null]))) := ⟨_, rfl⟩
    have s3 : h3 (z + 367) = some (.inr (.inr (7, [.null, .null, .null, .null, .null, .null, .long (lI 0), .long (lI 0), .int (iI 0), .null, .int (iI 0), .int (iI 0), .int (iI 0), .int (iI 0), .long (lI 0), .int (iI 0), .null]))) := by rw [e3]; exact hup_s _ _ _
    have f3 : Fr h2 h3 (z + 367) 1 := by rw [e3]; exact hup_Fr _ _ _
    rw [← e3]
    have hX3 := XR.fr hXR f3 (by omega)
    refine z_dup hOk dL_law_11 rfl ?_
    refine z_callI (as := []) (rest := [.ref (z + 367)]) hOk dL_law_12 lk_L_12 wm_X9_init ⟨rfl, rfl⟩ mo_X9_init (kX9_init g (a := z + 367) s3) (by decide) (Or.inr ⟨Nat.le_of_ble_eq_true rfl, Nat.le_of_ble_eq_true rfl⟩) rfl rfl (Nat.le_of_ble_eq_true rfl) (fun v4 h4 z4 q4 => ?_)
    obtain ⟨⟨rfl, rfl⟩, hRM, hF4⟩ := q4
    show Zj g X (z + 376, 376, 3782) h4 15 [(0, .ref b), (1, .ref z)] [.ref (z + 367)]
    have hX4 := XR.fr hX3 hF4 (by omega)
    refine z_astore_n hOk dL_law_15 rfl (by decide) [1, 2, 0] (lv' := [(0, .ref b), (1, .ref z), (2, .ref (z + 367))]) rfl ?_
    refine z_iconst hOk dL_law_16 ?_
    refine z_istore_n hOk dL_law_17 rfl (by decide) [1, 2, 3, 0] (lv' := [(0, .ref b), (1, .ref z), (2, .ref (z + 367)), (3, .int (iI 0))]) rfl ?_
    exact law_loop g hOk hA hL hend (L + 1) 0 h4 S00 (by decide) (by decide) (by omega) hX4 hRM invM_00
  rw [lg_entry_eq]
  exact hgo s.heap [] _ (fun a c9 hc => by cases hc) ez.symm ⟨Nat.zero_le _, Nat.zero_le _⟩ va_S.rf (lv_entry [.ref b] (n := 4) (Nat.le_of_ble_eq_true rfl))
