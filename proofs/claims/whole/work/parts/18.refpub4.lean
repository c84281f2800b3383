/-! the reference's public methods: feel, inside, rain, years, place, digest -/
theorem bit_rg {s p : Int} (h : 0 ≤ s ∧ s < 64) : 0 ≤ s / pw p ∧ s / pw p < 64 := by
  have hp : ((2 ^ p.toNat : Nat) : Int) = pw p := by unfold pw; simp
  have h0 : (0 : Int) ≤ ((2 ^ p.toNat : Nat) : Int) := Int.natCast_nonneg _
  rw [hp] at h0
  exact ⟨Int.ediv_nonneg h.1 (by omega), Int.lt_of_le_of_lt (Int.ediv_le_self _ h.1) h.2⟩
theorem fel_s {s w n : Int} (h : 0 ≤ n) : itI (n + 1) (felG s w) (-1, 99) = if mosA s w n < (itI n (felG s w) (-1, 99)).2 then (n, mosA s w n) else itI n (felG s w) (-1, 99) := itI_s _ _ h
theorem fel_rg (s w : Int) {n : Int} (h : 0 ≤ n) : (-1 ≤ (itI n (felG s w) (-1, 99)).1 ∧ (itI n (felG s w) (-1, 99)).1 < n) ∧ 0 ≤ (itI n (felG s w) (-1, 99)).2 ∧ (itI n (felG s w) (-1, 99)).2 ≤ 99 := by
  refine itI_ind (fun i (r : Int × Int) => (-1 ≤ r.1 ∧ r.1 < i) ∧ 0 ≤ r.2 ∧ r.2 ≤ 99) _ _ h (by decide) (fun i r h1 h2 h3 => ?_)
  have e := mosA_rg s w i (n := 6) (by decide)
  unfold felG mosA
  split
  · refine ⟨⟨?_, ?_⟩, ?_, ?_⟩ <;> dsimp only <;> omega
  · refine ⟨⟨?_, ?_⟩, ?_, ?_⟩ <;> omega
theorem mos_s {s k w n : Int} (h : 0 ≤ n) : itI (n + 1) (mosG s k w) 0 = if itI n (mosG s k w) 0 < likes s k w n then likes s k w n else itI n (mosG s k w) 0 := itI_s _ _ h
theorem andI_rg (a b : Int) : rgI (andI a b) := ⟨Int32.le_toInt _, Int32.toInt_lt _⟩
theorem or_64 : ∀ v : Fin 64, ∀ w : Fin 64, (v.val ||| w.val) < 64 := by decide +kernel
theorem orI_64 {v w : Int} (h : 0 ≤ v ∧ v < 64) (hw : 0 ≤ w ∧ w < 64) : 0 ≤ orI v w ∧ orI v w < 64 := by
  rw [orI_' h hw]
  have := or_64 ⟨v.toNat, by omega⟩ ⟨w.toNat, by omega⟩
  dsimp only at this
  omega
theorem ins_s {near hd n : Int} (h : 0 ≤ n) : itI (n + 1) (insG near hd) (0, 0) = insG near hd n (itI n (insG near hd) (0, 0)) := itI_s _ _ h
theorem mul_60 {a b : Int} (ha : 0 ≤ a ∧ a ≤ 6) (hb : 0 ≤ b ∧ b ≤ 10) : 0 ≤ a * b ∧ a * b ≤ 60 := by
  have : a = 0 ∨ a = 1 ∨ a = 2 ∨ a = 3 ∨ a = 4 ∨ a = 5 ∨ a = 6 := by omega
  rcases this with rfl | rfl | rfl | rfl | rfl | rfl | rfl <;> omega
theorem cmp_c (a b : Int) : (a < b ∧ cmpI a b = -1) ∨ (a = b ∧ cmpI a b = 0) ∨ (b < a ∧ cmpI a b = 1) := by unfold cmpI; (repeat' split) <;> omega
theorem gcd_end {u x : Int} (hu : 0 ≤ u ∧ u ≤ 60) (hx : 0 ≤ x) (h : Nat.gcd x.toNat (0 : Int).toNat = Nat.gcd u.toNat 10) : x = dvr u := by
  have e := dvr_gcd ⟨u.toNat, by omega⟩
  dsimp only at e
  rw [Int.toNat_of_nonneg hu.1] at e
  have e2 : Nat.gcd x.toNat (0 : Int).toNat = x.toNat := Nat.gcd_zero_right _
  have := dvr_rg u
  omega

set_option maxHeartbeats 4000000 in
set_option maxRecDepth 20000 in
theorem kX9_feel (g : Gt) {h : AH} {b : Nat} {S : Nat → Int → Int} {k : Int} (hM : RM h b S) (hV : invM S) (g_k : rgI k) : CnJ g mX9_feel 4 [.ref b, .int (iI k)] h (feelA S k).1 (QM h b (feelA S k).2) := by
  refine Cn.mk (by decide +kernel) (Nat.le_of_ble_eq_true rfl) ?_
  intro x sz hx hr
  show Zj g x (sz, 0, 0) h 0 [(0, .ref b), (1, .int (iI k))] []
  obtain ⟨m0, m1, m2, m3, m4, m5, m6, m7, m8⟩ := hM
  have hN := hV.1
  have hI := hN.1
  have hn := hI.n
  have h58 : 0 ≤ S 1 58 ∧ S 1 58 ≤ 8 := ⟨(hI.rg 58 (by decide)).1, hN.2.2.2.1⟩
  have h39 : 0 ≤ S 1 39 ∧ S 1 39 ≤ 6 := ⟨(hI.rg 39 (by decide)).1, hN.2.2.1⟩
  have h0 : 0 ≤ S 1 0 ∧ S 1 0 ≤ 999 := ⟨hN.2.1.2, hN.2.1.1⟩
  refine z_aload_n hx dX9_feel_0 rfl 0 rfl ?_
  refine z_iload_n hx dX9_feel_1 rfl 1 rfl ?_
  refine z_cVI (as := [.int (iI k)]) (rest := []) hx dX9_feel_2 lk_X9_194 wm_X9_isCosy wv_X9_isCosy (rcv_obj hx m0 rfl) mo_X9_isCosy (kX9_isCosy g (S := S) ⟨m0, m1, m2, m3, m4, m5, m6, m7, m8⟩ hI (by first | exact g_k | omega)) (by decide) rfl rfl (Nat.le_of_ble_eq_true rfl) ?_
  refine z_ifne_b (tgt := 13) hx dX9_feel_5 (by decide)  (fun c_1 => ?_) (fun c_1 => ?_)
  ·
    refine z_aload_n hx dX9_feel_13 rfl 0 rfl ?_
    refine z_iload_n hx dX9_feel_14 rfl 1 rfl ?_
    refine z_cVI (as := [.int (iI k)]) (rest := []) hx dX9_feel_15 lk_X9_231 wm_X9_kindsOf wv_X9_kindsOf (rcv_obj hx m0 rfl) mo_X9_kindsOf (kX9_kindsOf g (S := S) (k := k) ⟨m0, m1, m2, m3, m4, m5, m6, m7, m8⟩ hI (by omega) (by exact h39) (by exact hN.2.2.2.2.2)) (by decide) rfl rfl (Nat.le_of_ble_eq_true rfl) ?_
    have f_2 := kof_rg (S 1) k
    have hkf := kof_rg (S 1) k
    refine z_istore_n hx dX9_feel_18 rfl (by decide) [1, 2, 0] (lv' := [(0, .ref b), (1, .int (iI k)), (2, .int (iI (kof (S 1) k)))]) rfl ?_
    refine z_iconst hx dX9_feel_19 ?_
    refine z_istore_n hx dX9_feel_20 rfl (by decide) [1, 2, 3, 0] (lv' := [(0, .ref b), (1, .int (iI k)), (2, .int (iI (kof (S 1) k))), (3, .int (iI (-1)))]) rfl ?_
    refine z_bipush hx dX9_feel_21 (by decide) ?_
    refine z_istore hx dX9_feel_23 (by decide) [1, 2, 3, 4, 0] (lv' := [(0, .ref b), (1, .int (iI k)), (2, .int (iI (kof (S 1) k))), (3, .int (iI (-1))), (4, .int (iI 99))]) rfl ?_
    refine z_iconst hx dX9_feel_25 ?_
    refine z_istore hx dX9_feel_26 (by decide) [1, 2, 3, 4, 5, 0] (lv' := [(0, .ref b), (1, .int (iI k)), (2, .int (iI (kof (S 1) k))), (3, .int (iI (-1))), (4, .int (iI 99)), (5, .int (iI 0))]) rfl ?_
    have hL_3 : ∀ (mm : Nat) (v3 : Int) (v4 : Int) (v5 : Int), (0 ≤ v5 ∧ v5 ≤ 41) → (kof (S 1) k = 0 → v5 = 0) → (v3 = (itI v5 (felG (kof (S 1) k) (S 1 (32 + k))) (-1, 99)).1) → (v4 = (itI v5 (felG (kof (S 1) k) (S 1 (32 + k))) (-1, 99)).2) → (41 : Int) - v5 < (mm : Int) → Zj g x (sz, 0, 0) h 28 [(0, .ref b), (1, .int (iI k)), (2, .int (iI (kof (S 1) k))), (3, .int (iI v3)), (4, .int (iI v4)), (5, .int (iI v5))] [] := by
      intro mm
      induction mm with
      | zero => intro v3 v4 v5 kv kz e3 e4 hm; exfalso; omega
      | succ mm ih =>
        intro v3 v4 v5 kv kz e3 e4 hm
        have ih_4 := ih; clear ih
        have hf3 := fel_rg (kof (S 1) k) (S 1 (32 + k)) (n := v5) (by omega)
        rw [← e3, ← e4] at hf3
        refine z_iload hx dX9_feel_28 5 rfl ?_
        refine z_bipush hx dX9_feel_30 (by decide) ?_
        refine z_icmp_gt (tgt := 206) hx dX9_feel_32 (by decide) (by omega) (by decide) (fun c_5 => ?_) (fun c_5 => ?_)
        ·
          have eV : felV (kof (S 1) k) (S 1 (32 + k)) = v3 := by unfold felV; by_cases qz : kof (S 1) k = 0; (rw [if_pos qz, e3, kz qz]; rfl); (rw [if_neg qz, e3, show v5 = 41 by omega])
          refine z_iload_n hx dX9_feel_206 rfl 3 rfl ?_
          refine z_iret hx hr dX9_feel_207 rfl rfl (q_j (by unfold feelA; (repeat (first | rw [if_pos (by omega)] | rw [if_neg (by omega)])); (try rw [eV]); (try rfl)) (by unfold feelA; (repeat (first | rw [if_pos (by omega)] | rw [if_neg (by omega)])); exact ⟨⟨m0, m1, m2, m3, m4, m5, m6, m7, m8⟩, Fr.rf⟩))
        ·
          refine z_iload_n hx dX9_feel_35 rfl 2 rfl ?_
          refine z_if_eq (tgt := 206) hx dX9_feel_36 (by decide) (by omega) (fun c_6 => ?_) (fun c_6 => ?_)
          ·
            have eV : felV (kof (S 1) k) (S 1 (32 + k)) = v3 := by unfold felV; by_cases qz : kof (S 1) k = 0; (rw [if_pos qz, e3, kz qz]; rfl); (rw [if_neg qz, e3, show v5 = 41 by omega])
            refine z_iload_n hx dX9_feel_206 rfl 3 rfl ?_
            refine z_iret hx hr dX9_feel_207 rfl rfl (q_j (by unfold feelA; (repeat (first | rw [if_pos (by omega)] | rw [if_neg (by omega)])); (try rw [eV]); (try rfl)) (by unfold feelA; (repeat (first | rw [if_pos (by omega)] | rw [if_neg (by omega)])); exact ⟨⟨m0, m1, m2, m3, m4, m5, m6, m7, m8⟩, Fr.rf⟩))
          ·
            refine z_iconst hx dX9_feel_39 ?_
            refine z_istore hx dX9_feel_40 (by decide) [1, 2, 3, 4, 5, 6, 0] (lv' := [(0, .ref b), (1, .int (iI k)), (2, .int (iI (kof (S 1) k))), (3, .int (iI v3)), (4, .int (iI v4)), (5, .int (iI v5)), (6, .int (iI 0))]) rfl ?_
            refine z_iconst hx dX9_feel_42 ?_
            refine z_istore hx dX9_feel_43 (by decide) [1, 2, 3, 4, 5, 6, 7, 0] (lv' := [(0, .ref b), (1, .int (iI k)), (2, .int (iI (kof (S 1) k))), (3, .int (iI v3)), (4, .int (iI v4)), (5, .int (iI v5)), (6, .int (iI 0)), (7, .int (iI 0))]) rfl ?_
            have hL_7 : ∀ (mm : Nat) (v6 : Int) (v7 : Int), (0 ≤ v7 ∧ v7 ≤ 6) → (v6 = itI v7 (mosG (kof (S 1) k) (S 1 (32 + k)) v5) 0) → (6 : Int) - v7 < (mm : Int) → Zj g x (sz, 0, 0) h 45 [(0, .ref b), (1, .int (iI k)), (2, .int (iI (kof (S 1) k))), (3, .int (iI v3)), (4, .int (iI v4)), (5, .int (iI v5)), (6, .int (iI v6)), (7, .int (iI v7))] [] := by
              intro mm
              induction mm with
              | zero => intro v6 v7 kw e6 hm; exfalso; omega
              | succ mm ih =>
                intro v6 v7 kw e6 hm
                have ih_8 := ih; clear ih
                have hm6 := mosA_rg (kof (S 1) k) (S 1 (32 + k)) v5 (n := v7) (by omega)
                rw [← e6] at hm6
                have hb7 := bit_rg (p := v7) hkf
                refine z_iload hx dX9_feel_45 7 rfl ?_
                refine z_bipush hx dX9_feel_47 (by decide) ?_
                refine z_icmp_ge (tgt := 170) hx dX9_feel_49 (by decide) (by omega) (by decide) (fun c_9 => ?_) (fun c_9 => ?_)
                ·
                  have eM : mosA (kof (S 1) k) (S 1 (32 + k)) v5 = v6 := by rw [e6, show v7 = 6 by omega]; rfl
                  refine z_iload hx dX9_feel_170 6 rfl ?_
                  refine z_iload hx dX9_feel_172 4 rfl ?_
                  refine z_icmp_ge (tgt := 182) hx dX9_feel_174 (by decide) (by omega) (by omega) (fun c_10 => ?_) (fun c_10 => ?_)
                  ·
                    refine z_iload_n hx dX9_feel_182 rfl 3 rfl ?_
                    refine z_istore_n hx dX9_feel_183 rfl (by decide) [1, 2, 3, 0, 4, 5, 6, 7] (lv' := [(0, .ref b), (1, .int (iI k)), (2, .int (iI (kof (S 1) k))), (3, .int (iI v3)), (4, .int (iI v4)), (5, .int (iI v5)), (6, .int (iI v6)), (7, .int (iI v7))]) rfl ?_
                    refine z_iload hx dX9_feel_184 6 rfl ?_
                    refine z_iload hx dX9_feel_186 4 rfl ?_
                    refine z_icmp_ge (tgt := 196) hx dX9_feel_188 (by decide) (by omega) (by omega) (fun c_11 => ?_) (fun c_11 => ?_)
                    ·
                      refine z_iload hx dX9_feel_196 4 rfl ?_
                      refine z_istore hx dX9_feel_198 (by decide) [1, 2, 3, 4, 0, 5, 6, 7] (lv' := [(0, .ref b), (1, .int (iI k)), (2, .int (iI (kof (S 1) k))), (3, .int (iI v3)), (4, .int (iI v4)), (5, .int (iI v5)), (6, .int (iI v6)), (7, .int (iI v7))]) rfl ?_
                      refine z_iinc hx dX9_feel_200 (by decide) 5 rfl [1, 2, 3, 4, 5, 0, 6, 7] (lv' := [(0, .ref b), (1, .int (iI k)), (2, .int (iI (kof (S 1) k))), (3, .int (iI v3)), (4, .int (iI v4)), (5, .int (iI (v5 + 1))), (6, .int (iI v6)), (7, .int (iI v7))]) rfl ?_
                      refine z_goto (tgt := 28) hx dX9_feel_203 (by decide) ?_
                      refine z_sub [0, 1, 2, 3, 4, 5] (lv' := [(0, .ref b), (1, .int (iI k)), (2, .int (iI (kof (S 1) k))), (3, .int (iI v3)), (4, .int (iI v4)), (5, .int (iI (v5 + 1)))]) rfl ?_
                      exact ih_4 _ _ _ (by omega) (by omega) (by rw [fel_s (by omega)]; first | (rw [if_pos (by omega)]; done) | (rw [if_pos (by omega)]; exact eM.symm) | (rw [if_neg (by omega)]; first | exact e3 | exact e4) | (exfalso; omega)) (by rw [fel_s (by omega)]; first | (rw [if_pos (by omega)]; done) | (rw [if_pos (by omega)]; exact eM.symm) | (rw [if_neg (by omega)]; first | exact e3 | exact e4) | (exfalso; omega))  (by omega)
                    ·
                      refine z_iload hx dX9_feel_191 6 rfl ?_
                      refine z_goto (tgt := 198) hx dX9_feel_193 (by decide) ?_
                      refine z_istore hx dX9_feel_198 (by decide) [1, 2, 3, 4, 0, 5, 6, 7] (lv' := [(0, .ref b), (1, .int (iI k)), (2, .int (iI (kof (S 1) k))), (3, .int (iI v3)), (4, .int (iI v6)), (5, .int (iI v5)), (6, .int (iI v6)), (7, .int (iI v7))]) rfl ?_
                      refine z_iinc hx dX9_feel_200 (by decide) 5 rfl [1, 2, 3, 4, 5, 0, 6, 7] (lv' := [(0, .ref b), (1, .int (iI k)), (2, .int (iI (kof (S 1) k))), (3, .int (iI v3)), (4, .int (iI v6)), (5, .int (iI (v5 + 1))), (6, .int (iI v6)), (7, .int (iI v7))]) rfl ?_
                      refine z_goto (tgt := 28) hx dX9_feel_203 (by decide) ?_
                      refine z_sub [0, 1, 2, 3, 4, 5] (lv' := [(0, .ref b), (1, .int (iI k)), (2, .int (iI (kof (S 1) k))), (3, .int (iI v3)), (4, .int (iI v6)), (5, .int (iI (v5 + 1)))]) rfl ?_
                      exact ih_4 _ _ _ (by omega) (by omega) (by rw [fel_s (by omega)]; first | (rw [if_pos (by omega)]; done) | (rw [if_pos (by omega)]; exact eM.symm) | (rw [if_neg (by omega)]; first | exact e3 | exact e4) | (exfalso; omega)) (by rw [fel_s (by omega)]; first | (rw [if_pos (by omega)]; done) | (rw [if_pos (by omega)]; exact eM.symm) | (rw [if_neg (by omega)]; first | exact e3 | exact e4) | (exfalso; omega))  (by omega)
                  ·
                    refine z_iload hx dX9_feel_177 5 rfl ?_
                    refine z_goto (tgt := 183) hx dX9_feel_179 (by decide) ?_
                    refine z_istore_n hx dX9_feel_183 rfl (by decide) [1, 2, 3, 0, 4, 5, 6, 7] (lv' := [(0, .ref b), (1, .int (iI k)), (2, .int (iI (kof (S 1) k))), (3, .int (iI v5)), (4, .int (iI v4)), (5, .int (iI v5)), (6, .int (iI v6)), (7, .int (iI v7))]) rfl ?_
                    refine z_iload hx dX9_feel_184 6 rfl ?_
                    refine z_iload hx dX9_feel_186 4 rfl ?_
                    refine z_icmp_ge (tgt := 196) hx dX9_feel_188 (by decide) (by omega) (by omega) (fun c_12 => ?_) (fun c_12 => ?_)
                    ·
                      refine z_iload hx dX9_feel_196 4 rfl ?_
                      refine z_istore hx dX9_feel_198 (by decide) [1, 2, 3, 4, 0, 5, 6, 7] (lv' := [(0, .ref b), (1, .int (iI k)), (2, .int (iI (kof (S 1) k))), (3, .int (iI v5)), (4, .int (iI v4)), (5, .int (iI v5)), (6, .int (iI v6)), (7, .int (iI v7))]) rfl ?_
                      refine z_iinc hx dX9_feel_200 (by decide) 5 rfl [1, 2, 3, 4, 5, 0, 6, 7] (lv' := [(0, .ref b), (1, .int (iI k)), (2, .int (iI (kof (S 1) k))), (3, .int (iI v5)), (4, .int (iI v4)), (5, .int (iI (v5 + 1))), (6, .int (iI v6)), (7, .int (iI v7))]) rfl ?_
                      refine z_goto (tgt := 28) hx dX9_feel_203 (by decide) ?_
                      refine z_sub [0, 1, 2, 3, 4, 5] (lv' := [(0, .ref b), (1, .int (iI k)), (2, .int (iI (kof (S 1) k))), (3, .int (iI v5)), (4, .int (iI v4)), (5, .int (iI (v5 + 1)))]) rfl ?_
                      exact ih_4 _ _ _ (by omega) (by omega) (by rw [fel_s (by omega)]; first | (rw [if_pos (by omega)]; done) | (rw [if_pos (by omega)]; exact eM.symm) | (rw [if_neg (by omega)]; first | exact e3 | exact e4) | (exfalso; omega)) (by rw [fel_s (by omega)]; first | (rw [if_pos (by omega)]; done) | (rw [if_pos (by omega)]; exact eM.symm) | (rw [if_neg (by omega)]; first | exact e3 | exact e4) | (exfalso; omega))  (by omega)
                    ·
                      refine z_iload hx dX9_feel_191 6 rfl ?_
                      refine z_goto (tgt := 198) hx dX9_feel_193 (by decide) ?_
                      refine z_istore hx dX9_feel_198 (by decide) [1, 2, 3, 4, 0, 5, 6, 7] (lv' := [(0, .ref b), (1, .int (iI k)), (2, .int (iI (kof (S 1) k))), (3, .int (iI v5)), (4, .int (iI v6)), (5, .int (iI v5)), (6, .int (iI v6)), (7, .int (iI v7))]) rfl ?_
                      refine z_iinc hx dX9_feel_200 (by decide) 5 rfl [1, 2, 3, 4, 5, 0, 6, 7] (lv' := [(0, .ref b), (1, .int (iI k)), (2, .int (iI (kof (S 1) k))), (3, .int (iI v5)), (4, .int (iI v6)), (5, .int (iI (v5 + 1))), (6, .int (iI v6)), (7, .int (iI v7))]) rfl ?_
                      refine z_goto (tgt := 28) hx dX9_feel_203 (by decide) ?_
                      refine z_sub [0, 1, 2, 3, 4, 5] (lv' := [(0, .ref b), (1, .int (iI k)), (2, .int (iI (kof (S 1) k))), (3, .int (iI v5)), (4, .int (iI v6)), (5, .int (iI (v5 + 1)))]) rfl ?_
                      exact ih_4 _ _ _ (by omega) (by omega) (by rw [fel_s (by omega)]; first | (rw [if_pos (by omega)]; done) | (rw [if_pos (by omega)]; exact eM.symm) | (rw [if_neg (by omega)]; first | exact e3 | exact e4) | (exfalso; omega)) (by rw [fel_s (by omega)]; first | (rw [if_pos (by omega)]; done) | (rw [if_pos (by omega)]; exact eM.symm) | (rw [if_neg (by omega)]; first | exact e3 | exact e4) | (exfalso; omega))  (by omega)
                ·
                  refine z_iconst hx dX9_feel_52 ?_
                  refine z_istore hx dX9_feel_53 (by decide) [1, 2, 3, 4, 5, 6, 7, 8, 0] (lv' := [(0, .ref b), (1, .int (iI k)), (2, .int (iI (kof (S 1) k))), (3, .int (iI v3)), (4, .int (iI v4)), (5, .int (iI v5)), (6, .int (iI v6)), (7, .int (iI v7)), (8, .int (iI 0))]) rfl ?_
                  refine z_iconst hx dX9_feel_55 ?_
                  refine z_istore hx dX9_feel_56 (by decide) [1, 2, 3, 4, 5, 6, 7, 8, 9, 0] (lv' := [(0, .ref b), (1, .int (iI k)), (2, .int (iI (kof (S 1) k))), (3, .int (iI v3)), (4, .int (iI v4)), (5, .int (iI v5)), (6, .int (iI v6)), (7, .int (iI v7)), (8, .int (iI 0)), (9, .int (iI 0))]) rfl ?_
                  have hL_13 : ∀ (mm : Nat) (v8 : Int) (v9 : Int), (0 ≤ v9 ∧ v9 ≤ 6) → (v8 = cnI (liP (kof (S 1) k) (S 1 (32 + k)) v5 v7) v9) → (6 : Int) - v9 < (mm : Int) → Zj g x (sz, 0, 0) h 58 [(0, .ref b), (1, .int (iI k)), (2, .int (iI (kof (S 1) k))), (3, .int (iI v3)), (4, .int (iI v4)), (5, .int (iI v5)), (6, .int (iI v6)), (7, .int (iI v7)), (8, .int (iI v8)), (9, .int (iI v9))] [] := by
                    intro mm
                    induction mm with
                    | zero => intro v8 v9 kx e8 hm; exfalso; omega
                    | succ mm ih =>
                      intro v8 v9 kx e8 hm
                      have ih_14 := ih; clear ih
                      have hc8 := cnI_rg (liP (kof (S 1) k) (S 1 (32 + k)) v5 v7) (n := v9) (by omega)
                      rw [← e8] at hc8
                      have hb9 := bit_rg (p := v9) hkf
                      refine z_iload hx dX9_feel_58 9 rfl ?_
                      refine z_bipush hx dX9_feel_60 (by decide) ?_
                      refine z_icmp_ge (tgt := 148) hx dX9_feel_62 (by decide) (by omega) (by decide) (fun c_15 => ?_) (fun c_15 => ?_)
                      ·
                        have eL : likes (kof (S 1) k) (S 1 (32 + k)) v5 v7 = v8 := by rw [e8, show v9 = 6 by omega]; rfl
                        refine z_iload hx dX9_feel_148 8 rfl ?_
                        refine z_iload hx dX9_feel_150 6 rfl ?_
                        refine z_icmp_le (tgt := 160) hx dX9_feel_152 (by decide) (by omega) (by omega) (fun c_16 => ?_) (fun c_16 => ?_)
                        ·
                          refine z_iload hx dX9_feel_160 6 rfl ?_
                          refine z_istore hx dX9_feel_162 (by decide) [1, 2, 3, 4, 5, 6, 0, 7, 8, 9] (lv' := [(0, .ref b), (1, .int (iI k)), (2, .int (iI (kof (S 1) k))), (3, .int (iI v3)), (4, .int (iI v4)), (5, .int (iI v5)), (6, .int (iI v6)), (7, .int (iI v7)), (8, .int (iI v8)), (9, .int (iI v9))]) rfl ?_
                          refine z_iinc hx dX9_feel_164 (by decide) 7 rfl [1, 2, 3, 4, 5, 6, 7, 0, 8, 9] (lv' := [(0, .ref b), (1, .int (iI k)), (2, .int (iI (kof (S 1) k))), (3, .int (iI v3)), (4, .int (iI v4)), (5, .int (iI v5)), (6, .int (iI v6)), (7, .int (iI (v7 + 1))), (8, .int (iI v8)), (9, .int (iI v9))]) rfl ?_
                          refine z_goto (tgt := 45) hx dX9_feel_167 (by decide) ?_
                          refine z_sub [0, 1, 2, 3, 4, 5, 6, 7] (lv' := [(0, .ref b), (1, .int (iI k)), (2, .int (iI (kof (S 1) k))), (3, .int (iI v3)), (4, .int (iI v4)), (5, .int (iI v5)), (6, .int (iI v6)), (7, .int (iI (v7 + 1)))]) rfl ?_
                          exact ih_8 _ _ (by omega) (by rw [mos_s (by omega), eL, ← e6]; first | rw [if_pos (by omega)] | rw [if_neg (by omega)] | (exfalso; omega))  (by omega)
                        ·
                          refine z_iload hx dX9_feel_155 8 rfl ?_
                          refine z_goto (tgt := 162) hx dX9_feel_157 (by decide) ?_
                          refine z_istore hx dX9_feel_162 (by decide) [1, 2, 3, 4, 5, 6, 0, 7, 8, 9] (lv' := [(0, .ref b), (1, .int (iI k)), (2, .int (iI (kof (S 1) k))), (3, .int (iI v3)), (4, .int (iI v4)), (5, .int (iI v5)), (6, .int (iI v8)), (7, .int (iI v7)), (8, .int (iI v8)), (9, .int (iI v9))]) rfl ?_
                          refine z_iinc hx dX9_feel_164 (by decide) 7 rfl [1, 2, 3, 4, 5, 6, 7, 0, 8, 9] (lv' := [(0, .ref b), (1, .int (iI k)), (2, .int (iI (kof (S 1) k))), (3, .int (iI v3)), (4, .int (iI v4)), (5, .int (iI v5)), (6, .int (iI v8)), (7, .int (iI (v7 + 1))), (8, .int (iI v8)), (9, .int (iI v9))]) rfl ?_
                          refine z_goto (tgt := 45) hx dX9_feel_167 (by decide) ?_
                          refine z_sub [0, 1, 2, 3, 4, 5, 6, 7] (lv' := [(0, .ref b), (1, .int (iI k)), (2, .int (iI (kof (S 1) k))), (3, .int (iI v3)), (4, .int (iI v4)), (5, .int (iI v5)), (6, .int (iI v8)), (7, .int (iI (v7 + 1)))]) rfl ?_
                          exact ih_8 _ _ (by omega) (by rw [mos_s (by omega), eL, ← e6]; first | rw [if_pos (by omega)] | rw [if_neg (by omega)] | (exfalso; omega))  (by omega)
                      ·
                        have hkk := hI.k k (by omega)
                        have hh7 := hol_rg (k := v7) (s := S 1 (32 + k)) (w := v5) (by omega) (by omega) (by omega)
                        have hh9 := hol_rg (k := v9) (s := S 1 (32 + k)) (w := v5) (by omega) (by omega) (by omega)
                        refine z_iload hx dX9_feel_65 7 rfl ?_
                        refine z_aload_n hx dX9_feel_67 rfl 0 rfl ?_
                        refine z_get hx dX9_feel_68 fl_X9_7 m0 rfl ?_
                        refine z_bipush hx dX9_feel_71 (by decide) ?_
                        refine z_iload_n hx dX9_feel_73 rfl 1 rfl ?_
                        refine z_iadd hx dX9_feel_74 ?_
                        refine z_iald hx dX9_feel_75 m1 (by omega) (by decide) ?_
                        have rg_17 := hI.rg ((32 + k)) (by omega)
                        refine z_iload hx dX9_feel_76 5 rfl ?_
                        refine z_cSI (as := [.int (iI v7), .int (iI (S 1 (32 + k))), .int (iI v5)]) (rest := []) hx dX9_feel_78 lk_X9_142 wt_X9_holdsBy mo_X9_holdsBy (kX9_holdsBy g (k := v7) (s := (S 1 (32 + k))) (w := v5) (by omega) (by omega) (by omega)) (by decide) rfl rfl (Nat.le_of_ble_eq_true rfl) ?_
                        refine z_iload hx dX9_feel_81 9 rfl ?_
                        refine z_aload_n hx dX9_feel_83 rfl 0 rfl ?_
                        refine z_get hx dX9_feel_84 fl_X9_7 m0 rfl ?_
                        refine z_bipush hx dX9_feel_87 (by decide) ?_
                        refine z_iload_n hx dX9_feel_89 rfl 1 rfl ?_
                        refine z_iadd hx dX9_feel_90 ?_
                        refine z_iald hx dX9_feel_91 m1 (by omega) (by decide) ?_
                        have rg_18 := hI.rg ((32 + k)) (by omega)
                        refine z_iload hx dX9_feel_92 5 rfl ?_
                        refine z_cSI (as := [.int (iI v9), .int (iI (S 1 (32 + k))), .int (iI v5)]) (rest := [.int (iI (hol v7 (S 1 (32 + k)) v5))]) hx dX9_feel_94 lk_X9_142 wt_X9_holdsBy mo_X9_holdsBy (kX9_holdsBy g (k := v9) (s := (S 1 (32 + k))) (w := v5) (by omega) (by omega) (by omega)) (by decide) rfl rfl (Nat.le_of_ble_eq_true rfl) ?_
                        refine z_icmp_ne (tgt := 104) hx dX9_feel_97 (by decide) (by omega) (by omega) (fun c_19 => ?_) (fun c_19 => ?_)
                        ·
                          refine z_iconst hx dX9_feel_104 ?_
                          refine z_istore hx dX9_feel_105 (by decide) [1, 2, 3, 4, 5, 6, 7, 8, 9, 10, 0] (lv' := [(0, .ref b), (1, .int (iI k)), (2, .int (iI (kof (S 1) k))), (3, .int (iI v3)), (4, .int (iI v4)), (5, .int (iI v5)), (6, .int (iI v6)), (7, .int (iI v7)), (8, .int (iI v8)), (9, .int (iI v9)), (10, .int (iI 0))]) rfl ?_
                          refine z_iload hx dX9_feel_107 8 rfl ?_
                          refine z_iload_n hx dX9_feel_109 rfl 2 rfl ?_
                          refine z_iload hx dX9_feel_110 7 rfl ?_
                          refine z_ishr hx dX9_feel_112 ?_
                          rw [show shrI (kof (S 1) k) v7 = ((kof (S 1) k) / pw v7) from by exact shrI_' (by omega) (by omega)]
                          refine z_iconst hx dX9_feel_113 ?_
                          refine z_iand hx dX9_feel_114 ?_
                          rw [show andI ((kof (S 1) k) / pw v7) 1 = (((kof (S 1) k) / pw v7) % 2) from by exact andI_1' (by omega)]
                          refine z_iconst hx dX9_feel_115 ?_
                          refine z_icmp_ne (tgt := 138) hx dX9_feel_116 (by decide) (by omega) (by decide) (fun c_20 => ?_) (fun c_20 => ?_)
                          ·
                            refine z_iconst hx dX9_feel_138 ?_
                            refine z_iadd hx dX9_feel_139 ?_
                            refine z_istore hx dX9_feel_140 (by decide) [1, 2, 3, 4, 5, 6, 7, 8, 0, 9, 10] (lv' := [(0, .ref b), (1, .int (iI k)), (2, .int (iI (kof (S 1) k))), (3, .int (iI v3)), (4, .int (iI v4)), (5, .int (iI v5)), (6, .int (iI v6)), (7, .int (iI v7)), (8, .int (iI (v8 + 0))), (9, .int (iI v9)), (10, .int (iI 0))]) rfl ?_
                            refine z_iinc hx dX9_feel_142 (by decide) 9 rfl [1, 2, 3, 4, 5, 6, 7, 8, 9, 0, 10] (lv' := [(0, .ref b), (1, .int (iI k)), (2, .int (iI (kof (S 1) k))), (3, .int (iI v3)), (4, .int (iI v4)), (5, .int (iI v5)), (6, .int (iI v6)), (7, .int (iI v7)), (8, .int (iI (v8 + 0))), (9, .int (iI (v9 + 1))), (10, .int (iI 0))]) rfl ?_
                            refine z_goto (tgt := 58) hx dX9_feel_145 (by decide) ?_
                            refine z_sub [0, 1, 2, 3, 4, 5, 6, 7, 8, 9] (lv' := [(0, .ref b), (1, .int (iI k)), (2, .int (iI (kof (S 1) k))), (3, .int (iI v3)), (4, .int (iI v4)), (5, .int (iI v5)), (6, .int (iI v6)), (7, .int (iI v7)), (8, .int (iI (v8 + 0))), (9, .int (iI (v9 + 1)))]) rfl ?_
                            exact ih_14 _ _ (by omega) (by rw [cnI_s _ (by omega), ← e8]; first | (rw [if_pos (show liP _ _ _ _ _ from ⟨⟨by omega, by omega⟩, by omega⟩)]) | (rw [if_neg (by rintro ⟨⟨q1, q2⟩, q3⟩; omega)]; try omega))  (by omega)
                          ·
                            refine z_iload_n hx dX9_feel_119 rfl 2 rfl ?_
                            refine z_iload hx dX9_feel_120 9 rfl ?_
                            refine z_ishr hx dX9_feel_122 ?_
                            rw [show shrI (kof (S 1) k) v9 = ((kof (S 1) k) / pw v9) from by exact shrI_' (by omega) (by omega)]
                            refine z_iconst hx dX9_feel_123 ?_
                            refine z_iand hx dX9_feel_124 ?_
                            rw [show andI ((kof (S 1) k) / pw v9) 1 = (((kof (S 1) k) / pw v9) % 2) from by exact andI_1' (by omega)]
                            refine z_iconst hx dX9_feel_125 ?_
                            refine z_icmp_ne (tgt := 138) hx dX9_feel_126 (by decide) (by omega) (by decide) (fun c_21 => ?_) (fun c_21 => ?_)
                            ·
                              refine z_iconst hx dX9_feel_138 ?_
                              refine z_iadd hx dX9_feel_139 ?_
                              refine z_istore hx dX9_feel_140 (by decide) [1, 2, 3, 4, 5, 6, 7, 8, 0, 9, 10] (lv' := [(0, .ref b), (1, .int (iI k)), (2, .int (iI (kof (S 1) k))), (3, .int (iI v3)), (4, .int (iI v4)), (5, .int (iI v5)), (6, .int (iI v6)), (7, .int (iI v7)), (8, .int (iI (v8 + 0))), (9, .int (iI v9)), (10, .int (iI 0))]) rfl ?_
                              refine z_iinc hx dX9_feel_142 (by decide) 9 rfl [1, 2, 3, 4, 5, 6, 7, 8, 9, 0, 10] (lv' := [(0, .ref b), (1, .int (iI k)), (2, .int (iI (kof (S 1) k))), (3, .int (iI v3)), (4, .int (iI v4)), (5, .int (iI v5)), (6, .int (iI v6)), (7, .int (iI v7)), (8, .int (iI (v8 + 0))), (9, .int (iI (v9 + 1))), (10, .int (iI 0))]) rfl ?_
                              refine z_goto (tgt := 58) hx dX9_feel_145 (by decide) ?_
                              refine z_sub [0, 1, 2, 3, 4, 5, 6, 7, 8, 9] (lv' := [(0, .ref b), (1, .int (iI k)), (2, .int (iI (kof (S 1) k))), (3, .int (iI v3)), (4, .int (iI v4)), (5, .int (iI v5)), (6, .int (iI v6)), (7, .int (iI v7)), (8, .int (iI (v8 + 0))), (9, .int (iI (v9 + 1)))]) rfl ?_
                              exact ih_14 _ _ (by omega) (by rw [cnI_s _ (by omega), ← e8]; first | (rw [if_pos (show liP _ _ _ _ _ from ⟨⟨by omega, by omega⟩, by omega⟩)]) | (rw [if_neg (by rintro ⟨⟨q1, q2⟩, q3⟩; omega)]; try omega))  (by omega)
                            ·
                              refine z_iload hx dX9_feel_129 10 rfl ?_
                              refine z_if_eq (tgt := 138) hx dX9_feel_131 (by decide) (by decide) (fun _ => ?_) (fun q => absurd q (by decide))
                              refine z_iconst hx dX9_feel_138 ?_
                              refine z_iadd hx dX9_feel_139 ?_
                              refine z_istore hx dX9_feel_140 (by decide) [1, 2, 3, 4, 5, 6, 7, 8, 0, 9, 10] (lv' := [(0, .ref b), (1, .int (iI k)), (2, .int (iI (kof (S 1) k))), (3, .int (iI v3)), (4, .int (iI v4)), (5, .int (iI v5)), (6, .int (iI v6)), (7, .int (iI v7)), (8, .int (iI (v8 + 0))), (9, .int (iI v9)), (10, .int (iI 0))]) rfl ?_
                              refine z_iinc hx dX9_feel_142 (by decide) 9 rfl [1, 2, 3, 4, 5, 6, 7, 8, 9, 0, 10] (lv' := [(0, .ref b), (1, .int (iI k)), (2, .int (iI (kof (S 1) k))), (3, .int (iI v3)), (4, .int (iI v4)), (5, .int (iI v5)), (6, .int (iI v6)), (7, .int (iI v7)), (8, .int (iI (v8 + 0))), (9, .int (iI (v9 + 1))), (10, .int (iI 0))]) rfl ?_
                              refine z_goto (tgt := 58) hx dX9_feel_145 (by decide) ?_
                              refine z_sub [0, 1, 2, 3, 4, 5, 6, 7, 8, 9] (lv' := [(0, .ref b), (1, .int (iI k)), (2, .int (iI (kof (S 1) k))), (3, .int (iI v3)), (4, .int (iI v4)), (5, .int (iI v5)), (6, .int (iI v6)), (7, .int (iI v7)), (8, .int (iI (v8 + 0))), (9, .int (iI (v9 + 1)))]) rfl ?_
                              exact ih_14 _ _ (by omega) (by rw [cnI_s _ (by omega), ← e8]; first | (rw [if_pos (show liP _ _ _ _ _ from ⟨⟨by omega, by omega⟩, by omega⟩)]) | (rw [if_neg (by rintro ⟨⟨q1, q2⟩, q3⟩; omega)]; try omega))  (by omega)
                        ·
                          refine z_iconst hx dX9_feel_100 ?_
                          refine z_goto (tgt := 105) hx dX9_feel_101 (by decide) ?_
                          refine z_istore hx dX9_feel_105 (by decide) [1, 2, 3, 4, 5, 6, 7, 8, 9, 10, 0] (lv' := [(0, .ref b), (1, .int (iI k)), (2, .int (iI (kof (S 1) k))), (3, .int (iI v3)), (4, .int (iI v4)), (5, .int (iI v5)), (6, .int (iI v6)), (7, .int (iI v7)), (8, .int (iI v8)), (9, .int (iI v9)), (10, .int (iI 1))]) rfl ?_
                          refine z_iload hx dX9_feel_107 8 rfl ?_
                          refine z_iload_n hx dX9_feel_109 rfl 2 rfl ?_
                          refine z_iload hx dX9_feel_110 7 rfl ?_
                          refine z_ishr hx dX9_feel_112 ?_
                          rw [show shrI (kof (S 1) k) v7 = ((kof (S 1) k) / pw v7) from by exact shrI_' (by omega) (by omega)]
                          refine z_iconst hx dX9_feel_113 ?_
                          refine z_iand hx dX9_feel_114 ?_
                          rw [show andI ((kof (S 1) k) / pw v7) 1 = (((kof (S 1) k) / pw v7) % 2) from by exact andI_1' (by omega)]
                          refine z_iconst hx dX9_feel_115 ?_
                          refine z_icmp_ne (tgt := 138) hx dX9_feel_116 (by decide) (by omega) (by decide) (fun c_23 => ?_) (fun c_23 => ?_)
                          ·
                            refine z_iconst hx dX9_feel_138 ?_
                            refine z_iadd hx dX9_feel_139 ?_
                            refine z_istore hx dX9_feel_140 (by decide) [1, 2, 3, 4, 5, 6, 7, 8, 0, 9, 10] (lv' := [(0, .ref b), (1, .int (iI k)), (2, .int (iI (kof (S 1) k))), (3, .int (iI v3)), (4, .int (iI v4)), (5, .int (iI v5)), (6, .int (iI v6)), (7, .int (iI v7)), (8, .int (iI (v8 + 0))), (9, .int (iI v9)), (10, .int (iI 1))]) rfl ?_
                            refine z_iinc hx dX9_feel_142 (by decide) 9 rfl [1, 2, 3, 4, 5, 6, 7, 8, 9, 0, 10] (lv' := [(0, .ref b), (1, .int (iI k)), (2, .int (iI (kof (S 1) k))), (3, .int (iI v3)), (4, .int (iI v4)), (5, .int (iI v5)), (6, .int (iI v6)), (7, .int (iI v7)), (8, .int (iI (v8 + 0))), (9, .int (iI (v9 + 1))), (10, .int (iI 1))]) rfl ?_
                            refine z_goto (tgt := 58) hx dX9_feel_145 (by decide) ?_
                            refine z_sub [0, 1, 2, 3, 4, 5, 6, 7, 8, 9] (lv' := [(0, .ref b), (1, .int (iI k)), (2, .int (iI (kof (S 1) k))), (3, .int (iI v3)), (4, .int (iI v4)), (5, .int (iI v5)), (6, .int (iI v6)), (7, .int (iI v7)), (8, .int (iI (v8 + 0))), (9, .int (iI (v9 + 1)))]) rfl ?_
                            exact ih_14 _ _ (by omega) (by rw [cnI_s _ (by omega), ← e8]; first | (rw [if_pos (show liP _ _ _ _ _ from ⟨⟨by omega, by omega⟩, by omega⟩)]) | (rw [if_neg (by rintro ⟨⟨q1, q2⟩, q3⟩; omega)]; try omega))  (by omega)
                          ·
                            refine z_iload_n hx dX9_feel_119 rfl 2 rfl ?_
                            refine z_iload hx dX9_feel_120 9 rfl ?_
                            refine z_ishr hx dX9_feel_122 ?_
                            rw [show shrI (kof (S 1) k) v9 = ((kof (S 1) k) / pw v9) from by exact shrI_' (by omega) (by omega)]
                            refine z_iconst hx dX9_feel_123 ?_
                            refine z_iand hx dX9_feel_124 ?_
                            rw [show andI ((kof (S 1) k) / pw v9) 1 = (((kof (S 1) k) / pw v9) % 2) from by exact andI_1' (by omega)]
                            refine z_iconst hx dX9_feel_125 ?_
                            refine z_icmp_ne (tgt := 138) hx dX9_feel_126 (by decide) (by omega) (by decide) (fun c_24 => ?_) (fun c_24 => ?_)
                            ·
                              refine z_iconst hx dX9_feel_138 ?_
                              refine z_iadd hx dX9_feel_139 ?_
                              refine z_istore hx dX9_feel_140 (by decide) [1, 2, 3, 4, 5, 6, 7, 8, 0, 9, 10] (lv' := [(0, .ref b), (1, .int (iI k)), (2, .int (iI (kof (S 1) k))), (3, .int (iI v3)), (4, .int (iI v4)), (5, .int (iI v5)), (6, .int (iI v6)), (7, .int (iI v7)), (8, .int (iI (v8 + 0))), (9, .int (iI v9)), (10, .int (iI 1))]) rfl ?_
                              refine z_iinc hx dX9_feel_142 (by decide) 9 rfl [1, 2, 3, 4, 5, 6, 7, 8, 9, 0, 10] (lv' := [(0, .ref b), (1, .int (iI k)), (2, .int (iI (kof (S 1) k))), (3, .int (iI v3)), (4, .int (iI v4)), (5, .int (iI v5)), (6, .int (iI v6)), (7, .int (iI v7)), (8, .int (iI (v8 + 0))), (9, .int (iI (v9 + 1))), (10, .int (iI 1))]) rfl ?_
                              refine z_goto (tgt := 58) hx dX9_feel_145 (by decide) ?_
                              refine z_sub [0, 1, 2, 3, 4, 5, 6, 7, 8, 9] (lv' := [(0, .ref b), (1, .int (iI k)), (2, .int (iI (kof (S 1) k))), (3, .int (iI v3)), (4, .int (iI v4)), (5, .int (iI v5)), (6, .int (iI v6)), (7, .int (iI v7)), (8, .int (iI (v8 + 0))), (9, .int (iI (v9 + 1)))]) rfl ?_
                              exact ih_14 _ _ (by omega) (by rw [cnI_s _ (by omega), ← e8]; first | (rw [if_pos (show liP _ _ _ _ _ from ⟨⟨by omega, by omega⟩, by omega⟩)]) | (rw [if_neg (by rintro ⟨⟨q1, q2⟩, q3⟩; omega)]; try omega))  (by omega)
                            ·
                              refine z_iload hx dX9_feel_129 10 rfl ?_
                              refine z_if_eq (tgt := 138) hx dX9_feel_131 (by decide) (by decide) (fun q => absurd q (by decide)) (fun _ => ?_)
                              refine z_iconst hx dX9_feel_134 ?_
                              refine z_goto (tgt := 139) hx dX9_feel_135 (by decide) ?_
                              refine z_iadd hx dX9_feel_139 ?_
                              refine z_istore hx dX9_feel_140 (by decide) [1, 2, 3, 4, 5, 6, 7, 8, 0, 9, 10] (lv' := [(0, .ref b), (1, .int (iI k)), (2, .int (iI (kof (S 1) k))), (3, .int (iI v3)), (4, .int (iI v4)), (5, .int (iI v5)), (6, .int (iI v6)), (7, .int (iI v7)), (8, .int (iI (v8 + 1))), (9, .int (iI v9)), (10, .int (iI 1))]) rfl ?_
                              refine z_iinc hx dX9_feel_142 (by decide) 9 rfl [1, 2, 3, 4, 5, 6, 7, 8, 9, 0, 10] (lv' := [(0, .ref b), (1, .int (iI k)), (2, .int (iI (kof (S 1) k))), (3, .int (iI v3)), (4, .int (iI v4)), (5, .int (iI v5)), (6, .int (iI v6)), (7, .int (iI v7)), (8, .int (iI (v8 + 1))), (9, .int (iI (v9 + 1))), (10, .int (iI 1))]) rfl ?_
                              refine z_goto (tgt := 58) hx dX9_feel_145 (by decide) ?_
                              refine z_sub [0, 1, 2, 3, 4, 5, 6, 7, 8, 9] (lv' := [(0, .ref b), (1, .int (iI k)), (2, .int (iI (kof (S 1) k))), (3, .int (iI v3)), (4, .int (iI v4)), (5, .int (iI v5)), (6, .int (iI v6)), (7, .int (iI v7)), (8, .int (iI (v8 + 1))), (9, .int (iI (v9 + 1)))]) rfl ?_
                              exact ih_14 _ _ (by omega) (by rw [cnI_s _ (by omega), ← e8]; first | (rw [if_pos (show liP _ _ _ _ _ from ⟨⟨by omega, by omega⟩, by omega⟩)]) | (rw [if_neg (by rintro ⟨⟨q1, q2⟩, q3⟩; omega)]; try omega))  (by omega)
                  exact hL_13 (((6 : Int) - 0) + 1 : Int).toNat _ _ (by omega) (by rfl)  (by omega)
            exact hL_7 (((6 : Int) - 0) + 1 : Int).toNat _ _ (by omega) (by rfl)  (by omega)
    exact hL_3 (((41 : Int) - 0) + 1 : Int).toNat _ _ _ (by omega) (by omega) (by rfl) (by rfl)  (by omega)
  ·
    refine z_aload_n hx dX9_feel_8 rfl 0 rfl ?_
    refine z_cVJ (as := []) (rest := []) hx dX9_feel_9 lk_X9_55 wm_X9_bad wv_X9_bad (rcv_obj hx m0 rfl) mo_X9_bad (kX9_bad g  ⟨m0, m1, m2, m3, m4, m5, m6, m7, m8⟩) (by decide) rfl rfl (Nat.le_of_ble_eq_true rfl) (fun h_26 q_27 => ?_)
    have fr_28 : Fr h h_26 b 9 := q_27.2.wd (by omega) (by omega)
    refine z_iret hx hr dX9_feel_12 rfl rfl (q_j (by unfold feelA; (repeat (first | rw [if_pos (by omega)] | rw [if_neg (by omega)])); (try rw [eV]); (try rfl)) (by unfold feelA; (repeat (first | rw [if_pos (by omega)] | rw [if_neg (by omega)])); exact ⟨q_27.1, fr_28⟩))

set_option maxHeartbeats 4000000 in
set_option maxRecDepth 20000 in
theorem kX9_inside (g : Gt) {h : AH} {b : Nat} {S : Nat → Int → Int} {k : Int} {x9 : Int} {w : Int} (hM : RM h b S) (hV : invM S) (g_k : rgI k) (g_x9 : rgI x9) (g_w : rgI w) : CnJ g mX9_inside 5 [.ref b, .int (iI k), .int (iI x9), .int (iI w)] h (insideA S k x9 w).1 (QM h b (insideA S k x9 w).2) := by
  refine Cn.mk (by decide +kernel) (Nat.le_of_ble_eq_true rfl) ?_
  intro x sz hx hr
  show Zj g x (sz, 0, 0) h 0 [(0, .ref b), (1, .int (iI k)), (2, .int (iI x9)), (3, .int (iI w))] []
  obtain ⟨m0, m1, m2, m3, m4, m5, m6, m7, m8⟩ := hM
  have hN := hV.1
  have hI := hN.1
  have hn := hI.n
  have h58 : 0 ≤ S 1 58 ∧ S 1 58 ≤ 8 := ⟨(hI.rg 58 (by decide)).1, hN.2.2.2.1⟩
  have h39 : 0 ≤ S 1 39 ∧ S 1 39 ≤ 6 := ⟨(hI.rg 39 (by decide)).1, hN.2.2.1⟩
  have h0 : 0 ≤ S 1 0 ∧ S 1 0 ≤ 999 := ⟨hN.2.1.2, hN.2.1.1⟩
  refine z_aload_n hx dX9_inside_0 rfl 0 rfl ?_
  refine z_iload_n hx dX9_inside_1 rfl 1 rfl ?_
  refine z_cVI (as := [.int (iI k)]) (rest := []) hx dX9_inside_2 lk_X9_194 wm_X9_isCosy wv_X9_isCosy (rcv_obj hx m0 rfl) mo_X9_isCosy (kX9_isCosy g (S := S) ⟨m0, m1, m2, m3, m4, m5, m6, m7, m8⟩ hI (by first | exact g_k | omega)) (by decide) rfl rfl (Nat.le_of_ble_eq_true rfl) ?_
  refine z_ifeq_b (tgt := 27) hx dX9_inside_5 (by decide)  (fun c_1 => ?_) (fun c_1 => ?_)
  ·
    refine z_aload_n hx dX9_inside_27 rfl 0 rfl ?_
    refine z_cVJ (as := []) (rest := []) hx dX9_inside_28 lk_X9_55 wm_X9_bad wv_X9_bad (rcv_obj hx m0 rfl) mo_X9_bad (kX9_bad g  ⟨m0, m1, m2, m3, m4, m5, m6, m7, m8⟩) (by decide) rfl rfl (Nat.le_of_ble_eq_true rfl) (fun h_2 q_3 => ?_)
    have fr_4 : Fr h h_2 b 9 := q_3.2.wd (by omega) (by omega)
    refine z_iret hx hr dX9_inside_31 rfl rfl (q_j (by unfold insideA; (repeat (first | rw [if_pos (by omega)] | rw [if_neg (by omega)])); (try rw [eN]); (try unfold insV); (repeat (first | rw [if_pos (by omega)] | rw [if_neg (by omega)])); (try rw [eV]); (try rfl)) (by unfold insideA; (repeat (first | rw [if_pos (by omega)] | rw [if_neg (by omega)])); exact ⟨q_3.1, fr_4⟩))
  ·
    refine z_iload_n hx dX9_inside_8 rfl 2 rfl ?_
    refine z_iconst hx dX9_inside_9 ?_
    refine z_bipush hx dX9_inside_10 (by decide) ?_
    refine z_cSI (as := [.int (iI x9), .int (iI 0), .int (iI 8)]) (rest := []) hx dX9_inside_12 lk_X9_43 wt_X9_in mo_X9_in (kX9_in g (a := x9) (b := 0) (c := 8) (by omega) (by omega) (by omega)) (by decide) rfl rfl (Nat.le_of_ble_eq_true rfl) ?_
    refine z_ifeq_b (tgt := 27) hx dX9_inside_15 (by decide)  (fun c_5 => ?_) (fun c_5 => ?_)
    ·
      refine z_aload_n hx dX9_inside_27 rfl 0 rfl ?_
      refine z_cVJ (as := []) (rest := []) hx dX9_inside_28 lk_X9_55 wm_X9_bad wv_X9_bad (rcv_obj hx m0 rfl) mo_X9_bad (kX9_bad g  ⟨m0, m1, m2, m3, m4, m5, m6, m7, m8⟩) (by decide) rfl rfl (Nat.le_of_ble_eq_true rfl) (fun h_6 q_7 => ?_)
      have fr_8 : Fr h h_6 b 9 := q_7.2.wd (by omega) (by omega)
      refine z_iret hx hr dX9_inside_31 rfl rfl (q_j (by unfold insideA; (repeat (first | rw [if_pos (by omega)] | rw [if_neg (by omega)])); (try rw [eN]); (try unfold insV); (repeat (first | rw [if_pos (by omega)] | rw [if_neg (by omega)])); (try rw [eV]); (try rfl)) (by unfold insideA; (repeat (first | rw [if_pos (by omega)] | rw [if_neg (by omega)])); exact ⟨q_7.1, fr_8⟩))
    ·
      refine z_iload_n hx dX9_inside_18 rfl 3 rfl ?_
      refine z_iconst hx dX9_inside_19 ?_
      refine z_iconst hx dX9_inside_20 ?_
      refine z_cSI (as := [.int (iI w), .int (iI 0), .int (iI 1)]) (rest := []) hx dX9_inside_21 lk_X9_43 wt_X9_in mo_X9_in (kX9_in g (a := w) (b := 0) (c := 1) (by omega) (by omega) (by omega)) (by decide) rfl rfl (Nat.le_of_ble_eq_true rfl) ?_
      refine z_ifne_b (tgt := 32) hx dX9_inside_24 (by decide)  (fun c_9 => ?_) (fun c_9 => ?_)
      ·
        refine z_iconst hx dX9_inside_32 ?_
        refine z_istore hx dX9_inside_33 (by decide) [1, 2, 3, 4, 0] (lv' := [(0, .ref b), (1, .int (iI k)), (2, .int (iI x9)), (3, .int (iI w)), (4, .int (iI 0))]) rfl ?_
        refine z_iconst hx dX9_inside_35 ?_
        refine z_istore hx dX9_inside_36 (by decide) [1, 2, 3, 4, 5, 0] (lv' := [(0, .ref b), (1, .int (iI k)), (2, .int (iI x9)), (3, .int (iI w)), (4, .int (iI 0)), (5, .int (iI 0))]) rfl ?_
        have hL_10 : ∀ (mm : Nat) (v4 : Int) (v5 : Int), (0 ≤ v5 ∧ v5 ≤ S 1 37) → (v4 = msk (fun p => S 1 (17 + p) ≠ 6 ∧ far (S 1 (11 + p)) (S 1 (1 + k)) ≤ x9) v5) → S 1 37 - v5 < (mm : Int) → Zj g x (sz, 0, 0) h 38 [(0, .ref b), (1, .int (iI k)), (2, .int (iI x9)), (3, .int (iI w)), (4, .int (iI v4)), (5, .int (iI v5))] [] := by
          intro mm
          induction mm with
          | zero => intro v4 v5 kv e4 hm; exfalso; omega
          | succ mm ih =>
            intro v4 v5 kv e4 hm
            have ih_11 := ih; clear ih
            have hm := msk_rg (fun p => S 1 (17 + p) ≠ 6 ∧ far (S 1 (11 + p)) (S 1 (1 + k)) ≤ x9) (n := v5) (by omega)
            have hm2 := msk_64 (fun p => S 1 (17 + p) ≠ 6 ∧ far (S 1 (11 + p)) (S 1 (1 + k)) ≤ x9) (n := v5) (by omega)
            rw [← e4] at hm hm2
            refine z_iload hx dX9_inside_38 5 rfl ?_
            refine z_aload_n hx dX9_inside_40 rfl 0 rfl ?_
            refine z_get hx dX9_inside_41 fl_X9_7 m0 rfl ?_
            refine z_bipush hx dX9_inside_44 (by decide) ?_
            refine z_iald hx dX9_inside_46 m1 (by decide) (by decide) ?_
            have rg_12 := hI.rg (37) (by decide)
            refine z_icmp_ge (tgt := 109) hx dX9_inside_47 (by decide) (by omega) (by omega) (fun c_13 => ?_) (fun c_13 => ?_)
            ·
              have eN : nea (S 1) k x9 = v4 := by rw [e4, show v5 = S 1 37 by omega]; rfl
              have hm3 := msk_64 (fun p => S 1 (17 + p) ≠ 6 ∧ far (S 1 (11 + p)) (S 1 (1 + k)) ≤ x9) (n := v5) (by omega)
              rw [← e4] at hm3
              refine z_iconst hx dX9_inside_109 ?_
              refine z_istore hx dX9_inside_110 (by decide) [1, 2, 3, 4, 5, 0] (lv' := [(0, .ref b), (1, .int (iI k)), (2, .int (iI x9)), (3, .int (iI w)), (4, .int (iI v4)), (5, .int (iI 0))]) rfl ?_
              refine z_iconst hx dX9_inside_112 ?_
              refine z_istore hx dX9_inside_113 (by decide) [1, 2, 3, 4, 5, 6, 0] (lv' := [(0, .ref b), (1, .int (iI k)), (2, .int (iI x9)), (3, .int (iI w)), (4, .int (iI v4)), (5, .int (iI 0)), (6, .int (iI 0))]) rfl ?_
              refine z_iconst hx dX9_inside_115 ?_
              refine z_istore hx dX9_inside_116 (by decide) [1, 2, 3, 4, 5, 6, 7, 0] (lv' := [(0, .ref b), (1, .int (iI k)), (2, .int (iI x9)), (3, .int (iI w)), (4, .int (iI v4)), (5, .int (iI 0)), (6, .int (iI 0)), (7, .int (iI 0))]) rfl ?_
              have hL_14 : ∀ (mm : Nat) (w5 : Int) (w6 : Int) (w7 : Int), (0 ≤ w7 ∧ w7 ≤ v4 + 1) → (0 ≤ w5 ∧ w5 ≤ w7) → (0 ≤ w6 ∧ w6 < 64) → ((w5, w6) = itI w7 (insG v4 (hlf (S 1) k)) (0, 0)) → v4 + 1 - w7 < (mm : Int) → Zj g x (sz, 0, 0) h 118 [(0, .ref b), (1, .int (iI k)), (2, .int (iI x9)), (3, .int (iI w)), (4, .int (iI v4)), (5, .int (iI w5)), (6, .int (iI w6)), (7, .int (iI w7))] [] := by
                intro mm
                induction mm with
                | zero => intro w5 w6 w7 kw k5 k6 e5 hm; exfalso; omega
                | succ mm ih =>
                  intro w5 w6 w7 kw k5 k6 e5 hm
                  have ih_15 := ih; clear ih
                  have ha7 := andI_rg w7 (xorI v4 (-1))
                  have hp7 := popc_rg (v := w7)
                  have hh7 := hlf_rg hI (k := k) (by omega)
                  refine z_iload hx dX9_inside_118 7 rfl ?_
                  refine z_iload hx dX9_inside_120 4 rfl ?_
                  refine z_icmp_gt (tgt := 196) hx dX9_inside_122 (by decide) (by omega) (by omega) (fun c_16 => ?_) (fun c_16 => ?_)
                  ·
                    have eV : itI (v4 + 1) (insG v4 (hlf (S 1) k)) (0, 0) = (w5, w6) := by rw [e5, show w7 = v4 + 1 by omega]
                    refine z_iload_n hx dX9_inside_196 rfl 3 rfl ?_
                    refine z_if_ne (tgt := 205) hx dX9_inside_197 (by decide) (by omega) (fun c_17 => ?_) (fun c_17 => ?_)
                    ·
                      refine z_iload hx dX9_inside_205 6 rfl ?_
                      refine z_iret hx hr dX9_inside_207 rfl rfl (q_j (by unfold insideA; (repeat (first | rw [if_pos (by omega)] | rw [if_neg (by omega)])); (try rw [eN]); (try unfold insV); (repeat (first | rw [if_pos (by omega)] | rw [if_neg (by omega)])); (try rw [eV]); (try rfl)) (by unfold insideA; (repeat (first | rw [if_pos (by omega)] | rw [if_neg (by omega)])); exact ⟨⟨m0, m1, m2, m3, m4, m5, m6, m7, m8⟩, Fr.rf⟩))
                    ·
                      refine z_iload hx dX9_inside_200 5 rfl ?_
                      refine z_goto (tgt := 207) hx dX9_inside_202 (by decide) ?_
                      refine z_iret hx hr dX9_inside_207 rfl rfl (q_j (by unfold insideA; (repeat (first | rw [if_pos (by omega)] | rw [if_neg (by omega)])); (try rw [eN]); (try unfold insV); (repeat (first | rw [if_pos (by omega)] | rw [if_neg (by omega)])); (try rw [eV]); (try rfl)) (by unfold insideA; (repeat (first | rw [if_pos (by omega)] | rw [if_neg (by omega)])); exact ⟨⟨m0, m1, m2, m3, m4, m5, m6, m7, m8⟩, Fr.rf⟩))
                  ·
                    refine z_iload hx dX9_inside_125 7 rfl ?_
                    refine z_iload hx dX9_inside_127 4 rfl ?_
                    refine z_iconst hx dX9_inside_129 ?_
                    refine z_ixor hx dX9_inside_130 ?_
                    refine z_iand hx dX9_inside_131 ?_
                    refine z_if_ne (tgt := 155) hx dX9_inside_132 (by decide) (by omega) (fun c_18 => ?_) (fun c_18 => ?_)
                    ·
                      refine z_iconst hx dX9_inside_155 ?_
                      refine z_istore hx dX9_inside_156 (by decide) [1, 2, 3, 4, 5, 6, 7, 8, 0] (lv' := [(0, .ref b), (1, .int (iI k)), (2, .int (iI x9)), (3, .int (iI w)), (4, .int (iI v4)), (5, .int (iI w5)), (6, .int (iI w6)), (7, .int (iI w7)), (8, .int (iI 0))]) rfl ?_
                      refine z_iload hx dX9_inside_158 5 rfl ?_
                      refine z_iload hx dX9_inside_160 8 rfl ?_
                      refine z_if_eq (tgt := 169) hx dX9_inside_162 (by decide) (by decide) (fun _ => ?_) (fun q => absurd q (by decide))
                      refine z_iconst hx dX9_inside_169 ?_
                      refine z_iadd hx dX9_inside_170 ?_
                      refine z_istore hx dX9_inside_171 (by decide) [1, 2, 3, 4, 5, 0, 6, 7, 8] (lv' := [(0, .ref b), (1, .int (iI k)), (2, .int (iI x9)), (3, .int (iI w)), (4, .int (iI v4)), (5, .int (iI (w5 + 0))), (6, .int (iI w6)), (7, .int (iI w7)), (8, .int (iI 0))]) rfl ?_
                      refine z_iload hx dX9_inside_173 8 rfl ?_
                      refine z_if_eq (tgt := 186) hx dX9_inside_175 (by decide) (by decide) (fun _ => ?_) (fun q => absurd q (by decide))
                      refine z_iload hx dX9_inside_186 6 rfl ?_
                      refine z_istore hx dX9_inside_188 (by decide) [1, 2, 3, 4, 5, 6, 0, 7, 8] (lv' := [(0, .ref b), (1, .int (iI k)), (2, .int (iI x9)), (3, .int (iI w)), (4, .int (iI v4)), (5, .int (iI (w5 + 0))), (6, .int (iI w6)), (7, .int (iI w7)), (8, .int (iI 0))]) rfl ?_
                      refine z_iinc hx dX9_inside_190 (by decide) 7 rfl [1, 2, 3, 4, 5, 6, 7, 0, 8] (lv' := [(0, .ref b), (1, .int (iI k)), (2, .int (iI x9)), (3, .int (iI w)), (4, .int (iI v4)), (5, .int (iI (w5 + 0))), (6, .int (iI w6)), (7, .int (iI (w7 + 1))), (8, .int (iI 0))]) rfl ?_
                      refine z_goto (tgt := 118) hx dX9_inside_193 (by decide) ?_
                      refine z_sub [0, 1, 2, 3, 4, 5, 6, 7] (lv' := [(0, .ref b), (1, .int (iI k)), (2, .int (iI x9)), (3, .int (iI w)), (4, .int (iI v4)), (5, .int (iI (w5 + 0))), (6, .int (iI w6)), (7, .int (iI (w7 + 1)))]) rfl ?_
                      exact ih_15 _ _ _ (by omega) (by omega) (by first | omega | exact orI_64 k6 (by omega)) (by rw [ins_s (by omega), ← e5]; unfold insG; first | (rw [if_pos ⟨by omega, by omega⟩]) | (rw [if_neg (by rintro ⟨q1, q2⟩; omega)]; first | done | rfl | simp))  (by omega)
                    ·
                      refine z_iload hx dX9_inside_135 7 rfl ?_
                      refine z_cSI (as := [.int (iI w7)]) (rest := []) hx dX9_inside_137 lk_X9_155 wt_X9_bits mo_X9_bits (kX9_bits g (v := w7) (by omega)) (by decide) rfl rfl (Nat.le_of_ble_eq_true rfl) ?_
                      have f_21 := popc_rg (v := w7)
                      refine z_aload_n hx dX9_inside_140 rfl 0 rfl ?_
                      refine z_get hx dX9_inside_141 fl_X9_7 m0 rfl ?_
                      refine z_iload_n hx dX9_inside_144 rfl 1 rfl ?_
                      refine z_cSI (as := [.ref (b + 1), .int (iI k)]) (rest := [.int (iI (popc w7))]) hx dX9_inside_145 lk_X9_149 wt_X9_holds mo_X9_holds (kX9_holds g (k := k) m1 hI (by omega)) (by decide) rfl rfl (Nat.le_of_ble_eq_true rfl) ?_
                      have f_22 := hlf_rg hI (k := k) (by omega)
                      refine z_icmp_gt (tgt := 155) hx dX9_inside_148 (by decide) (by omega) (by omega) (fun c_23 => ?_) (fun c_23 => ?_)
                      ·
                        refine z_iconst hx dX9_inside_155 ?_
                        refine z_istore hx dX9_inside_156 (by decide) [1, 2, 3, 4, 5, 6, 7, 8, 0] (lv' := [(0, .ref b), (1, .int (iI k)), (2, .int (iI x9)), (3, .int (iI w)), (4, .int (iI v4)), (5, .int (iI w5)), (6, .int (iI w6)), (7, .int (iI w7)), (8, .int (iI 0))]) rfl ?_
                        refine z_iload hx dX9_inside_158 5 rfl ?_
                        refine z_iload hx dX9_inside_160 8 rfl ?_
                        refine z_if_eq (tgt := 169) hx dX9_inside_162 (by decide) (by decide) (fun _ => ?_) (fun q => absurd q (by decide))
                        refine z_iconst hx dX9_inside_169 ?_
                        refine z_iadd hx dX9_inside_170 ?_
                        refine z_istore hx dX9_inside_171 (by decide) [1, 2, 3, 4, 5, 0, 6, 7, 8] (lv' := [(0, .ref b), (1, .int (iI k)), (2, .int (iI x9)), (3, .int (iI w)), (4, .int (iI v4)), (5, .int (iI (w5 + 0))), (6, .int (iI w6)), (7, .int (iI w7)), (8, .int (iI 0))]) rfl ?_
                        refine z_iload hx dX9_inside_173 8 rfl ?_
                        refine z_if_eq (tgt := 186) hx dX9_inside_175 (by decide) (by decide) (fun _ => ?_) (fun q => absurd q (by decide))
                        refine z_iload hx dX9_inside_186 6 rfl ?_
                        refine z_istore hx dX9_inside_188 (by decide) [1, 2, 3, 4, 5, 6, 0, 7, 8] (lv' := [(0, .ref b), (1, .int (iI k)), (2, .int (iI x9)), (3, .int (iI w)), (4, .int (iI v4)), (5, .int (iI (w5 + 0))), (6, .int (iI w6)), (7, .int (iI w7)), (8, .int (iI 0))]) rfl ?_
                        refine z_iinc hx dX9_inside_190 (by decide) 7 rfl [1, 2, 3, 4, 5, 6, 7, 0, 8] (lv' := [(0, .ref b), (1, .int (iI k)), (2, .int (iI x9)), (3, .int (iI w)), (4, .int (iI v4)), (5, .int (iI (w5 + 0))), (6, .int (iI w6)), (7, .int (iI (w7 + 1))), (8, .int (iI 0))]) rfl ?_
                        refine z_goto (tgt := 118) hx dX9_inside_193 (by decide) ?_
                        refine z_sub [0, 1, 2, 3, 4, 5, 6, 7] (lv' := [(0, .ref b), (1, .int (iI k)), (2, .int (iI x9)), (3, .int (iI w)), (4, .int (iI v4)), (5, .int (iI (w5 + 0))), (6, .int (iI w6)), (7, .int (iI (w7 + 1)))]) rfl ?_
                        exact ih_15 _ _ _ (by omega) (by omega) (by first | omega | exact orI_64 k6 (by omega)) (by rw [ins_s (by omega), ← e5]; unfold insG; first | (rw [if_pos ⟨by omega, by omega⟩]) | (rw [if_neg (by rintro ⟨q1, q2⟩; omega)]; first | done | rfl | simp))  (by omega)
                      ·
                        refine z_iconst hx dX9_inside_151 ?_
                        refine z_goto (tgt := 156) hx dX9_inside_152 (by decide) ?_
                        refine z_istore hx dX9_inside_156 (by decide) [1, 2, 3, 4, 5, 6, 7, 8, 0] (lv' := [(0, .ref b), (1, .int (iI k)), (2, .int (iI x9)), (3, .int (iI w)), (4, .int (iI v4)), (5, .int (iI w5)), (6, .int (iI w6)), (7, .int (iI w7)), (8, .int (iI 1))]) rfl ?_
                        refine z_iload hx dX9_inside_158 5 rfl ?_
                        refine z_iload hx dX9_inside_160 8 rfl ?_
                        refine z_if_eq (tgt := 169) hx dX9_inside_162 (by decide) (by decide) (fun q => absurd q (by decide)) (fun _ => ?_)
                        refine z_iconst hx dX9_inside_165 ?_
                        refine z_goto (tgt := 170) hx dX9_inside_166 (by decide) ?_
                        refine z_iadd hx dX9_inside_170 ?_
                        refine z_istore hx dX9_inside_171 (by decide) [1, 2, 3, 4, 5, 0, 6, 7, 8] (lv' := [(0, .ref b), (1, .int (iI k)), (2, .int (iI x9)), (3, .int (iI w)), (4, .int (iI v4)), (5, .int (iI (w5 + 1))), (6, .int (iI w6)), (7, .int (iI w7)), (8, .int (iI 1))]) rfl ?_
                        refine z_iload hx dX9_inside_173 8 rfl ?_
                        refine z_if_eq (tgt := 186) hx dX9_inside_175 (by decide) (by decide) (fun q => absurd q (by decide)) (fun _ => ?_)
                        refine z_iload hx dX9_inside_178 6 rfl ?_
                        refine z_iload hx dX9_inside_180 7 rfl ?_
                        refine z_ior hx dX9_inside_182 ?_
                        refine z_goto (tgt := 188) hx dX9_inside_183 (by decide) ?_
                        refine z_istore hx dX9_inside_188 (by decide) [1, 2, 3, 4, 5, 6, 0, 7, 8] (lv' := [(0, .ref b), (1, .int (iI k)), (2, .int (iI x9)), (3, .int (iI w)), (4, .int (iI v4)), (5, .int (iI (w5 + 1))), (6, .int (iI (orI w6 w7))), (7, .int (iI w7)), (8, .int (iI 1))]) rfl ?_
                        refine z_iinc hx dX9_inside_190 (by decide) 7 rfl [1, 2, 3, 4, 5, 6, 7, 0, 8] (lv' := [(0, .ref b), (1, .int (iI k)), (2, .int (iI x9)), (3, .int (iI w)), (4, .int (iI v4)), (5, .int (iI (w5 + 1))), (6, .int (iI (orI w6 w7))), (7, .int (iI (w7 + 1))), (8, .int (iI 1))]) rfl ?_
                        refine z_goto (tgt := 118) hx dX9_inside_193 (by decide) ?_
                        refine z_sub [0, 1, 2, 3, 4, 5, 6, 7] (lv' := [(0, .ref b), (1, .int (iI k)), (2, .int (iI x9)), (3, .int (iI w)), (4, .int (iI v4)), (5, .int (iI (w5 + 1))), (6, .int (iI (orI w6 w7))), (7, .int (iI (w7 + 1)))]) rfl ?_
                        exact ih_15 _ _ _ (by omega) (by omega) (by first | omega | exact orI_64 k6 (by omega)) (by rw [ins_s (by omega), ← e5]; unfold insG; first | (rw [if_pos ⟨by omega, by omega⟩]) | (rw [if_neg (by rintro ⟨q1, q2⟩; omega)]; first | done | rfl | simp))  (by omega)
              exact hL_14 ((v4 + 1 - 0) + 1 : Int).toNat _ _ _ (by omega) (by omega) (by omega) (by rfl)  (by omega)
            ·
              have hp := hI.p v5 (by omega)
              have hkk := hI.k k (by omega)
              have hff := far_rg (a := S 1 (11 + v5)) (b := S 1 (1 + k)) (by omega) (by omega)
              have hpw := pw_rg (p := v5) (by omega)
              refine z_iload hx dX9_inside_50 4 rfl ?_
              refine z_aload_n hx dX9_inside_52 rfl 0 rfl ?_
              refine z_get hx dX9_inside_53 fl_X9_7 m0 rfl ?_
              refine z_bipush hx dX9_inside_56 (by decide) ?_
              refine z_iload hx dX9_inside_58 5 rfl ?_
              refine z_iadd hx dX9_inside_60 ?_
              refine z_iald hx dX9_inside_61 m1 (by omega) (by decide) ?_
              have rg_28 := hI.rg ((17 + v5)) (by omega)
              refine z_bipush hx dX9_inside_62 (by decide) ?_
              refine z_icmp_eq (tgt := 99) hx dX9_inside_64 (by decide) (by omega) (by decide) (fun c_29 => ?_) (fun c_29 => ?_)
              ·
                refine z_iconst hx dX9_inside_99 ?_
                refine z_ior hx dX9_inside_100 ?_
                rw [show orI v4 0 = v4 from by exact orI_0 (by omega)]
                refine z_istore hx dX9_inside_101 (by decide) [1, 2, 3, 4, 0, 5] (lv' := [(0, .ref b), (1, .int (iI k)), (2, .int (iI x9)), (3, .int (iI w)), (4, .int (iI v4)), (5, .int (iI v5))]) rfl ?_
                refine z_iinc hx dX9_inside_103 (by decide) 5 rfl [1, 2, 3, 4, 5, 0] (lv' := [(0, .ref b), (1, .int (iI k)), (2, .int (iI x9)), (3, .int (iI w)), (4, .int (iI v4)), (5, .int (iI (v5 + 1)))]) rfl ?_
                refine z_goto (tgt := 38) hx dX9_inside_106 (by decide) ?_
                exact ih_11 _ _ (by omega) (by rw [msk_s _ (by omega), ← e4]; first | (rw [if_pos ⟨by omega, by omega⟩]) | (rw [if_neg (by rintro ⟨q1, q2⟩; omega)]; try omega))  (by omega)
              ·
                refine z_aload_n hx dX9_inside_67 rfl 0 rfl ?_
                refine z_get hx dX9_inside_68 fl_X9_7 m0 rfl ?_
                refine z_bipush hx dX9_inside_71 (by decide) ?_
                refine z_iload hx dX9_inside_73 5 rfl ?_
                refine z_iadd hx dX9_inside_75 ?_
                refine z_iald hx dX9_inside_76 m1 (by omega) (by decide) ?_
                have rg_30 := hI.rg ((11 + v5)) (by omega)
                refine z_aload_n hx dX9_inside_77 rfl 0 rfl ?_
                refine z_get hx dX9_inside_78 fl_X9_7 m0 rfl ?_
                refine z_iconst hx dX9_inside_81 ?_
                refine z_iload_n hx dX9_inside_82 rfl 1 rfl ?_
                refine z_iadd hx dX9_inside_83 ?_
                refine z_iald hx dX9_inside_84 m1 (by omega) (by decide) ?_
                have rg_31 := hI.rg ((1 + k)) (by omega)
                refine z_cSI (as := [.int (iI (S 1 (11 + v5))), .int (iI (S 1 (1 + k)))]) (rest := [.int (iI v4)]) hx dX9_inside_85 lk_X9_158 wt_X9_far mo_X9_far (kX9_far g (a := (S 1 (11 + v5))) (b := (S 1 (1 + k))) (by omega) (by omega)) (by decide) rfl rfl (Nat.le_of_ble_eq_true rfl) ?_
                refine z_iload_n hx dX9_inside_88 rfl 2 rfl ?_
                refine z_icmp_gt (tgt := 99) hx dX9_inside_89 (by decide) (by omega) (by omega) (fun c_32 => ?_) (fun c_32 => ?_)
                ·
                  refine z_iconst hx dX9_inside_99 ?_
                  refine z_ior hx dX9_inside_100 ?_
                  rw [show orI v4 0 = v4 from by exact orI_0 (by omega)]
                  refine z_istore hx dX9_inside_101 (by decide) [1, 2, 3, 4, 0, 5] (lv' := [(0, .ref b), (1, .int (iI k)), (2, .int (iI x9)), (3, .int (iI w)), (4, .int (iI v4)), (5, .int (iI v5))]) rfl ?_
                  refine z_iinc hx dX9_inside_103 (by decide) 5 rfl [1, 2, 3, 4, 5, 0] (lv' := [(0, .ref b), (1, .int (iI k)), (2, .int (iI x9)), (3, .int (iI w)), (4, .int (iI v4)), (5, .int (iI (v5 + 1)))]) rfl ?_
                  refine z_goto (tgt := 38) hx dX9_inside_106 (by decide) ?_
                  exact ih_11 _ _ (by omega) (by rw [msk_s _ (by omega), ← e4]; first | (rw [if_pos ⟨by omega, by omega⟩]) | (rw [if_neg (by rintro ⟨q1, q2⟩; omega)]; try omega))  (by omega)
                ·
                  refine z_iconst hx dX9_inside_92 ?_
                  refine z_iload hx dX9_inside_93 5 rfl ?_
                  refine z_ishl hx dX9_inside_95 ?_
                  rw [show shlI 1 v5 = (pw v5) from by exact shlI_' (by omega)]
                  refine z_goto (tgt := 100) hx dX9_inside_96 (by decide) ?_
                  refine z_ior hx dX9_inside_100 ?_
                  rw [show orI v4 (pw v5) = (v4 + (pw v5)) from by exact orI_pw (by omega) (by omega)]
                  refine z_istore hx dX9_inside_101 (by decide) [1, 2, 3, 4, 0, 5] (lv' := [(0, .ref b), (1, .int (iI k)), (2, .int (iI x9)), (3, .int (iI w)), (4, .int (iI (v4 + (pw v5)))), (5, .int (iI v5))]) rfl ?_
                  refine z_iinc hx dX9_inside_103 (by decide) 5 rfl [1, 2, 3, 4, 5, 0] (lv' := [(0, .ref b), (1, .int (iI k)), (2, .int (iI x9)), (3, .int (iI w)), (4, .int (iI (v4 + (pw v5)))), (5, .int (iI (v5 + 1)))]) rfl ?_
                  refine z_goto (tgt := 38) hx dX9_inside_106 (by decide) ?_
                  exact ih_11 _ _ (by omega) (by rw [msk_s _ (by omega), ← e4]; first | (rw [if_pos ⟨by omega, by omega⟩]) | (rw [if_neg (by rintro ⟨q1, q2⟩; omega)]; try omega))  (by omega)
        exact hL_10 ((S 1 37 - 0) + 1 : Int).toNat _ _ (by omega) (by rfl)  (by omega)
      ·
        refine z_aload_n hx dX9_inside_27 rfl 0 rfl ?_
        refine z_cVJ (as := []) (rest := []) hx dX9_inside_28 lk_X9_55 wm_X9_bad wv_X9_bad (rcv_obj hx m0 rfl) mo_X9_bad (kX9_bad g  ⟨m0, m1, m2, m3, m4, m5, m6, m7, m8⟩) (by decide) rfl rfl (Nat.le_of_ble_eq_true rfl) (fun h_33 q_34 => ?_)
        have fr_35 : Fr h h_33 b 9 := q_34.2.wd (by omega) (by omega)
        refine z_iret hx hr dX9_inside_31 rfl rfl (q_j (by unfold insideA; (repeat (first | rw [if_pos (by omega)] | rw [if_neg (by omega)])); (try rw [eN]); (try unfold insV); (repeat (first | rw [if_pos (by omega)] | rw [if_neg (by omega)])); (try rw [eV]); (try rfl)) (by unfold insideA; (repeat (first | rw [if_pos (by omega)] | rw [if_neg (by omega)])); exact ⟨q_34.1, fr_35⟩))

set_option maxHeartbeats 4000000 in
set_option maxRecDepth 20000 in
theorem kX9_rain (g : Gt) {h : AH} {b : Nat} {S : Nat → Int → Int} {c : Int} (hM : RM h b S) (hV : invM S) (g_c : rgI c) : CnJ g mX9_rain 3 [.ref b, .int (iI c)] h (rainA S c).1 (QM h b (rainA S c).2) := by
  refine Cn.mk (by decide +kernel) (Nat.le_of_ble_eq_true rfl) ?_
  intro x sz hx hr
  show Zj g x (sz, 0, 0) h 0 [(0, .ref b), (1, .int (iI c))] []
  obtain ⟨m0, m1, m2, m3, m4, m5, m6, m7, m8⟩ := hM
  have hN := hV.1
  have hI := hN.1
  have hn := hI.n
  refine z_iload_n hx dX9_rain_0 rfl 1 rfl ?_
  refine z_iconst hx dX9_rain_1 ?_
  refine z_bipush hx dX9_rain_2 (by decide) ?_
  refine z_cSI (as := [.int (iI c), .int (iI 0), .int (iI 10)]) (rest := []) hx dX9_rain_4 lk_X9_43 wt_X9_in mo_X9_in (kX9_in g (a := c) (b := 0) (c := 10) (by omega) (by omega) (by omega)) (by decide) rfl rfl (Nat.le_of_ble_eq_true rfl) ?_
  refine z_ifne_b (tgt := 15) hx dX9_rain_7 (by decide)  (fun c_1 => ?_) (fun c_1 => ?_)
  ·
    refine z_aload_n hx dX9_rain_15 rfl 0 rfl ?_
    refine z_get hx dX9_rain_16 fl_X9_7 m0 rfl ?_
    refine z_cSI (as := [.ref (b + 1)]) (rest := []) hx dX9_rain_19 lk_X9_218 wt_X9_underAll mo_X9_underAll (kX9_underAll g  m1 hI ) (by decide) rfl rfl (Nat.le_of_ble_eq_true rfl) ?_
    have f_2 := una_rg hI
    refine z_i2l hx dX9_rain_22 (by omega) ?_
    refine z_ldc2 (a := 10) hx dX9_rain_23 wq_X9_242 (by decide) ?_
    refine z_iload_n hx dX9_rain_26 rfl 1 rfl ?_
    refine z_i2l hx dX9_rain_27 (by omega) ?_
    refine z_lsub hx dX9_rain_28 ?_
    refine z_lmul hx dX9_rain_29 ?_
    have hu60 := mul_60 (a := una (S 1)) (b := 10 - c) (by have := una_rg hI; omega) (by omega)
    obtain ⟨u, eu⟩ : ∃ u : Int, u = una (S 1) * (10 - c) := ⟨_, rfl⟩
    rw [← eu] at hu60
    rw [show ((una (S 1)) * (10 - c)) = u from eu.symm]
    refine z_lstore_n hx dX9_rain_30 rfl (by decide) [1, 2, 0] (lv' := [(0, .ref b), (1, .int (iI c)), (2, .long (lI u))]) rfl ?_
    refine z_lload_n hx dX9_rain_31 rfl 2 rfl ?_
    refine z_lstore hx dX9_rain_32 (by decide) [1, 2, 3, 0] (lv' := [(0, .ref b), (1, .int (iI c)), (2, .long (lI u)), (4, .long (lI u))]) rfl ?_
    refine z_ldc2 (a := 10) hx dX9_rain_34 wq_X9_242 (by decide) ?_
    refine z_lstore hx dX9_rain_37 (by decide) [1, 2, 3, 4, 0] (lv' := [(0, .ref b), (1, .int (iI c)), (2, .long (lI u)), (4, .long (lI u)), (6, .long (lI 10))]) rfl ?_
    have hL_3 : ∀ (mm : Nat) (v4 : Int) (v6 : Int), (0 ≤ v4 ∧ v4 ≤ 60) → (0 ≤ v6 ∧ v6 ≤ 60) → (Nat.gcd v4.toNat v6.toNat = Nat.gcd u.toNat 10) → v6 < (mm : Int) → Zj g x (sz, 0, 0) h 39 [(0, .ref b), (1, .int (iI c)), (2, .long (lI u)), (4, .long (lI v4)), (6, .long (lI v6))] [] := by
      intro mm
      induction mm with
      | zero => intro v4 v6 kv kw eg hm; exfalso; omega
      | succ mm ih =>
        intro v4 v6 kv kw eg hm
        have ih_4 := ih; clear ih
        have hcm := cmp_c v6 0
        have hem : 0 < v6 → 0 ≤ v4 % v6 ∧ v4 % v6 < v6 := fun q => ⟨Int.emod_nonneg _ (by omega), Int.emod_lt_of_pos _ q⟩
        refine z_lload hx dX9_rain_39 4 rfl ?_
        refine z_lconst (a := 0) hx dX9_rain_41 (by decide) ?_
        refine z_lcmp hx dX9_rain_42 (by omega) (by decide) ?_
        refine z_if_le (tgt := 64) hx dX9_rain_43 (by decide) (by omega) (fun c_5 => ?_) (fun c_5 => ?_)
        ·
          have e6 : v6 = 0 := by omega
          rw [e6] at eg
          have ed := gcd_end hu60 kv.1 eg
          have hdv := dvr_rg u
          refine z_aload_n hx dX9_rain_64 rfl 0 rfl ?_
          refine z_lload_n hx dX9_rain_65 rfl 2 rfl ?_
          refine z_lload hx dX9_rain_66 3 rfl ?_
          refine z_ldiv hx dX9_rain_68 (by omega) (by omega) ?_
          refine z_putQ hx dX9_rain_69 fl_X9_244 m0 ⟨rfl, rfl⟩ (Nat.le_of_ble_eq_true rfl) (fun h_6 hs_7 hf_8 => ?_)
          have h_9 := hf_8.at (by omega) m1
          have h_10 := hf_8.at (by omega) m2
          have h_11 := hf_8.at (by omega) m3
          have h_12 := hf_8.at (by omega) m4
          have h_13 := hf_8.at (by omega) m5
          have h_14 := hf_8.at (by omega) m6
          have h_15 := hf_8.at (by omega) m7
          have h_16 := hf_8.at (by omega) m8
          have fr_17 : Fr h h_6 b 9 := hf_8.wd (by omega) (by omega)
          refine z_aload_n hx dX9_rain_72 rfl 0 rfl ?_
          refine z_ldc2 (a := 10) hx dX9_rain_73 wq_X9_242 (by decide) ?_
          refine z_lload hx dX9_rain_76 3 rfl ?_
          refine z_ldiv hx dX9_rain_78 (by omega) (by omega) ?_
          refine z_putQ hx dX9_rain_79 fl_X9_29 hs_7 ⟨rfl, rfl⟩ (Nat.le_of_ble_eq_true rfl) (fun h_18 hs_19 hf_20 => ?_)
          have h_21 := hf_20.at (by omega) h_9
          have h_22 := hf_20.at (by omega) h_10
          have h_23 := hf_20.at (by omega) h_11
          have h_24 := hf_20.at (by omega) h_12
          have h_25 := hf_20.at (by omega) h_13
          have h_26 := hf_20.at (by omega) h_14
          have h_27 := hf_20.at (by omega) h_15
          have h_28 := hf_20.at (by omega) h_16
          have fr_29 := fr_17.tr (hf_20.wd (by omega) (by omega))
          refine z_iconst hx dX9_rain_82 ?_
          refine z_iret hx hr dX9_rain_83 rfl rfl (q_j (by unfold rainA; (repeat (first | rw [if_pos (by omega)] | rw [if_neg (by omega)])); (try rfl)) (by unfold rainA; (repeat (first | rw [if_pos (by omega)] | rw [if_neg (by omega)])); (try rw [← eu]); (try unfold ranS); (try rw [← ed]); exact ⟨⟨hs_19, h_21, h_22, h_23, h_24, h_25, h_26, h_27, h_28⟩, fr_29⟩))
        ·
          refine z_lload hx dX9_rain_46 3 rfl ?_
          refine z_lload hx dX9_rain_48 4 rfl ?_
          refine z_lrem hx dX9_rain_50 (by omega) (by omega) ?_
          refine z_lstore hx dX9_rain_51 (by decide) [1, 2, 3, 4, 5, 0] (lv' := [(0, .ref b), (1, .int (iI c)), (2, .long (lI u)), (4, .long (lI v4)), (6, .long (lI v6)), (8, .long (lI (v4 % v6)))]) rfl ?_
          refine z_lload hx dX9_rain_53 4 rfl ?_
          refine z_lstore hx dX9_rain_55 (by decide) [1, 2, 3, 0, 4, 5] (lv' := [(0, .ref b), (1, .int (iI c)), (2, .long (lI u)), (4, .long (lI v6)), (6, .long (lI v6)), (8, .long (lI (v4 % v6)))]) rfl ?_
          refine z_lload hx dX9_rain_57 5 rfl ?_
          refine z_lstore hx dX9_rain_59 (by decide) [1, 2, 3, 4, 0, 5] (lv' := [(0, .ref b), (1, .int (iI c)), (2, .long (lI u)), (4, .long (lI v6)), (6, .long (lI (v4 % v6))), (8, .long (lI (v4 % v6)))]) rfl ?_
          refine z_goto (tgt := 39) hx dX9_rain_61 (by decide) ?_
          refine z_sub [0, 1, 2, 3, 4] (lv' := [(0, .ref b), (1, .int (iI c)), (2, .long (lI u)), (4, .long (lI v6)), (6, .long (lI (v4 % v6)))]) rfl ?_
          exact ih_4 _ _ (by omega) (by omega) (by rw [← gcd_step (by omega) (by omega)]; exact eg)  (by omega)
    exact hL_3 (10 + 1 : Int).toNat _ _ (by omega) (by omega) (by rfl)  (by omega)
  ·
    refine z_aload_n hx dX9_rain_10 rfl 0 rfl ?_
    refine z_cVJ (as := []) (rest := []) hx dX9_rain_11 lk_X9_55 wm_X9_bad wv_X9_bad (rcv_obj hx m0 rfl) mo_X9_bad (kX9_bad g  ⟨m0, m1, m2, m3, m4, m5, m6, m7, m8⟩) (by decide) rfl rfl (Nat.le_of_ble_eq_true rfl) (fun h_30 q_31 => ?_)
    have fr_32 : Fr h h_30 b 9 := q_31.2.wd (by omega) (by omega)
    refine z_iret hx hr dX9_rain_14 rfl rfl (q_j (by unfold rainA; (repeat (first | rw [if_pos (by omega)] | rw [if_neg (by omega)])); (try rfl)) (by unfold rainA; (repeat (first | rw [if_pos (by omega)] | rw [if_neg (by omega)])); (try rw [← eu]); (try unfold ranS); (try rw [← ed]); exact ⟨q_31.1, fr_32⟩))

set_option maxHeartbeats 4000000 in
set_option maxRecDepth 20000 in
theorem kX9_place (g : Gt) {h : AH} {b : Nat} {S : Nat → Int → Int} {k : Int} {m : Int} (hM : RM h b S) (hV : invM S) (g_k : rgI k) (g_m : rgI m) : CnJ g mX9_place 7 [.ref b, .int (iI k), .int (iI m)] h (placeA S k m).1 (QM h b (placeA S k m).2) := by
  refine Cn.mk (by decide +kernel) (Nat.le_of_ble_eq_true rfl) ?_
  intro x sz hx hr
  show Zj g x (sz, 0, 0) h 0 [(0, .ref b), (1, .int (iI k)), (2, .int (iI m))] []
  obtain ⟨m0, m1, m2, m3, m4, m5, m6, m7, m8⟩ := hM
  have hN := hV.1
  have hI := hN.1
  have hn := hI.n
  have hTo : outR (S 2) := hV.2.1
  refine z_aload_n hx dX9_place_0 rfl 0 rfl ?_
  refine z_iload_n hx dX9_place_1 rfl 1 rfl ?_
  refine z_cVI (as := [.int (iI k)]) (rest := []) hx dX9_place_2 lk_X9_194 wm_X9_isCosy wv_X9_isCosy (rcv_obj hx m0 rfl) mo_X9_isCosy (kX9_isCosy g (S := S) ⟨m0, m1, m2, m3, m4, m5, m6, m7, m8⟩ hI (by first | exact g_k | omega)) (by decide) rfl rfl (Nat.le_of_ble_eq_true rfl) ?_
  refine z_ifeq_b (tgt := 18) hx dX9_place_5 (by decide)  (fun c_1 => ?_) (fun c_1 => ?_)
  ·
    refine z_aload_n hx dX9_place_18 rfl 0 rfl ?_
    refine z_cVJ (as := []) (rest := []) hx dX9_place_19 lk_X9_55 wm_X9_bad wv_X9_bad (rcv_obj hx m0 rfl) mo_X9_bad (kX9_bad g  ⟨m0, m1, m2, m3, m4, m5, m6, m7, m8⟩) (by decide) rfl rfl (Nat.le_of_ble_eq_true rfl) (fun h_2 q_3 => ?_)
    have fr_4 : Fr h h_2 b 9 := q_3.2.wd (by omega) (by omega)
    refine z_iret hx hr dX9_place_22 rfl rfl (q_j (by unfold placeA; (repeat (first | rw [if_pos (by omega)] | rw [if_neg (by omega)])); (try rw [e24]); (try rfl)) (by unfold placeA; (repeat (first | rw [if_pos (by omega)] | rw [if_neg (by omega)])); (try rw [e24]); exact ⟨q_3.1, fr_4⟩))
  ·
    refine z_iload_n hx dX9_place_8 rfl 2 rfl ?_
    refine z_iconst hx dX9_place_9 ?_
    refine z_bipush hx dX9_place_10 (by decide) ?_
    refine z_cSI (as := [.int (iI m), .int (iI 0), .int (iI 20)]) (rest := []) hx dX9_place_12 lk_X9_43 wt_X9_in mo_X9_in (kX9_in g (a := m) (b := 0) (c := 20) (by omega) (by omega) (by omega)) (by decide) rfl rfl (Nat.le_of_ble_eq_true rfl) ?_
    refine z_ifne_b (tgt := 23) hx dX9_place_15 (by decide)  (fun c_5 => ?_) (fun c_5 => ?_)
    ·
      refine z_iconst hx dX9_place_23 ?_
      refine z_istore_n hx dX9_place_24 rfl (by decide) [1, 2, 3, 0] (lv' := [(0, .ref b), (1, .int (iI k)), (2, .int (iI m)), (3, .int (iI (-1)))]) rfl ?_
      refine z_iconst hx dX9_place_25 ?_
      refine z_istore hx dX9_place_26 (by decide) [1, 2, 3, 4, 0] (lv' := [(0, .ref b), (1, .int (iI k)), (2, .int (iI m)), (3, .int (iI (-1))), (4, .int (iI 0))]) rfl ?_
      refine z_iconst hx dX9_place_28 ?_
      refine z_istore hx dX9_place_29 (by decide) [1, 2, 3, 4, 5, 0] (lv' := [(0, .ref b), (1, .int (iI k)), (2, .int (iI m)), (3, .int (iI (-1))), (4, .int (iI 0)), (5, .int (iI 0))]) rfl ?_
      have hL_6 : ∀ (mm : Nat) (v3 : Int) (v4 : Int) (v5 : Int) (g1 : Int → Int) (h_7 : AH), (0 ≤ v5 ∧ v5 ≤ 24) → (-1 ≤ v3 ∧ v3 ≤ 23) → (-6 ≤ v4 ∧ v4 ≤ 80) → (itI v5 (plG (S 1) k m) (-1, 0, S 2) = (v3, v4, g1)) → (outR g1) → (h_7 b = some (.inr (.inr (7, [.ref (b + 1), .ref (b + 2), .ref (b + 3), .ref (b + 4), .ref (b + 5), .ref (b + 6), .long (lI (S 0 6)), .long (lI (S 0 7)), .int (iI (S 0 8)), .ref (b + 7), .int (iI (S 0 10)), .int (iI (S 0 11)), .int (iI (S 0 12)), .int (iI (S 0 13)), .long (lI (S 0 14)), .int (iI (S 0 15)), .ref (b + 8)])))) → (h_7 (b + 1) = some (.inl (0, 267, S 1))) → (h_7 (b + 2) = some (.inl (0, 267, g1))) → (h_7 (b + 3) = some (.inl (0, 267, S 3))) → (h_7 (b + 4) = some (.inl (0, 534, S 4))) → (h_7 (b + 5) = some (.inl (2, 2, S 5))) → (h_7 (b + 6) = some (.inl (0, 3, S 6))) → (h_7 (b + 7) = some (.inl (0, 150, S 7))) → (h_7 (b + 8) = some (.inl (0, 4, S 8))) → (Fr h h_7 b 9) → (24 : Int) - v5 < (mm : Int) → Zj g x (sz, 0, 0) h_7 31 [(0, .ref b), (1, .int (iI k)), (2, .int (iI m)), (3, .int (iI v3)), (4, .int (iI v4)), (5, .int (iI v5))] [] := by
        intro mm
        induction mm with
        | zero => intro v3 v4 v5 g1 h_7 kv k3 k4 eg ho hk_9 hk_10 hg_8 hk_11 hk_12 hk_13 hk_14 hk_15 hk_16 fr_17 hm; exfalso; omega
        | succ mm ih =>
          intro v3 v4 v5 g1 h_7 kv k3 k4 eg ho hk_9 hk_10 hg_8 hk_11 hk_12 hk_13 hk_14 hk_15 hk_16 fr_17 hm
          have ih_18 := ih; clear ih
          refine z_iload hx dX9_place_31 5 rfl ?_
          refine z_bipush hx dX9_place_33 (by decide) ?_
          refine z_icmp_ge (tgt := 131) hx dX9_place_35 (by decide) (by omega) (by decide) (fun c_19 => ?_) (fun c_19 => ?_)
          ·
            have e24 : itI 24 (plG (S 1) k m) (-1, 0, S 2) = (v3, v4, g1) := by rw [← eg, show v5 = 24 by omega]
            refine z_iload_n hx dX9_place_131 rfl 3 rfl ?_
            refine z_iret hx hr dX9_place_132 rfl rfl (q_j (by unfold placeA; (repeat (first | rw [if_pos (by omega)] | rw [if_neg (by omega)])); (try rw [e24]); (try rfl)) (by unfold placeA; (repeat (first | rw [if_pos (by omega)] | rw [if_neg (by omega)])); (try rw [e24]); exact ⟨⟨hk_9, hk_10, hg_8, hk_11, hk_12, hk_13, hk_14, hk_15, hk_16⟩, fr_17⟩))
          ·
            refine z_aload_n hx dX9_place_38 rfl 0 rfl ?_
            refine z_cVV (as := []) (rest := []) hx dX9_place_39 lk_X9_211 wm_X9_copyNow wv_X9_copyNow (rcv_obj hx hk_9 rfl) mo_X9_copyNow (kX9_copyNow g (S := (sst S 2 g1))  ⟨hk_9, hk_10, hg_8, hk_11, hk_12, hk_13, hk_14, hk_15, hk_16⟩ ) (by decide) rfl rfl (Nat.le_of_ble_eq_true rfl) (fun h_20 q_21 => ?_)
            obtain ⟨⟨p_22, p_23, p_24, p_25, p_26, p_27, p_28, p_29, p_30⟩, hf_31⟩ := q_21
            have m_32 : h_20 b = some (.inr (.inr (7, [.ref (b + 1), .ref (b + 2), .ref (b + 3), .ref (b + 4), .ref (b + 5), .ref (b + 6), .long (lI (S 0 6)), .long (lI (S 0 7)), .int (iI (S 0 8)), .ref (b + 7), .int (iI (S 0 10)), .int (iI (S 0 11)), .int (iI (S 0 12)), .int (iI (S 0 13)), .long (lI (S 0 14)), .int (iI (S 0 15)), .ref (b + 8)]))) := p_22
            have m_33 : h_20 (b + 1) = some (.inl (0, 267, S 1)) := p_23
            have m_34 : h_20 (b + 2) = some (.inl (0, 267, cpn ((S 1)) (g1))) := p_24
            have m_35 : h_20 (b + 3) = some (.inl (0, 267, S 3)) := p_25
            have m_36 : h_20 (b + 4) = some (.inl (0, 534, S 4)) := p_26
            have m_37 : h_20 (b + 5) = some (.inl (2, 2, S 5)) := p_27
            have m_38 : h_20 (b + 6) = some (.inl (0, 3, S 6)) := p_28
            have m_39 : h_20 (b + 7) = some (.inl (0, 150, S 7)) := p_29
            have m_40 : h_20 (b + 8) = some (.inl (0, 4, S 8)) := p_30
            obtain ⟨f_41, ef_41⟩ : ∃ F : Int → Int, F = cpn ((S 1)) (g1) := ⟨_, rfl⟩
            rw [← ef_41] at m_34
            have fr_42 := fr_17.tr (hf_31.wd (by omega) (by omega))
            have icp : inv f_41 := by rw [ef_41]; exact inv_cpn hI ho
            have c26 : f_41 26 = S 1 26 := by rw [ef_41]; exact cpn_in (by decide)
            refine z_aload_n hx dX9_place_42 rfl 0 rfl ?_
            refine z_get hx dX9_place_43 fl_X9_13 m_32 rfl ?_
            refine z_iload_n hx dX9_place_46 rfl 1 rfl ?_
            refine z_iload hx dX9_place_47 5 rfl ?_
            refine z_cSV (as := [.ref (b + 2), .int (iI k), .int (iI v5)]) (rest := []) hx dX9_place_49 lk_X9_197 wt_X9_bringTo mo_X9_bringTo (kX9_bringTo g (k := k) (c := v5) m_34 icp (by omega) (by omega)) (by decide) rfl rfl (Nat.le_of_ble_eq_true rfl) (fun h_43 q_44 => ?_)
            obtain ⟨hs_45, hf_46⟩ := q_44
            obtain ⟨f_47, ef_47⟩ : ∃ F : Int → Int, F = brt f_41 k v5 := ⟨_, rfl⟩
            rw [← ef_47] at hs_45
            have iv_48 := inv_brt icp (k := k) (c := v5) (by omega) (by omega)
            rw [← ef_47] at iv_48
            have h_49 := hf_46.at (by omega) m_32
            have h_50 := hf_46.at (by omega) m_33
            have h_51 := hf_46.at (by omega) m_35
            have h_52 := hf_46.at (by omega) m_36
            have h_53 := hf_46.at (by omega) m_37
            have h_54 := hf_46.at (by omega) m_38
            have h_55 := hf_46.at (by omega) m_39
            have h_56 := hf_46.at (by omega) m_40
            have fr_57 := fr_42.tr (hf_46.wd (by omega) (by omega))
            refine z_aload_n hx dX9_place_52 rfl 0 rfl ?_
            refine z_iload_n hx dX9_place_53 rfl 2 rfl ?_
            refine z_cVV (as := [.int (iI m)]) (rest := []) hx dX9_place_54 lk_X9_214 wm_X9_goOn wv_X9_goOn (rcv_obj hx h_49 rfl) mo_X9_goOn (kX9_goOn g (S := (sst S 2 f_47)) (m := m) ⟨h_49, h_50, hs_45, h_51, h_52, h_53, h_54, h_55, h_56⟩ (by omega) (by exact iv_48.1) (by omega)) (by decide) rfl rfl (Nat.le_of_ble_eq_true rfl) (fun h_58 q_59 => ?_)
            obtain ⟨⟨p_60, p_61, p_62, p_63, p_64, p_65, p_66, p_67, p_68⟩, hf_69⟩ := q_59
            have m_70 : h_58 b = some (.inr (.inr (7, [.ref (b + 1), .ref (b + 2), .ref (b + 3), .ref (b + 4), .ref (b + 5), .ref (b + 6), .long (lI (S 0 6)), .long (lI (S 0 7)), .int (iI (S 0 8)), .ref (b + 7), .int (iI (S 0 10)), .int (iI (S 0 11)), .int (iI (S 0 12)), .int (iI (S 0 13)), .long (lI (S 0 14)), .int (iI (S 0 15)), .ref (b + 8)]))) := p_60
            have m_71 : h_58 (b + 1) = some (.inl (0, 267, S 1)) := p_61
            have m_72 : h_58 (b + 2) = some (.inl (0, 267, gon m (f_47))) := p_62
            have m_73 : h_58 (b + 3) = some (.inl (0, 267, S 3)) := p_63
            have m_74 : h_58 (b + 4) = some (.inl (0, 534, S 4)) := p_64
            have m_75 : h_58 (b + 5) = some (.inl (2, 2, S 5)) := p_65
            have m_76 : h_58 (b + 6) = some (.inl (0, 3, S 6)) := p_66
            have m_77 : h_58 (b + 7) = some (.inl (0, 150, S 7)) := p_67
            have m_78 : h_58 (b + 8) = some (.inl (0, 4, S 8)) := p_68
            obtain ⟨f_79, ef_79⟩ : ∃ F : Int → Int, F = gon m (f_47) := ⟨_, rfl⟩
            rw [← ef_79] at m_72
            have iv_80 := inv_gon iv_48.1 (m := m) (by omega)
            rw [← ef_79] at iv_80
            have fr_81 := fr_57.tr (hf_69.wd (by omega) (by omega))
            have eT : f_79 = plT (S 1) k m v5 g1 := by rw [ef_79, ef_47, ef_41]; rfl
            have oT : outR f_79 := outR_cfx ho iv_80.1
            have ht1 := tkn_rg iv_80.1
            have ht2 := una_rg iv_80.1
            have ht3 := popc_rg (v := tkn f_79)
            refine z_bipush hx dX9_place_57 (by decide) ?_
            refine z_aload_n hx dX9_place_59 rfl 0 rfl ?_
            refine z_get hx dX9_place_60 fl_X9_13 m_70 rfl ?_
            refine z_cSI (as := [.ref (b + 2)]) (rest := [.int (iI 10)]) hx dX9_place_63 lk_X9_190 wt_X9_takenIn mo_X9_takenIn (kX9_takenIn g  m_72 iv_80.1 ) (by decide) rfl rfl (Nat.le_of_ble_eq_true rfl) ?_
            have f_82 := tkn_rg iv_80.1
            refine z_cSI (as := [.int (iI (tkn f_79))]) (rest := [.int (iI 10)]) hx dX9_place_66 lk_X9_155 wt_X9_bits mo_X9_bits (kX9_bits g (v := (tkn f_79)) (by omega)) (by decide) rfl rfl (Nat.le_of_ble_eq_true rfl) ?_
            have f_83 := popc_rg (v := (tkn f_79))
            refine z_imul hx dX9_place_69 ?_
            refine z_aload_n hx dX9_place_70 rfl 0 rfl ?_
            refine z_get hx dX9_place_71 fl_X9_13 m_70 rfl ?_
            refine z_cSI (as := [.ref (b + 2)]) (rest := [.int (iI (10 * (popc (tkn f_79))))]) hx dX9_place_74 lk_X9_218 wt_X9_underAll mo_X9_underAll (kX9_underAll g  m_72 iv_80.1 ) (by decide) rfl rfl (Nat.le_of_ble_eq_true rfl) ?_
            have f_84 := una_rg iv_80.1
            refine z_isub hx dX9_place_77 ?_
            refine z_istore hx dX9_place_78 (by decide) [1, 2, 3, 4, 5, 6, 0] (lv' := [(0, .ref b), (1, .int (iI k)), (2, .int (iI m)), (3, .int (iI v3)), (4, .int (iI v4)), (5, .int (iI v5)), (6, .int (iI ((10 * (popc (tkn f_79))) - (una f_79))))]) rfl ?_
            refine z_iload_n hx dX9_place_80 rfl 3 rfl ?_
            refine z_iconst hx dX9_place_81 ?_
            refine z_icmp_eq (tgt := 92) hx dX9_place_82 (by decide) (by omega) (by decide) (fun c_85 => ?_) (fun c_85 => ?_)
            ·
              refine z_iconst hx dX9_place_92 ?_
              refine z_goto (tgt := 97) hx dX9_place_93 (by decide) ?_
              refine z_istore hx dX9_place_97 (by decide) [1, 2, 3, 4, 5, 6, 7, 0] (lv' := [(0, .ref b), (1, .int (iI k)), (2, .int (iI m)), (3, .int (iI v3)), (4, .int (iI v4)), (5, .int (iI v5)), (6, .int (iI ((10 * (popc (tkn f_79))) - (una f_79)))), (7, .int (iI 1))]) rfl ?_
              refine z_iload hx dX9_place_99 7 rfl ?_
              refine z_if_eq (tgt := 109) hx dX9_place_101 (by decide) (by decide) (fun q => absurd q (by decide)) (fun _ => ?_)
              refine z_iload hx dX9_place_104 5 rfl ?_
              refine z_goto (tgt := 110) hx dX9_place_106 (by decide) ?_
              refine z_istore_n hx dX9_place_110 rfl (by decide) [1, 2, 3, 0, 4, 5, 6, 7] (lv' := [(0, .ref b), (1, .int (iI k)), (2, .int (iI m)), (3, .int (iI v5)), (4, .int (iI v4)), (5, .int (iI v5)), (6, .int (iI ((10 * (popc (tkn f_79))) - (una f_79)))), (7, .int (iI 1))]) rfl ?_
              refine z_iload hx dX9_place_111 7 rfl ?_
              refine z_if_eq (tgt := 121) hx dX9_place_113 (by decide) (by decide) (fun q => absurd q (by decide)) (fun _ => ?_)
              refine z_iload hx dX9_place_116 6 rfl ?_
              refine z_goto (tgt := 123) hx dX9_place_118 (by decide) ?_
              refine z_istore hx dX9_place_123 (by decide) [1, 2, 3, 4, 0, 5, 6, 7] (lv' := [(0, .ref b), (1, .int (iI k)), (2, .int (iI m)), (3, .int (iI v5)), (4, .int (iI ((10 * (popc (tkn f_79))) - (una f_79)))), (5, .int (iI v5)), (6, .int (iI ((10 * (popc (tkn f_79))) - (una f_79)))), (7, .int (iI 1))]) rfl ?_
              refine z_iinc hx dX9_place_125 (by decide) 5 rfl [1, 2, 3, 4, 5, 0, 6, 7] (lv' := [(0, .ref b), (1, .int (iI k)), (2, .int (iI m)), (3, .int (iI v5)), (4, .int (iI ((10 * (popc (tkn f_79))) - (una f_79)))), (5, .int (iI (v5 + 1))), (6, .int (iI ((10 * (popc (tkn f_79))) - (una f_79)))), (7, .int (iI 1))]) rfl ?_
              refine z_goto (tgt := 31) hx dX9_place_128 (by decide) ?_
              refine z_sub [0, 1, 2, 3, 4, 5] (lv' := [(0, .ref b), (1, .int (iI k)), (2, .int (iI m)), (3, .int (iI v5)), (4, .int (iI ((10 * (popc (tkn f_79))) - (una f_79)))), (5, .int (iI (v5 + 1)))]) rfl ?_
              exact ih_18 _ _ _ f_79 _ (by omega) (by omega) (by omega) (by rw [itI_s _ _ (by omega), eg]; unfold plG; dsimp only; rw [← eT]; first | rw [if_pos (by omega)] | rw [if_neg (by omega)] | (exfalso; omega)) (by exact oT) m_70 m_71 m_72 m_73 m_74 m_75 m_76 m_77 m_78 fr_81 (by omega)
            ·
              refine z_iload hx dX9_place_85 6 rfl ?_
              refine z_iload hx dX9_place_87 4 rfl ?_
              refine z_icmp_ge (tgt := 96) hx dX9_place_89 (by decide) (by omega) (by omega) (fun c_88 => ?_) (fun c_88 => ?_)
              ·
                refine z_iconst hx dX9_place_96 ?_
                refine z_istore hx dX9_place_97 (by decide) [1, 2, 3, 4, 5, 6, 7, 0] (lv' := [(0, .ref b), (1, .int (iI k)), (2, .int (iI m)), (3, .int (iI v3)), (4, .int (iI v4)), (5, .int (iI v5)), (6, .int (iI ((10 * (popc (tkn f_79))) - (una f_79)))), (7, .int (iI 0))]) rfl ?_
                refine z_iload hx dX9_place_99 7 rfl ?_
                refine z_if_eq (tgt := 109) hx dX9_place_101 (by decide) (by decide) (fun _ => ?_) (fun q => absurd q (by decide))
                refine z_iload_n hx dX9_place_109 rfl 3 rfl ?_
                refine z_istore_n hx dX9_place_110 rfl (by decide) [1, 2, 3, 0, 4, 5, 6, 7] (lv' := [(0, .ref b), (1, .int (iI k)), (2, .int (iI m)), (3, .int (iI v3)), (4, .int (iI v4)), (5, .int (iI v5)), (6, .int (iI ((10 * (popc (tkn f_79))) - (una f_79)))), (7, .int (iI 0))]) rfl ?_
                refine z_iload hx dX9_place_111 7 rfl ?_
                refine z_if_eq (tgt := 121) hx dX9_place_113 (by decide) (by decide) (fun _ => ?_) (fun q => absurd q (by decide))
                refine z_iload hx dX9_place_121 4 rfl ?_
                refine z_istore hx dX9_place_123 (by decide) [1, 2, 3, 4, 0, 5, 6, 7] (lv' := [(0, .ref b), (1, .int (iI k)), (2, .int (iI m)), (3, .int (iI v3)), (4, .int (iI v4)), (5, .int (iI v5)), (6, .int (iI ((10 * (popc (tkn f_79))) - (una f_79)))), (7, .int (iI 0))]) rfl ?_
                refine z_iinc hx dX9_place_125 (by decide) 5 rfl [1, 2, 3, 4, 5, 0, 6, 7] (lv' := [(0, .ref b), (1, .int (iI k)), (2, .int (iI m)), (3, .int (iI v3)), (4, .int (iI v4)), (5, .int (iI (v5 + 1))), (6, .int (iI ((10 * (popc (tkn f_79))) - (una f_79)))), (7, .int (iI 0))]) rfl ?_
                refine z_goto (tgt := 31) hx dX9_place_128 (by decide) ?_
                refine z_sub [0, 1, 2, 3, 4, 5] (lv' := [(0, .ref b), (1, .int (iI k)), (2, .int (iI m)), (3, .int (iI v3)), (4, .int (iI v4)), (5, .int (iI (v5 + 1)))]) rfl ?_
                exact ih_18 _ _ _ f_79 _ (by omega) (by omega) (by omega) (by rw [itI_s _ _ (by omega), eg]; unfold plG; dsimp only; rw [← eT]; first | rw [if_pos (by omega)] | rw [if_neg (by omega)] | (exfalso; omega)) (by exact oT) m_70 m_71 m_72 m_73 m_74 m_75 m_76 m_77 m_78 fr_81 (by omega)
              ·
                refine z_iconst hx dX9_place_92 ?_
                refine z_goto (tgt := 97) hx dX9_place_93 (by decide) ?_
                refine z_istore hx dX9_place_97 (by decide) [1, 2, 3, 4, 5, 6, 7, 0] (lv' := [(0, .ref b), (1, .int (iI k)), (2, .int (iI m)), (3, .int (iI v3)), (4, .int (iI v4)), (5, .int (iI v5)), (6, .int (iI ((10 * (popc (tkn f_79))) - (una f_79)))), (7, .int (iI 1))]) rfl ?_
                refine z_iload hx dX9_place_99 7 rfl ?_
                refine z_if_eq (tgt := 109) hx dX9_place_101 (by decide) (by decide) (fun q => absurd q (by decide)) (fun _ => ?_)
                refine z_iload hx dX9_place_104 5 rfl ?_
                refine z_goto (tgt := 110) hx dX9_place_106 (by decide) ?_
                refine z_istore_n hx dX9_place_110 rfl (by decide) [1, 2, 3, 0, 4, 5, 6, 7] (lv' := [(0, .ref b), (1, .int (iI k)), (2, .int (iI m)), (3, .int (iI v5)), (4, .int (iI v4)), (5, .int (iI v5)), (6, .int (iI ((10 * (popc (tkn f_79))) - (una f_79)))), (7, .int (iI 1))]) rfl ?_
                refine z_iload hx dX9_place_111 7 rfl ?_
                refine z_if_eq (tgt := 121) hx dX9_place_113 (by decide) (by decide) (fun q => absurd q (by decide)) (fun _ => ?_)
                refine z_iload hx dX9_place_116 6 rfl ?_
                refine z_goto (tgt := 123) hx dX9_place_118 (by decide) ?_
                refine z_istore hx dX9_place_123 (by decide) [1, 2, 3, 4, 0, 5, 6, 7] (lv' := [(0, .ref b), (1, .int (iI k)), (2, .int (iI m)), (3, .int (iI v5)), (4, .int (iI ((10 * (popc (tkn f_79))) - (una f_79)))), (5, .int (iI v5)), (6, .int (iI ((10 * (popc (tkn f_79))) - (una f_79)))), (7, .int (iI 1))]) rfl ?_
                refine z_iinc hx dX9_place_125 (by decide) 5 rfl [1, 2, 3, 4, 5, 0, 6, 7] (lv' := [(0, .ref b), (1, .int (iI k)), (2, .int (iI m)), (3, .int (iI v5)), (4, .int (iI ((10 * (popc (tkn f_79))) - (una f_79)))), (5, .int (iI (v5 + 1))), (6, .int (iI ((10 * (popc (tkn f_79))) - (una f_79)))), (7, .int (iI 1))]) rfl ?_
                refine z_goto (tgt := 31) hx dX9_place_128 (by decide) ?_
                refine z_sub [0, 1, 2, 3, 4, 5] (lv' := [(0, .ref b), (1, .int (iI k)), (2, .int (iI m)), (3, .int (iI v5)), (4, .int (iI ((10 * (popc (tkn f_79))) - (una f_79)))), (5, .int (iI (v5 + 1)))]) rfl ?_
                exact ih_18 _ _ _ f_79 _ (by omega) (by omega) (by omega) (by rw [itI_s _ _ (by omega), eg]; unfold plG; dsimp only; rw [← eT]; first | rw [if_pos (by omega)] | rw [if_neg (by omega)] | (exfalso; omega)) (by exact oT) m_70 m_71 m_72 m_73 m_74 m_75 m_76 m_77 m_78 fr_81 (by omega)
      exact hL_6 (((24 : Int) - 0) + 1 : Int).toNat _ _ _ (S 2) _ (by omega) (by omega) (by omega) (by rfl) (by exact hTo) m0 m1 m2 m3 m4 m5 m6 m7 m8 Fr.rf (by omega)
    ·
      refine z_aload_n hx dX9_place_18 rfl 0 rfl ?_
      refine z_cVJ (as := []) (rest := []) hx dX9_place_19 lk_X9_55 wm_X9_bad wv_X9_bad (rcv_obj hx m0 rfl) mo_X9_bad (kX9_bad g  ⟨m0, m1, m2, m3, m4, m5, m6, m7, m8⟩) (by decide) rfl rfl (Nat.le_of_ble_eq_true rfl) (fun h_93 q_94 => ?_)
      have fr_95 : Fr h h_93 b 9 := q_94.2.wd (by omega) (by omega)
      refine z_iret hx hr dX9_place_22 rfl rfl (q_j (by unfold placeA; (repeat (first | rw [if_pos (by omega)] | rw [if_neg (by omega)])); (try rw [e24]); (try rfl)) (by unfold placeA; (repeat (first | rw [if_pos (by omega)] | rw [if_neg (by omega)])); (try rw [e24]); exact ⟨q_94.1, fr_95⟩))

set_option maxHeartbeats 4000000 in
set_option maxRecDepth 20000 in
theorem kX9_years (g : Gt) {h : AH} {b : Nat} {S : Nat → Int → Int} {a : Int} {n : Int} (hM : RM h b S) (hV : invM S) (g_a : rgI a) (g_n : rgI n) : CnJ g mX9_years 7 [.ref b, .int (iI a), .int (iI n)] h (yearsA S a n).1 (QM h b (yearsA S a n).2) := by
  refine Cn.mk (by decide +kernel) (Nat.le_of_ble_eq_true rfl) ?_
  intro x sz hx hr
  show Zj g x (sz, 0, 0) h 0 [(0, .ref b), (1, .int (iI a)), (2, .int (iI n))] []
  obtain ⟨m0, m1, m2, m3, m4, m5, m6, m7, m8⟩ := hM
  have hN := hV.1
  have hI := hN.1
  have hn := hI.n
  have hTo : outR (S 2) := hV.2.1
  refine z_iload_n hx dX9_years_0 rfl 1 rfl ?_
  refine z_iconst hx dX9_years_1 ?_
  refine z_ldc (a := 999999) hx dX9_years_2 wq_X9_247 (by decide) ?_
  refine z_cSI (as := [.int (iI a), .int (iI 0), .int (iI 999999)]) (rest := []) hx dX9_years_4 lk_X9_43 wt_X9_in mo_X9_in (kX9_in g (a := a) (b := 0) (c := 999999) (by omega) (by omega) (by omega)) (by decide) rfl rfl (Nat.le_of_ble_eq_true rfl) ?_
  refine z_ifeq_b (tgt := 20) hx dX9_years_7 (by decide)  (fun c_1 => ?_) (fun c_1 => ?_)
  ·
    refine z_aload_n hx dX9_years_20 rfl 0 rfl ?_
    refine z_cVJ (as := []) (rest := []) hx dX9_years_21 lk_X9_55 wm_X9_bad wv_X9_bad (rcv_obj hx m0 rfl) mo_X9_bad (kX9_bad g  ⟨m0, m1, m2, m3, m4, m5, m6, m7, m8⟩) (by decide) rfl rfl (Nat.le_of_ble_eq_true rfl) (fun h_2 q_3 => ?_)
    have fr_4 : Fr h h_2 b 9 := q_3.2.wd (by omega) (by omega)
    refine z_iret hx hr dX9_years_24 rfl rfl (q_j (by unfold yearsA; (repeat (first | rw [if_pos (by omega)] | rw [if_neg (by omega)])); (try rw [e24]); (try rfl)) (by unfold yearsA; (repeat (first | rw [if_pos (by omega)] | rw [if_neg (by omega)])); (try rw [e24]); exact ⟨q_3.1, fr_4⟩))
  ·
    refine z_iload_n hx dX9_years_10 rfl 2 rfl ?_
    refine z_iconst hx dX9_years_11 ?_
    refine z_bipush hx dX9_years_12 (by decide) ?_
    refine z_cSI (as := [.int (iI n), .int (iI 0), .int (iI 30)]) (rest := []) hx dX9_years_14 lk_X9_43 wt_X9_in mo_X9_in (kX9_in g (a := n) (b := 0) (c := 30) (by omega) (by omega) (by omega)) (by decide) rfl rfl (Nat.le_of_ble_eq_true rfl) ?_
    refine z_ifne_b (tgt := 25) hx dX9_years_17 (by decide)  (fun c_5 => ?_) (fun c_5 => ?_)
    ·
      refine z_iload_n hx dX9_years_25 rfl 1 rfl ?_
      refine z_i2l hx dX9_years_26 (by omega) ?_
      refine z_lstore_n hx dX9_years_27 rfl (by decide) [1, 2, 3, 0] (lv' := [(0, .ref b), (1, .int (iI a)), (2, .int (iI n)), (3, .long (lI a))]) rfl ?_
      refine z_iconst hx dX9_years_28 ?_
      refine z_istore hx dX9_years_29 (by decide) [1, 2, 3, 4, 0] (lv' := [(0, .ref b), (1, .int (iI a)), (2, .int (iI n)), (3, .long (lI a)), (5, .int (iI 0))]) rfl ?_
      refine z_iconst hx dX9_years_31 ?_
      refine z_istore hx dX9_years_32 (by decide) [1, 2, 3, 4, 5, 0] (lv' := [(0, .ref b), (1, .int (iI a)), (2, .int (iI n)), (3, .long (lI a)), (5, .int (iI 0)), (6, .int (iI 0))]) rfl ?_
      have hL_6 : ∀ (mm : Nat) (v3 : Int) (v5 : Int) (v6 : Int) (g1 : Int → Int) (h_7 : AH), (0 ≤ v6 ∧ v6 ≤ n) → (0 ≤ v3 ∧ v3 < 2147483648) → (0 ≤ v5 ∧ v5 ≤ 8 * v6) → (itI v6 (yrG (S 1)) (a, 0, S 2) = (v3, v5, g1)) → (outR g1) → (h_7 b = some (.inr (.inr (7, [.ref (b + 1), .ref (b + 2), .ref (b + 3), .ref (b + 4), .ref (b + 5), .ref (b + 6), .long (lI (S 0 6)), .long (lI (S 0 7)), .int (iI (S 0 8)), .ref (b + 7), .int (iI (S 0 10)), .int (iI (S 0 11)), .int (iI (S 0 12)), .int (iI (S 0 13)), .long (lI (S 0 14)), .int (iI (S 0 15)), .ref (b + 8)])))) → (h_7 (b + 1) = some (.inl (0, 267, S 1))) → (h_7 (b + 2) = some (.inl (0, 267, g1))) → (h_7 (b + 3) = some (.inl (0, 267, S 3))) → (h_7 (b + 4) = some (.inl (0, 534, S 4))) → (h_7 (b + 5) = some (.inl (2, 2, S 5))) → (h_7 (b + 6) = some (.inl (0, 3, S 6))) → (h_7 (b + 7) = some (.inl (0, 150, S 7))) → (h_7 (b + 8) = some (.inl (0, 4, S 8))) → (Fr h h_7 b 9) → n - v6 < (mm : Int) → Zj g x (sz, 0, 0) h_7 34 [(0, .ref b), (1, .int (iI a)), (2, .int (iI n)), (3, .long (lI v3)), (5, .int (iI v5)), (6, .int (iI v6))] [] := by
        intro mm
        induction mm with
        | zero => intro v3 v5 v6 g1 h_7 kv k3o k5 eg ho hk_9 hk_10 hg_8 hk_11 hk_12 hk_13 hk_14 hk_15 hk_16 fr_17 hm; exfalso; omega
        | succ mm ih =>
          intro v3 v5 v6 g1 h_7 kv k3o k5 eg ho hk_9 hk_10 hg_8 hk_11 hk_12 hk_13 hk_14 hk_15 hk_16 fr_17 hm
          have ih_18 := ih; clear ih
          refine z_iload hx dX9_years_34 5 rfl ?_
          refine z_iload_n hx dX9_years_36 rfl 2 rfl ?_
          refine z_icmp_ge (tgt := 137) hx dX9_years_37 (by decide) (by omega) (by omega) (fun c_19 => ?_) (fun c_19 => ?_)
          ·
            have e24 : itI n (yrG (S 1)) (a, 0, S 2) = (v3, v5, g1) := by rw [← eg, show v6 = n by omega]
            refine z_iload hx dX9_years_137 4 rfl ?_
            refine z_iret hx hr dX9_years_139 rfl rfl (q_j (by unfold yearsA; (repeat (first | rw [if_pos (by omega)] | rw [if_neg (by omega)])); (try rw [e24]); (try rfl)) (by unfold yearsA; (repeat (first | rw [if_pos (by omega)] | rw [if_neg (by omega)])); (try rw [e24]); exact ⟨⟨hk_9, hk_10, hg_8, hk_11, hk_12, hk_13, hk_14, hk_15, hk_16⟩, fr_17⟩))
          ·
            refine z_aload_n hx dX9_years_40 rfl 0 rfl ?_
            refine z_cVV (as := []) (rest := []) hx dX9_years_41 lk_X9_211 wm_X9_copyNow wv_X9_copyNow (rcv_obj hx hk_9 rfl) mo_X9_copyNow (kX9_copyNow g (S := (sst S 2 g1))  ⟨hk_9, hk_10, hg_8, hk_11, hk_12, hk_13, hk_14, hk_15, hk_16⟩ ) (by decide) rfl rfl (Nat.le_of_ble_eq_true rfl) (fun h_20 q_21 => ?_)
            obtain ⟨⟨p_22, p_23, p_24, p_25, p_26, p_27, p_28, p_29, p_30⟩, hf_31⟩ := q_21
            have m_32 : h_20 b = some (.inr (.inr (7, [.ref (b + 1), .ref (b + 2), .ref (b + 3), .ref (b + 4), .ref (b + 5), .ref (b + 6), .long (lI (S 0 6)), .long (lI (S 0 7)), .int (iI (S 0 8)), .ref (b + 7), .int (iI (S 0 10)), .int (iI (S 0 11)), .int (iI (S 0 12)), .int (iI (S 0 13)), .long (lI (S 0 14)), .int (iI (S 0 15)), .ref (b + 8)]))) := p_22
            have m_33 : h_20 (b + 1) = some (.inl (0, 267, S 1)) := p_23
            have m_34 : h_20 (b + 2) = some (.inl (0, 267, cpn ((S 1)) (g1))) := p_24
            have m_35 : h_20 (b + 3) = some (.inl (0, 267, S 3)) := p_25
            have m_36 : h_20 (b + 4) = some (.inl (0, 534, S 4)) := p_26
            have m_37 : h_20 (b + 5) = some (.inl (2, 2, S 5)) := p_27
            have m_38 : h_20 (b + 6) = some (.inl (0, 3, S 6)) := p_28
            have m_39 : h_20 (b + 7) = some (.inl (0, 150, S 7)) := p_29
            have m_40 : h_20 (b + 8) = some (.inl (0, 4, S 8)) := p_30
            obtain ⟨f_41, ef_41⟩ : ∃ F : Int → Int, F = cpn ((S 1)) (g1) := ⟨_, rfl⟩
            rw [← ef_41] at m_34
            have fr_42 := fr_17.tr (hf_31.wd (by omega) (by omega))
            have icp : inv f_41 := by rw [ef_41]; exact inv_cpn hI ho
            have c37 : f_41 37 = S 1 37 := by rw [ef_41]; exact cpn_in (by decide)
            have ecp : f_41 = cpn (S 1) g1 := ef_41
            refine z_iconst hx dX9_years_44 ?_
            refine z_istore hx dX9_years_45 (by decide) [1, 2, 3, 4, 5, 6, 0] (lv' := [(0, .ref b), (1, .int (iI a)), (2, .int (iI n)), (3, .long (lI v3)), (5, .int (iI v5)), (6, .int (iI v6)), (7, .int (iI 0))]) rfl ?_
            have hL_43 : ∀ (mm : Nat) (v3b : Int) (v7 : Int) (g2 : Int → Int) (h_44 : AH), (0 ≤ v7 ∧ v7 ≤ S 1 37) → (0 ≤ v3b ∧ v3b < 2147483648) → (itI v7 yinG (v3, cpn (S 1) g1) = (v3b, g2)) → (inv g2) → (g2 37 = S 1 37) → (h_44 b = some (.inr (.inr (7, [.ref (b + 1), .ref (b + 2), .ref (b + 3), .ref (b + 4), .ref (b + 5), .ref (b + 6), .long (lI (S 0 6)), .long (lI (S 0 7)), .int (iI (S 0 8)), .ref (b + 7), .int (iI (S 0 10)), .int (iI (S 0 11)), .int (iI (S 0 12)), .int (iI (S 0 13)), .long (lI (S 0 14)), .int (iI (S 0 15)), .ref (b + 8)])))) → (h_44 (b + 1) = some (.inl (0, 267, S 1))) → (h_44 (b + 2) = some (.inl (0, 267, g2))) → (h_44 (b + 3) = some (.inl (0, 267, S 3))) → (h_44 (b + 4) = some (.inl (0, 534, S 4))) → (h_44 (b + 5) = some (.inl (2, 2, S 5))) → (h_44 (b + 6) = some (.inl (0, 3, S 6))) → (h_44 (b + 7) = some (.inl (0, 150, S 7))) → (h_44 (b + 8) = some (.inl (0, 4, S 8))) → (Fr h h_44 b 9) → S 1 37 - v7 < (mm : Int) → Zj g x (sz, 0, 0) h_44 47 [(0, .ref b), (1, .int (iI a)), (2, .int (iI n)), (3, .long (lI v3b)), (5, .int (iI v5)), (6, .int (iI v6)), (7, .int (iI v7))] [] := by
              intro mm
              induction mm with
              | zero => intro v3b v7 g2 h_44 kx k3 ey ig2 i37 hk_46 hk_47 hg_45 hk_48 hk_49 hk_50 hk_51 hk_52 hk_53 fr_54 hm; exfalso; omega
              | succ mm ih =>
                intro v3b v7 g2 h_44 kx k3 ey ig2 i37 hk_46 hk_47 hg_45 hk_48 hk_49 hk_50 hk_51 hk_52 hk_53 fr_54 hm
                have ih_55 := ih; clear ih
                refine z_iload hx dX9_years_47 6 rfl ?_
                refine z_aload_n hx dX9_years_49 rfl 0 rfl ?_
                refine z_get hx dX9_years_50 fl_X9_7 hk_46 rfl ?_
                refine z_bipush hx dX9_years_53 (by decide) ?_
                refine z_iald hx dX9_years_55 hk_47 (by decide) (by decide) ?_
                have rg_56 := hI.rg (37) (by decide)
                refine z_icmp_ge (tgt := 110) hx dX9_years_56 (by decide) (by omega) (by omega) (fun c_57 => ?_) (fun c_57 => ?_)
                ·
                  refine z_aload_n hx dX9_years_110 rfl 0 rfl ?_
                  refine z_bipush hx dX9_years_111 (by decide) ?_
                  refine z_cVV (as := [.int (iI 9)]) (rest := []) hx dX9_years_113 lk_X9_214 wm_X9_goOn wv_X9_goOn (rcv_obj hx hk_46 rfl) mo_X9_goOn (kX9_goOn g (S := (sst S 2 g2)) (m := 9) ⟨hk_46, hk_47, hg_45, hk_48, hk_49, hk_50, hk_51, hk_52, hk_53⟩ (by omega) (by exact ig2) (by omega)) (by decide) rfl rfl (Nat.le_of_ble_eq_true rfl) (fun h_58 q_59 => ?_)
                  obtain ⟨⟨p_60, p_61, p_62, p_63, p_64, p_65, p_66, p_67, p_68⟩, hf_69⟩ := q_59
                  have m_70 : h_58 b = some (.inr (.inr (7, [.ref (b + 1), .ref (b + 2), .ref (b + 3), .ref (b + 4), .ref (b + 5), .ref (b + 6), .long (lI (S 0 6)), .long (lI (S 0 7)), .int (iI (S 0 8)), .ref (b + 7), .int (iI (S 0 10)), .int (iI (S 0 11)), .int (iI (S 0 12)), .int (iI (S 0 13)), .long (lI (S 0 14)), .int (iI (S 0 15)), .ref (b + 8)]))) := p_60
                  have m_71 : h_58 (b + 1) = some (.inl (0, 267, S 1)) := p_61
                  have m_72 : h_58 (b + 2) = some (.inl (0, 267, gon 9 (g2))) := p_62
                  have m_73 : h_58 (b + 3) = some (.inl (0, 267, S 3)) := p_63
                  have m_74 : h_58 (b + 4) = some (.inl (0, 534, S 4)) := p_64
                  have m_75 : h_58 (b + 5) = some (.inl (2, 2, S 5)) := p_65
                  have m_76 : h_58 (b + 6) = some (.inl (0, 3, S 6)) := p_66
                  have m_77 : h_58 (b + 7) = some (.inl (0, 150, S 7)) := p_67
                  have m_78 : h_58 (b + 8) = some (.inl (0, 4, S 8)) := p_68
                  obtain ⟨f_79, ef_79⟩ : ∃ F : Int → Int, F = gon 9 (g2) := ⟨_, rfl⟩
                  rw [← ef_79] at m_72
                  have iv_80 := inv_gon ig2 (m := 9) (by omega)
                  rw [← ef_79] at iv_80
                  have fr_81 := fr_54.tr (hf_69.wd (by omega) (by omega))
                  have e7 : itI (S 1 37) yinG (v3, cpn (S 1) g1) = (v3b, g2) := by rw [← ey, show v7 = S 1 37 by omega]
                  have eT : f_79 = yrT (S 1) v3 g1 := by rw [ef_79]; unfold yrT; rw [e7]
                  have oT : outR f_79 := outR_cfx ho iv_80.1
                  have ht1 := tkn_rg iv_80.1
                  have ht3 := popc_rg (v := tkn f_79)
                  refine z_iload hx dX9_years_116 4 rfl ?_
                  refine z_aload_n hx dX9_years_118 rfl 0 rfl ?_
                  refine z_get hx dX9_years_119 fl_X9_13 m_70 rfl ?_
                  refine z_cSI (as := [.ref (b + 2)]) (rest := [.int (iI v5)]) hx dX9_years_122 lk_X9_190 wt_X9_takenIn mo_X9_takenIn (kX9_takenIn g  m_72 iv_80.1 ) (by decide) rfl rfl (Nat.le_of_ble_eq_true rfl) ?_
                  have f_82 := tkn_rg iv_80.1
                  refine z_cSI (as := [.int (iI (tkn f_79))]) (rest := [.int (iI v5)]) hx dX9_years_125 lk_X9_155 wt_X9_bits mo_X9_bits (kX9_bits g (v := (tkn f_79)) (by omega)) (by decide) rfl rfl (Nat.le_of_ble_eq_true rfl) ?_
                  have f_83 := popc_rg (v := (tkn f_79))
                  refine z_iadd hx dX9_years_128 ?_
                  refine z_istore hx dX9_years_129 (by decide) [1, 2, 3, 4, 0, 5, 6] (lv' := [(0, .ref b), (1, .int (iI a)), (2, .int (iI n)), (3, .long (lI v3b)), (5, .int (iI (v5 + (popc (tkn f_79))))), (6, .int (iI v6)), (7, .int (iI v7))]) rfl ?_
                  refine z_iinc hx dX9_years_131 (by decide) 5 rfl [1, 2, 3, 4, 5, 0, 6] (lv' := [(0, .ref b), (1, .int (iI a)), (2, .int (iI n)), (3, .long (lI v3b)), (5, .int (iI (v5 + (popc (tkn f_79))))), (6, .int (iI (v6 + 1))), (7, .int (iI v7))]) rfl ?_
                  refine z_goto (tgt := 34) hx dX9_years_134 (by decide) ?_
                  refine z_sub [0, 1, 2, 3, 4, 5] (lv' := [(0, .ref b), (1, .int (iI a)), (2, .int (iI n)), (3, .long (lI v3b)), (5, .int (iI (v5 + (popc (tkn f_79))))), (6, .int (iI (v6 + 1)))]) rfl ?_
                  exact ih_18 _ _ _ f_79 _ (by omega) (by omega) (by omega) (by rw [itI_s _ _ (by omega), eg]; unfold yrG; dsimp only; rw [e7, ← eT]) (by exact oT) m_70 m_71 m_72 m_73 m_74 m_75 m_76 m_77 m_78 fr_81 (by omega)
                ·
                  have hyx0 : 0 ≤ (v3b * 1103515245 + 12345) % 2147483648 ∧ (v3b * 1103515245 + 12345) % 2147483648 < 2147483648 := by omega
                  refine z_lload_n hx dX9_years_59 rfl 3 rfl ?_
                  refine z_ldc2 (a := 1103515245) hx dX9_years_60 wq_X9_248 (by decide) ?_
                  refine z_lmul hx dX9_years_63 ?_
                  refine z_ldc2 (a := 12345) hx dX9_years_64 wq_X9_250 (by decide) ?_
                  refine z_ladd hx dX9_years_67 ?_
                  refine z_ldc2 (a := 2147483648) hx dX9_years_68 wq_X9_252 (by decide) ?_
                  refine z_lrem hx dX9_years_71 (by omega) (by decide) ?_
                  refine z_lstore_n hx dX9_years_72 rfl (by decide) [1, 2, 3, 0, 4, 5, 6] (lv' := [(0, .ref b), (1, .int (iI a)), (2, .int (iI n)), (3, .long (lI (((v3b * 1103515245) + 12345) % 2147483648))), (5, .int (iI v5)), (6, .int (iI v6)), (7, .int (iI v7))]) rfl ?_
                  refine z_aload_n hx dX9_years_73 rfl 0 rfl ?_
                  refine z_get hx dX9_years_74 fl_X9_13 hk_46 rfl ?_
                  refine z_bipush hx dX9_years_77 (by decide) ?_
                  refine z_iload hx dX9_years_79 6 rfl ?_
                  refine z_iadd hx dX9_years_81 ?_
                  refine z_lload_n hx dX9_years_82 rfl 3 rfl ?_
                  refine z_ldc2 (a := 65536) hx dX9_years_83 wq_X9_254 (by decide) ?_
                  refine z_ldiv hx dX9_years_86 (by omega) (by decide) ?_
                  refine z_ldc2 (a := 24) hx dX9_years_87 wq_X9_256 (by decide) ?_
                  refine z_lrem hx dX9_years_90 (by omega) (by decide) ?_
                  refine z_l2i hx dX9_years_91 ?_
                  refine z_iastQ hx dX9_years_92 hg_45 (by omega) (by decide) (fun h_84 hs_85 hf_86 => ?_)
                  have h_87 := hf_86.at (by omega) hk_46
                  have h_88 := hf_86.at (by omega) hk_47
                  have h_89 := hf_86.at (by omega) hk_48
                  have h_90 := hf_86.at (by omega) hk_49
                  have h_91 := hf_86.at (by omega) hk_50
                  have h_92 := hf_86.at (by omega) hk_51
                  have h_93 := hf_86.at (by omega) hk_52
                  have h_94 := hf_86.at (by omega) hk_53
                  have fr_95 := fr_54.tr (hf_86.wd (by omega) (by omega))
                  refine z_aload_n hx dX9_years_93 rfl 0 rfl ?_
                  refine z_get hx dX9_years_94 fl_X9_13 h_87 rfl ?_
                  refine z_bipush hx dX9_years_97 (by decide) ?_
                  refine z_iload hx dX9_years_99 6 rfl ?_
                  refine z_iadd hx dX9_years_101 ?_
                  refine z_iconst hx dX9_years_102 ?_
                  refine z_iastQ hx dX9_years_103 hs_85 (by omega) (by decide) (fun h_96 hs_97 hf_98 => ?_)
                  have h_99 := hf_98.at (by omega) h_87
                  have h_100 := hf_98.at (by omega) h_88
                  have h_101 := hf_98.at (by omega) h_89
                  have h_102 := hf_98.at (by omega) h_90
                  have h_103 := hf_98.at (by omega) h_91
                  have h_104 := hf_98.at (by omega) h_92
                  have h_105 := hf_98.at (by omega) h_93
                  have h_106 := hf_98.at (by omega) h_94
                  have fr_107 := fr_95.tr (hf_98.wd (by omega) (by omega))
                  refine z_iinc hx dX9_years_104 (by decide) 6 rfl [1, 2, 3, 4, 5, 6, 0] (lv' := [(0, .ref b), (1, .int (iI a)), (2, .int (iI n)), (3, .long (lI (((v3b * 1103515245) + 12345) % 2147483648))), (5, .int (iI v5)), (6, .int (iI v6)), (7, .int (iI (v7 + 1)))]) rfl ?_
                  refine z_goto (tgt := 47) hx dX9_years_107 (by decide) ?_
                  have ec : (yrX v3b, (fup (fup g2 (11 + v7) (((((v3b * 1103515245) + 12345) % 2147483648) / 65536) % 24)) (17 + v7) 0)) = yinG v7 (v3b, g2) := rfl
                  have hyx : 0 ≤ yrX v3b ∧ yrX v3b < 2147483648 := by unfold yrX; omega
                  have hyc : 0 ≤ yrX v3b / 65536 % 24 ∧ yrX v3b / 65536 % 24 < 24 := by omega
                  have iy := inv_yin ig2 (p := v7) (c := yrX v3b / 65536 % 24) (by omega) hyc
                  have iy37 := iy.2 37 (by decide)
                  have iy1 : inv (fup (fup g2 (11 + v7) (((((v3b * 1103515245) + 12345) % 2147483648) / 65536) % 24)) (17 + v7) 0) := iy.1
                  exact ih_55 _ _ (fup (fup g2 (11 + v7) (((((v3b * 1103515245) + 12345) % 2147483648) / 65536) % 24)) (17 + v7) 0) _ (by omega) (by exact hyx) (by rw [itI_s _ _ (by omega), ey]; rfl) (by exact iy1) (by rw [← i37]; exact iy37) h_99 h_100 hs_97 h_101 h_102 h_103 h_104 h_105 h_106 fr_107 (by omega)
            exact hL_43 ((S 1 37 - 0) + 1 : Int).toNat _ _ f_41 _ (by omega) (by omega) (by rw [← ecp]; rfl) (by exact icp) (by exact c37) m_32 m_33 m_34 m_35 m_36 m_37 m_38 m_39 m_40 fr_42 (by omega)
      exact hL_6 ((n - 0) + 1 : Int).toNat _ _ _ (S 2) _ (by omega) (by omega) (by omega) (by rfl) (by exact hTo) m0 m1 m2 m3 m4 m5 m6 m7 m8 Fr.rf (by omega)
    ·
      refine z_aload_n hx dX9_years_20 rfl 0 rfl ?_
      refine z_cVJ (as := []) (rest := []) hx dX9_years_21 lk_X9_55 wm_X9_bad wv_X9_bad (rcv_obj hx m0 rfl) mo_X9_bad (kX9_bad g  ⟨m0, m1, m2, m3, m4, m5, m6, m7, m8⟩) (by decide) rfl rfl (Nat.le_of_ble_eq_true rfl) (fun h_108 q_109 => ?_)
      have fr_110 : Fr h h_108 b 9 := q_109.2.wd (by omega) (by omega)
      refine z_iret hx hr dX9_years_24 rfl rfl (q_j (by unfold yearsA; (repeat (first | rw [if_pos (by omega)] | rw [if_neg (by omega)])); (try rw [e24]); (try rfl)) (by unfold yearsA; (repeat (first | rw [if_pos (by omega)] | rw [if_neg (by omega)])); (try rw [e24]); exact ⟨q_109.1, fr_110⟩))

def dg1 (S : Nat → Int → Int) : Int → Int → Int := fun w r => 31 * r + cntV S w
def dg2 (f : Int → Int) : Int → Int → Int := fun k r => 31 * (31 * (31 * (31 * r + f (27 + k)) + f (1 + k)) + f (32 + k)) + f (6 + k)
def dg3i (f : Int → Int) (p : Int) : Int → Int → Int := fun w r => 31 * r + tel f p w
def dg3 (f : Int → Int) : Int → Int → Int := fun p r => itI 3 (dg3i f p) r
def dg4 (f : Int → Int) (o : Int) : Int → Int → Int := fun s r => 31 * r + f (o + s)
def digV (S : Nat → Int → Int) : Int := 31 * (31 * itI (3 * S 1 39) (dg4 (S 1) 40) (itI (S 1 38) (dg4 (S 1) 23) (itI (S 1 37) (dg3 (S 1)) (itI (S 1 26) (dg2 (S 1)) (itI 9 (dg1 S) 1409)))) + S 0 6) + S 0 7

set_option maxHeartbeats 4000000 in
set_option maxRecDepth 20000 in
theorem kX9_digest (g : Gt) {h : AH} {b : Nat} {S : Nat → Int → Int} (hM : RM h b S) (hV : invM S) : CnM g mX9_digest 4 [.ref b] h (digV S) (QM h b S) := by
  refine Cn.mk (by decide +kernel) (Nat.le_of_ble_eq_true rfl) ?_
  intro x sz hx hr
  show Zj g x (sz, 0, 0) h 0 [(0, .ref b)] []
  obtain ⟨m0, m1, m2, m3, m4, m5, m6, m7, m8⟩ := hM
  have hN := hV.1
  have hI := hN.1
  have hn := hI.n
  have h39 : 0 ≤ S 1 39 ∧ S 1 39 ≤ 6 := ⟨(hI.rg 39 (by decide)).1, hN.2.2.1⟩
  refine z_ldc2 (a := 1409) hx dX9_digest_0 wq_X9_261 (by decide) ?_
  refine z_lstore_n hx dX9_digest_3 rfl (by decide) [1, 0] (lv' := [(0, .ref b), (1, .long (lI 1409))]) rfl ?_
  refine z_iconst hx dX9_digest_4 ?_
  refine z_istore_n hx dX9_digest_5 rfl (by decide) [1, 2, 0] (lv' := [(0, .ref b), (1, .long (lI 1409)), (3, .int (iI 0))]) rfl ?_
  have hL_1 : ∀ (mm : Nat) (d1 : Int) (a3 : Int), (0 ≤ a3 ∧ a3 ≤ (9 : Int)) → (d1 = itI a3 (dg1 S) (1409)) → (9 : Int) - a3 < (mm : Int) → Zj g x (sz, 0, 0) h 6 [(0, .ref b), (1, .long (lI d1)), (3, .int (iI a3))] [] := by
    intro mm
    induction mm with
    | zero => intro d1 a3 ka ea hm; exfalso; omega
    | succ mm ih =>
      intro d1 a3 ka ea hm
      have ih_2 := ih; clear ih
      refine z_iload_n hx dX9_digest_6 rfl 2 rfl ?_
      refine z_bipush hx dX9_digest_7 (by decide) ?_
      refine z_icmp_ge (tgt := 31) hx dX9_digest_9 (by decide) (by omega) (by decide) (fun c_3 => ?_) (fun c_3 => ?_)
      ·
        have E1 : itI 9 (dg1 S) (1409) = d1 := by rw [ea, show a3 = 9 by omega]
        refine z_iconst hx dX9_digest_31 ?_
        refine z_istore_n hx dX9_digest_32 rfl (by decide) [1, 2, 0] (lv' := [(0, .ref b), (1, .long (lI d1)), (3, .int (iI 0))]) rfl ?_
        have hL_4 : ∀ (mm : Nat) (d2 : Int) (b3 : Int), (0 ≤ b3 ∧ b3 ≤ S 1 26) → (d2 = itI b3 (dg2 (S 1)) (d1)) → S 1 26 - b3 < (mm : Int) → Zj g x (sz, 0, 0) h 33 [(0, .ref b), (1, .long (lI d2)), (3, .int (iI b3))] [] := by
          intro mm
          induction mm with
          | zero => intro d2 b3 kb eb hm; exfalso; omega
          | succ mm ih =>
            intro d2 b3 kb eb hm
            have ih_5 := ih; clear ih
            refine z_iload_n hx dX9_digest_33 rfl 2 rfl ?_
            refine z_aload_n hx dX9_digest_34 rfl 0 rfl ?_
            refine z_get hx dX9_digest_35 fl_X9_7 m0 rfl ?_
            refine z_bipush hx dX9_digest_38 (by decide) ?_
            refine z_iald hx dX9_digest_40 m1 (by decide) (by decide) ?_
            have rg_6 := hI.rg (26) (by decide)
            refine z_icmp_ge (tgt := 117) hx dX9_digest_41 (by decide) (by omega) (by omega) (fun c_7 => ?_) (fun c_7 => ?_)
            ·
              have E2 : itI (S 1 26) (dg2 (S 1)) (itI 9 (dg1 S) (1409)) = d2 := by rw [E1, eb, show b3 = S 1 26 by omega]
              refine z_iconst hx dX9_digest_117 ?_
              refine z_istore_n hx dX9_digest_118 rfl (by decide) [1, 2, 0] (lv' := [(0, .ref b), (1, .long (lI d2)), (3, .int (iI 0))]) rfl ?_
              have hL_8 : ∀ (mm : Nat) (d3 : Int) (c3 : Int), (0 ≤ c3 ∧ c3 ≤ S 1 37) → (d3 = itI c3 (dg3 (S 1)) (d2)) → S 1 37 - c3 < (mm : Int) → Zj g x (sz, 0, 0) h 119 [(0, .ref b), (1, .long (lI d3)), (3, .int (iI c3))] [] := by
                intro mm
                induction mm with
                | zero => intro d3 c3 kc ec hm; exfalso; omega
                | succ mm ih =>
                  intro d3 c3 kc ec hm
                  have ih_9 := ih; clear ih
                  refine z_iload_n hx dX9_digest_119 rfl 2 rfl ?_
                  refine z_aload_n hx dX9_digest_120 rfl 0 rfl ?_
                  refine z_get hx dX9_digest_121 fl_X9_7 m0 rfl ?_
                  refine z_bipush hx dX9_digest_124 (by decide) ?_
                  refine z_iald hx dX9_digest_126 m1 (by decide) (by decide) ?_
                  have rg_10 := hI.rg (37) (by decide)
                  refine z_icmp_ge (tgt := 169) hx dX9_digest_127 (by decide) (by omega) (by omega) (fun c_11 => ?_) (fun c_11 => ?_)
                  ·
                    have E3 : itI (S 1 37) (dg3 (S 1)) (itI (S 1 26) (dg2 (S 1)) (itI 9 (dg1 S) (1409))) = d3 := by rw [E2, ec, show c3 = S 1 37 by omega]
                    refine z_iconst hx dX9_digest_169 ?_
                    refine z_istore_n hx dX9_digest_170 rfl (by decide) [1, 2, 0] (lv' := [(0, .ref b), (1, .long (lI d3)), (3, .int (iI 0))]) rfl ?_
                    have hL_12 : ∀ (mm : Nat) (d4 : Int) (s3 : Int), (0 ≤ s3 ∧ s3 ≤ S 1 38) → (d4 = itI s3 (dg4 (S 1) 23) (d3)) → S 1 38 - s3 < (mm : Int) → Zj g x (sz, 0, 0) h 171 [(0, .ref b), (1, .long (lI d4)), (3, .int (iI s3))] [] := by
                      intro mm
                      induction mm with
                      | zero => intro d4 s3 ks es hm; exfalso; omega
                      | succ mm ih =>
                        intro d4 s3 ks es hm
                        have ih_13 := ih; clear ih
                        refine z_iload_n hx dX9_digest_171 rfl 2 rfl ?_
                        refine z_aload_n hx dX9_digest_172 rfl 0 rfl ?_
                        refine z_get hx dX9_digest_173 fl_X9_7 m0 rfl ?_
                        refine z_bipush hx dX9_digest_176 (by decide) ?_
                        refine z_iald hx dX9_digest_178 m1 (by decide) (by decide) ?_
                        have rg_14 := hI.rg (38) (by decide)
                        refine z_icmp_ge (tgt := 205) hx dX9_digest_179 (by decide) (by omega) (by omega) (fun c_15 => ?_) (fun c_15 => ?_)
                        ·
                          have E4 : itI (S 1 38) (dg4 (S 1) 23) (itI (S 1 37) (dg3 (S 1)) (itI (S 1 26) (dg2 (S 1)) (itI 9 (dg1 S) (1409)))) = d4 := by rw [E3, es, show s3 = S 1 38 by omega]
                          refine z_iconst hx dX9_digest_205 ?_
                          refine z_istore_n hx dX9_digest_206 rfl (by decide) [1, 2, 0] (lv' := [(0, .ref b), (1, .long (lI d4)), (3, .int (iI 0))]) rfl ?_
                          have hL_16 : ∀ (mm : Nat) (d5 : Int) (n3 : Int), (0 ≤ n3 ∧ n3 ≤ 3 * S 1 39) → (d5 = itI n3 (dg4 (S 1) 40) (d4)) → 3 * S 1 39 - n3 < (mm : Int) → Zj g x (sz, 0, 0) h 207 [(0, .ref b), (1, .long (lI d5)), (3, .int (iI n3))] [] := by
                            intro mm
                            induction mm with
                            | zero => intro d5 n3 kn en hm; exfalso; omega
                            | succ mm ih =>
                              intro d5 n3 kn en hm
                              have ih_17 := ih; clear ih
                              refine z_iload_n hx dX9_digest_207 rfl 2 rfl ?_
                              refine z_iconst hx dX9_digest_208 ?_
                              refine z_aload_n hx dX9_digest_209 rfl 0 rfl ?_
                              refine z_get hx dX9_digest_210 fl_X9_7 m0 rfl ?_
                              refine z_bipush hx dX9_digest_213 (by decide) ?_
                              refine z_iald hx dX9_digest_215 m1 (by decide) (by decide) ?_
                              have rg_18 := hI.rg (39) (by decide)
                              refine z_imul hx dX9_digest_216 ?_
                              refine z_icmp_ge (tgt := 243) hx dX9_digest_217 (by decide) (by omega) (by omega) (fun c_19 => ?_) (fun c_19 => ?_)
                              ·
                                have E5 : itI (3 * S 1 39) (dg4 (S 1) 40) (itI (S 1 38) (dg4 (S 1) 23) (itI (S 1 37) (dg3 (S 1)) (itI (S 1 26) (dg2 (S 1)) (itI 9 (dg1 S) (1409))))) = d5 := by rw [E4, en, show n3 = 3 * S 1 39 by omega]
                                refine z_ldc2 (a := 31) hx dX9_digest_243 wq_X9_263 (by decide) ?_
                                refine z_ldc2 (a := 31) hx dX9_digest_246 wq_X9_263 (by decide) ?_
                                refine z_lload_n hx dX9_digest_249 rfl 1 rfl ?_
                                refine z_lmul hx dX9_digest_250 ?_
                                refine z_aload_n hx dX9_digest_251 rfl 0 rfl ?_
                                refine z_get hx dX9_digest_252 fl_X9_244 m0 rfl ?_
                                refine z_ladd hx dX9_digest_255 ?_
                                refine z_lmul hx dX9_digest_256 ?_
                                refine z_aload_n hx dX9_digest_257 rfl 0 rfl ?_
                                refine z_get hx dX9_digest_258 fl_X9_29 m0 rfl ?_
                                refine z_ladd hx dX9_digest_261 ?_
                                refine z_lret hx hr dX9_digest_262 rfl (q_m (by unfold digV; rw [E5]) ⟨⟨m0, m1, m2, m3, m4, m5, m6, m7, m8⟩, Fr.rf⟩)
                              ·
                                refine z_ldc2 (a := 31) hx dX9_digest_220 wq_X9_263 (by decide) ?_
                                refine z_lload_n hx dX9_digest_223 rfl 1 rfl ?_
                                refine z_lmul hx dX9_digest_224 ?_
                                refine z_aload_n hx dX9_digest_225 rfl 0 rfl ?_
                                refine z_get hx dX9_digest_226 fl_X9_7 m0 rfl ?_
                                refine z_bipush hx dX9_digest_229 (by decide) ?_
                                refine z_iload_n hx dX9_digest_231 rfl 2 rfl ?_
                                refine z_iadd hx dX9_digest_232 ?_
                                refine z_iald hx dX9_digest_233 m1 (by omega) (by decide) ?_
                                have rg_20 := hI.rg ((40 + n3)) (by omega)
                                refine z_i2l hx dX9_digest_234 (by omega) ?_
                                refine z_ladd hx dX9_digest_235 ?_
                                refine z_lstore_n hx dX9_digest_236 rfl (by decide) [1, 0, 2] (lv' := [(0, .ref b), (1, .long (lI ((31 * d5) + (S 1 (40 + n3))))), (3, .int (iI n3))]) rfl ?_
                                refine z_iinc hx dX9_digest_237 (by decide) 2 rfl [1, 2, 0] (lv' := [(0, .ref b), (1, .long (lI ((31 * d5) + (S 1 (40 + n3))))), (3, .int (iI (n3 + 1)))]) rfl ?_
                                refine z_goto (tgt := 207) hx dX9_digest_240 (by decide) ?_
                                exact ih_17 _ _ (by omega) (by rw [itI_s _ _ (by omega), ← en]; rfl)  (by omega)
                          exact hL_16 ((3 * S 1 39 - 0) + 1 : Int).toNat _ _ (by omega) (by rw [itI_0 _ _ rfl])  (by omega)
                        ·
                          refine z_ldc2 (a := 31) hx dX9_digest_182 wq_X9_263 (by decide) ?_
                          refine z_lload_n hx dX9_digest_185 rfl 1 rfl ?_
                          refine z_lmul hx dX9_digest_186 ?_
                          refine z_aload_n hx dX9_digest_187 rfl 0 rfl ?_
                          refine z_get hx dX9_digest_188 fl_X9_7 m0 rfl ?_
                          refine z_bipush hx dX9_digest_191 (by decide) ?_
                          refine z_iload_n hx dX9_digest_193 rfl 2 rfl ?_
                          refine z_iadd hx dX9_digest_194 ?_
                          refine z_iald hx dX9_digest_195 m1 (by omega) (by decide) ?_
                          have rg_21 := hI.rg ((23 + s3)) (by omega)
                          refine z_i2l hx dX9_digest_196 (by omega) ?_
                          refine z_ladd hx dX9_digest_197 ?_
                          refine z_lstore_n hx dX9_digest_198 rfl (by decide) [1, 0, 2] (lv' := [(0, .ref b), (1, .long (lI ((31 * d4) + (S 1 (23 + s3))))), (3, .int (iI s3))]) rfl ?_
                          refine z_iinc hx dX9_digest_199 (by decide) 2 rfl [1, 2, 0] (lv' := [(0, .ref b), (1, .long (lI ((31 * d4) + (S 1 (23 + s3))))), (3, .int (iI (s3 + 1)))]) rfl ?_
                          refine z_goto (tgt := 171) hx dX9_digest_202 (by decide) ?_
                          exact ih_13 _ _ (by omega) (by rw [itI_s _ _ (by omega), ← es]; rfl)  (by omega)
                    exact hL_12 ((S 1 38 - 0) + 1 : Int).toNat _ _ (by omega) (by rw [itI_0 _ _ rfl])  (by omega)
                  ·
                    refine z_iconst hx dX9_digest_130 ?_
                    refine z_istore hx dX9_digest_131 (by decide) [1, 2, 3, 0] (lv' := [(0, .ref b), (1, .long (lI d3)), (3, .int (iI c3)), (4, .int (iI 0))]) rfl ?_
                    have hL_22 : ∀ (mm : Nat) (d3i : Int) (c4 : Int), (0 ≤ c4 ∧ c4 ≤ (3 : Int)) → (d3i = itI c4 (dg3i (S 1) c3) (d3)) → (3 : Int) - c4 < (mm : Int) → Zj g x (sz, 0, 0) h 133 [(0, .ref b), (1, .long (lI d3i)), (3, .int (iI c3)), (4, .int (iI c4))] [] := by
                      intro mm
                      induction mm with
                      | zero => intro d3i c4 ki ei hm; exfalso; omega
                      | succ mm ih =>
                        intro d3i c4 ki ei hm
                        have ih_23 := ih; clear ih
                        refine z_iload hx dX9_digest_133 3 rfl ?_
                        refine z_iconst hx dX9_digest_135 ?_
                        refine z_icmp_ge (tgt := 163) hx dX9_digest_136 (by decide) (by omega) (by decide) (fun c_24 => ?_) (fun c_24 => ?_)
                        ·
                          refine z_iinc hx dX9_digest_163 (by decide) 2 rfl [1, 2, 0, 3] (lv' := [(0, .ref b), (1, .long (lI d3i)), (3, .int (iI (c3 + 1))), (4, .int (iI c4))]) rfl ?_
                          refine z_goto (tgt := 119) hx dX9_digest_166 (by decide) ?_
                          refine z_sub [0, 1, 2] (lv' := [(0, .ref b), (1, .long (lI d3i)), (3, .int (iI (c3 + 1)))]) rfl ?_
                          exact ih_9 _ _ (by omega) (by rw [itI_s _ _ (by omega), ← ec]; unfold dg3; rw [← show c4 = 3 by omega]; exact ei)  (by omega)
                        ·
                          refine z_ldc2 (a := 31) hx dX9_digest_139 wq_X9_263 (by decide) ?_
                          refine z_lload_n hx dX9_digest_142 rfl 1 rfl ?_
                          refine z_lmul hx dX9_digest_143 ?_
                          refine z_aload_n hx dX9_digest_144 rfl 0 rfl ?_
                          refine z_get hx dX9_digest_145 fl_X9_7 m0 rfl ?_
                          refine z_iload_n hx dX9_digest_148 rfl 2 rfl ?_
                          refine z_iload hx dX9_digest_149 3 rfl ?_
                          refine z_cSI (as := [.ref (b + 1), .int (iI c3), .int (iI c4)]) (rest := [.long (lI (31 * d3i))]) hx dX9_digest_151 lk_X9_207 wt_X9_aboutIn mo_X9_aboutIn (kX9_aboutIn g (p := c3) (w := c4) m1 hI (by omega) (by omega)) (by decide) rfl rfl (Nat.le_of_ble_eq_true rfl) ?_
                          have f_25 := tel_rg hI (p := c3) (w := c4) (by omega)
                          refine z_i2l hx dX9_digest_154 (by omega) ?_
                          refine z_ladd hx dX9_digest_155 ?_
                          refine z_lstore_n hx dX9_digest_156 rfl (by decide) [1, 0, 2, 3] (lv' := [(0, .ref b), (1, .long (lI ((31 * d3i) + (tel (S 1) c3 c4)))), (3, .int (iI c3)), (4, .int (iI c4))]) rfl ?_
                          refine z_iinc hx dX9_digest_157 (by decide) 3 rfl [1, 2, 3, 0] (lv' := [(0, .ref b), (1, .long (lI ((31 * d3i) + (tel (S 1) c3 c4)))), (3, .int (iI c3)), (4, .int (iI (c4 + 1)))]) rfl ?_
                          refine z_goto (tgt := 133) hx dX9_digest_160 (by decide) ?_
                          exact ih_23 _ _ (by omega) (by rw [itI_s _ _ (by omega), ← ei]; rfl)  (by omega)
                    exact hL_22 (((3 : Int) - 0) + 1 : Int).toNat _ _ (by omega) (by rw [itI_0 _ _ rfl])  (by omega)
              exact hL_8 ((S 1 37 - 0) + 1 : Int).toNat _ _ (by omega) (by rw [itI_0 _ _ rfl])  (by omega)
            ·
              have hkk := hI.k b3 (by omega)
              refine z_ldc2 (a := 31) hx dX9_digest_44 wq_X9_263 (by decide) ?_
              refine z_lload_n hx dX9_digest_47 rfl 1 rfl ?_
              refine z_lmul hx dX9_digest_48 ?_
              refine z_aload_n hx dX9_digest_49 rfl 0 rfl ?_
              refine z_get hx dX9_digest_50 fl_X9_7 m0 rfl ?_
              refine z_bipush hx dX9_digest_53 (by decide) ?_
              refine z_iload_n hx dX9_digest_55 rfl 2 rfl ?_
              refine z_iadd hx dX9_digest_56 ?_
              refine z_iald hx dX9_digest_57 m1 (by omega) (by decide) ?_
              have rg_26 := hI.rg ((27 + b3)) (by omega)
              refine z_i2l hx dX9_digest_58 (by omega) ?_
              refine z_ladd hx dX9_digest_59 ?_
              refine z_lstore_n hx dX9_digest_60 rfl (by decide) [1, 0, 2] (lv' := [(0, .ref b), (1, .long (lI ((31 * d2) + (S 1 (27 + b3))))), (3, .int (iI b3))]) rfl ?_
              refine z_ldc2 (a := 31) hx dX9_digest_61 wq_X9_263 (by decide) ?_
              refine z_lload_n hx dX9_digest_64 rfl 1 rfl ?_
              refine z_lmul hx dX9_digest_65 ?_
              refine z_aload_n hx dX9_digest_66 rfl 0 rfl ?_
              refine z_get hx dX9_digest_67 fl_X9_7 m0 rfl ?_
              refine z_iconst hx dX9_digest_70 ?_
              refine z_iload_n hx dX9_digest_71 rfl 2 rfl ?_
              refine z_iadd hx dX9_digest_72 ?_
              refine z_iald hx dX9_digest_73 m1 (by omega) (by decide) ?_
              have rg_27 := hI.rg ((1 + b3)) (by omega)
              refine z_i2l hx dX9_digest_74 (by omega) ?_
              refine z_ladd hx dX9_digest_75 ?_
              refine z_lstore_n hx dX9_digest_76 rfl (by decide) [1, 0, 2] (lv' := [(0, .ref b), (1, .long (lI ((31 * ((31 * d2) + (S 1 (27 + b3)))) + (S 1 (1 + b3))))), (3, .int (iI b3))]) rfl ?_
              refine z_ldc2 (a := 31) hx dX9_digest_77 wq_X9_263 (by decide) ?_
              refine z_lload_n hx dX9_digest_80 rfl 1 rfl ?_
              refine z_lmul hx dX9_digest_81 ?_
              refine z_aload_n hx dX9_digest_82 rfl 0 rfl ?_
              refine z_get hx dX9_digest_83 fl_X9_7 m0 rfl ?_
              refine z_bipush hx dX9_digest_86 (by decide) ?_
              refine z_iload_n hx dX9_digest_88 rfl 2 rfl ?_
              refine z_iadd hx dX9_digest_89 ?_
              refine z_iald hx dX9_digest_90 m1 (by omega) (by decide) ?_
              have rg_28 := hI.rg ((32 + b3)) (by omega)
              refine z_i2l hx dX9_digest_91 (by omega) ?_
              refine z_ladd hx dX9_digest_92 ?_
              refine z_lstore_n hx dX9_digest_93 rfl (by decide) [1, 0, 2] (lv' := [(0, .ref b), (1, .long (lI ((31 * ((31 * ((31 * d2) + (S 1 (27 + b3)))) + (S 1 (1 + b3)))) + (S 1 (32 + b3))))), (3, .int (iI b3))]) rfl ?_
              refine z_ldc2 (a := 31) hx dX9_digest_94 wq_X9_263 (by decide) ?_
              refine z_lload_n hx dX9_digest_97 rfl 1 rfl ?_
              refine z_lmul hx dX9_digest_98 ?_
              refine z_aload_n hx dX9_digest_99 rfl 0 rfl ?_
              refine z_get hx dX9_digest_100 fl_X9_7 m0 rfl ?_
              refine z_bipush hx dX9_digest_103 (by decide) ?_
              refine z_iload_n hx dX9_digest_105 rfl 2 rfl ?_
              refine z_iadd hx dX9_digest_106 ?_
              refine z_iald hx dX9_digest_107 m1 (by omega) (by decide) ?_
              have rg_29 := hI.rg ((6 + b3)) (by omega)
              refine z_i2l hx dX9_digest_108 (by omega) ?_
              refine z_ladd hx dX9_digest_109 ?_
              refine z_lstore_n hx dX9_digest_110 rfl (by decide) [1, 0, 2] (lv' := [(0, .ref b), (1, .long (lI ((31 * ((31 * ((31 * ((31 * d2) + (S 1 (27 + b3)))) + (S 1 (1 + b3)))) + (S 1 (32 + b3)))) + (S 1 (6 + b3))))), (3, .int (iI b3))]) rfl ?_
              refine z_iinc hx dX9_digest_111 (by decide) 2 rfl [1, 2, 0] (lv' := [(0, .ref b), (1, .long (lI ((31 * ((31 * ((31 * ((31 * d2) + (S 1 (27 + b3)))) + (S 1 (1 + b3)))) + (S 1 (32 + b3)))) + (S 1 (6 + b3))))), (3, .int (iI (b3 + 1)))]) rfl ?_
              refine z_goto (tgt := 33) hx dX9_digest_114 (by decide) ?_
              exact ih_5 _ _ (by omega) (by rw [itI_s _ _ (by omega), ← eb]; rfl)  (by omega)
        exact hL_4 ((S 1 26 - 0) + 1 : Int).toNat _ _ (by omega) (by rw [itI_0 _ _ rfl])  (by omega)
      ·
        refine z_ldc2 (a := 31) hx dX9_digest_12 wq_X9_263 (by decide) ?_
        refine z_lload_n hx dX9_digest_15 rfl 1 rfl ?_
        refine z_lmul hx dX9_digest_16 ?_
        refine z_aload_n hx dX9_digest_17 rfl 0 rfl ?_
        refine z_iload_n hx dX9_digest_18 rfl 2 rfl ?_
        refine z_cVI (as := [.int (iI a3)]) (rest := [.long (lI (31 * d1))]) hx dX9_digest_19 lk_X9_258 wm_X9_counted wv_X9_counted (rcv_obj hx m0 rfl) mo_X9_counted (kX9_counted g (S := S) (w := a3) ⟨m0, m1, m2, m3, m4, m5, m6, m7, m8⟩ hI (by first | exact g_a3 | decide | omega)) (by decide) rfl rfl (Nat.le_of_ble_eq_true rfl) ?_
        have hL9 := hV.2.2.2.1
        have hu9 := una_rg hI
        have hp9 := popc_rg (v := tkn (S 1))
        have h589 := hI.rg 58 (by decide)
        have h09 := hN.2.1
        have hcv : rgI (cntV S a3) := by unfold cntV; (repeat' split) <;> omega
        refine z_i2l hx dX9_digest_22 (by omega) ?_
        refine z_ladd hx dX9_digest_23 ?_
        refine z_lstore_n hx dX9_digest_24 rfl (by decide) [1, 0, 2] (lv' := [(0, .ref b), (1, .long (lI ((31 * d1) + (cntV S a3)))), (3, .int (iI a3))]) rfl ?_
        refine z_iinc hx dX9_digest_25 (by decide) 2 rfl [1, 2, 0] (lv' := [(0, .ref b), (1, .long (lI ((31 * d1) + (cntV S a3)))), (3, .int (iI (a3 + 1)))]) rfl ?_
        refine z_goto (tgt := 6) hx dX9_digest_28 (by decide) ?_
        exact ih_2 _ _ (by omega) (by rw [itI_s _ _ (by omega), ← ea]; rfl)  (by omega)
  exact hL_1 (((9 : Int) - 0) + 1 : Int).toNat _ _ (by omega) (by rw [itI_0 _ _ rfl])  (by omega)

