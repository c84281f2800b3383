/-! the reference's row of numbers: static methods over it -/
set_option maxHeartbeats 4000000 in
set_option maxRecDepth 20000 in
theorem kX9_bits (g : Gt) {v : Int} {h : AH} (hv : 0 ≤ v ∧ v < 256) : CnI g mX9_bits 1 [.int (iI v)] h (popc v) := by
  refine Cn.mk (by decide +kernel) (Nat.le_of_ble_eq_true rfl) ?_
  intro x sz hx hr
  show Zj g x (sz, 0, 0) h 0 [(0, .int (iI v))] []
  refine z_iconst hx dX9_bits_0 ?_
  refine z_istore_n hx dX9_bits_1 rfl (by decide) [1, 0] (lv' := [(0, .int (iI v)), (1, .int (iI 0))]) rfl ?_
  refine z_iconst hx dX9_bits_2 ?_
  refine z_istore_n hx dX9_bits_3 rfl (by decide) [1, 2, 0] (lv' := [(0, .int (iI v)), (1, .int (iI 0)), (2, .int (iI 0))]) rfl ?_
  refine z_iload_n hx dX9_bits_4 rfl 2 rfl ?_
  refine z_bipush hx dX9_bits_5 (by decide) ?_
  refine z_icmp_ge (tgt := 24) hx dX9_bits_7 (by decide) (by decide) (by decide) (fun q => absurd q (by decide)) (fun _ => ?_)
  refine z_iload_n hx dX9_bits_10 rfl 1 rfl ?_
  refine z_iload_n hx dX9_bits_11 rfl 0 rfl ?_
  refine z_iload_n hx dX9_bits_12 rfl 2 rfl ?_
  refine z_ishr hx dX9_bits_13 ?_
  rw [show shrI v 0 = (v / 1) from by rw [shrI_' (by omega) (by decide)]; rfl]
  refine z_iconst hx dX9_bits_14 ?_
  refine z_iand hx dX9_bits_15 ?_
  rw [show andI (v / 1) 1 = ((v / 1) % 2) from by exact andI_1' (by omega)]
  refine z_iadd hx dX9_bits_16 ?_
  refine z_istore_n hx dX9_bits_17 rfl (by decide) [1, 0, 2] (lv' := [(0, .int (iI v)), (1, .int (iI (0 + ((v / 1) % 2)))), (2, .int (iI 0))]) rfl ?_
  refine z_iinc hx dX9_bits_18 (by decide) 2 rfl [1, 2, 0] (lv' := [(0, .int (iI v)), (1, .int (iI (0 + ((v / 1) % 2)))), (2, .int (iI 1))]) rfl ?_
  refine z_goto (tgt := 4) hx dX9_bits_21 (by decide) ?_
  refine z_iload_n hx dX9_bits_4 rfl 2 rfl ?_
  refine z_bipush hx dX9_bits_5 (by decide) ?_
  refine z_icmp_ge (tgt := 24) hx dX9_bits_7 (by decide) (by decide) (by decide) (fun q => absurd q (by decide)) (fun _ => ?_)
  refine z_iload_n hx dX9_bits_10 rfl 1 rfl ?_
  refine z_iload_n hx dX9_bits_11 rfl 0 rfl ?_
  refine z_iload_n hx dX9_bits_12 rfl 2 rfl ?_
  refine z_ishr hx dX9_bits_13 ?_
  rw [show shrI v 1 = (v / 2) from by rw [shrI_' (by omega) (by decide)]; rfl]
  refine z_iconst hx dX9_bits_14 ?_
  refine z_iand hx dX9_bits_15 ?_
  rw [show andI (v / 2) 1 = ((v / 2) % 2) from by exact andI_1' (by omega)]
  refine z_iadd hx dX9_bits_16 ?_
  refine z_istore_n hx dX9_bits_17 rfl (by decide) [1, 0, 2] (lv' := [(0, .int (iI v)), (1, .int (iI ((0 + ((v / 1) % 2)) + ((v / 2) % 2)))), (2, .int (iI 1))]) rfl ?_
  refine z_iinc hx dX9_bits_18 (by decide) 2 rfl [1, 2, 0] (lv' := [(0, .int (iI v)), (1, .int (iI ((0 + ((v / 1) % 2)) + ((v / 2) % 2)))), (2, .int (iI 2))]) rfl ?_
  refine z_goto (tgt := 4) hx dX9_bits_21 (by decide) ?_
  refine z_iload_n hx dX9_bits_4 rfl 2 rfl ?_
  refine z_bipush hx dX9_bits_5 (by decide) ?_
  refine z_icmp_ge (tgt := 24) hx dX9_bits_7 (by decide) (by decide) (by decide) (fun q => absurd q (by decide)) (fun _ => ?_)
  refine z_iload_n hx dX9_bits_10 rfl 1 rfl ?_
  refine z_iload_n hx dX9_bits_11 rfl 0 rfl ?_
  refine z_iload_n hx dX9_bits_12 rfl 2 rfl ?_
  refine z_ishr hx dX9_bits_13 ?_
  rw [show shrI v 2 = (v / 4) from by rw [shrI_' (by omega) (by decide)]; rfl]
  refine z_iconst hx dX9_bits_14 ?_
  refine z_iand hx dX9_bits_15 ?_
  rw [show andI (v / 4) 1 = ((v / 4) % 2) from by exact andI_1' (by omega)]
  refine z_iadd hx dX9_bits_16 ?_
  refine z_istore_n hx dX9_bits_17 rfl (by decide) [1, 0, 2] (lv' := [(0, .int (iI v)), (1, .int (iI (((0 + ((v / 1) % 2)) + ((v / 2) % 2)) + ((v / 4) % 2)))), (2, .int (iI 2))]) rfl ?_
  refine z_iinc hx dX9_bits_18 (by decide) 2 rfl [1, 2, 0] (lv' := [(0, .int (iI v)), (1, .int (iI (((0 + ((v / 1) % 2)) + ((v / 2) % 2)) + ((v / 4) % 2)))), (2, .int (iI 3))]) rfl ?_
  refine z_goto (tgt := 4) hx dX9_bits_21 (by decide) ?_
  refine z_iload_n hx dX9_bits_4 rfl 2 rfl ?_
  refine z_bipush hx dX9_bits_5 (by decide) ?_
  refine z_icmp_ge (tgt := 24) hx dX9_bits_7 (by decide) (by decide) (by decide) (fun q => absurd q (by decide)) (fun _ => ?_)
  refine z_iload_n hx dX9_bits_10 rfl 1 rfl ?_
  refine z_iload_n hx dX9_bits_11 rfl 0 rfl ?_
  refine z_iload_n hx dX9_bits_12 rfl 2 rfl ?_
  refine z_ishr hx dX9_bits_13 ?_
  rw [show shrI v 3 = (v / 8) from by rw [shrI_' (by omega) (by decide)]; rfl]
  refine z_iconst hx dX9_bits_14 ?_
  refine z_iand hx dX9_bits_15 ?_
  rw [show andI (v / 8) 1 = ((v / 8) % 2) from by exact andI_1' (by omega)]
  refine z_iadd hx dX9_bits_16 ?_
  refine z_istore_n hx dX9_bits_17 rfl (by decide) [1, 0, 2] (lv' := [(0, .int (iI v)), (1, .int (iI ((((0 + ((v / 1) % 2)) + ((v / 2) % 2)) + ((v / 4) % 2)) + ((v / 8) % 2)))), (2, .int (iI 3))]) rfl ?_
  refine z_iinc hx dX9_bits_18 (by decide) 2 rfl [1, 2, 0] (lv' := [(0, .int (iI v)), (1, .int (iI ((((0 + ((v / 1) % 2)) + ((v / 2) % 2)) + ((v / 4) % 2)) + ((v / 8) % 2)))), (2, .int (iI 4))]) rfl ?_
  refine z_goto (tgt := 4) hx dX9_bits_21 (by decide) ?_
  refine z_iload_n hx dX9_bits_4 rfl 2 rfl ?_
  refine z_bipush hx dX9_bits_5 (by decide) ?_
  refine z_icmp_ge (tgt := 24) hx dX9_bits_7 (by decide) (by decide) (by decide) (fun q => absurd q (by decide)) (fun _ => ?_)
  refine z_iload_n hx dX9_bits_10 rfl 1 rfl ?_
  refine z_iload_n hx dX9_bits_11 rfl 0 rfl ?_
  refine z_iload_n hx dX9_bits_12 rfl 2 rfl ?_
  refine z_ishr hx dX9_bits_13 ?_
  rw [show shrI v 4 = (v / 16) from by rw [shrI_' (by omega) (by decide)]; rfl]
  refine z_iconst hx dX9_bits_14 ?_
  refine z_iand hx dX9_bits_15 ?_
  rw [show andI (v / 16) 1 = ((v / 16) % 2) from by exact andI_1' (by omega)]
  refine z_iadd hx dX9_bits_16 ?_
  refine z_istore_n hx dX9_bits_17 rfl (by decide) [1, 0, 2] (lv' := [(0, .int (iI v)), (1, .int (iI (((((0 + ((v / 1) % 2)) + ((v / 2) % 2)) + ((v / 4) % 2)) + ((v / 8) % 2)) + ((v / 16) % 2)))), (2, .int (iI 4))]) rfl ?_
  refine z_iinc hx dX9_bits_18 (by decide) 2 rfl [1, 2, 0] (lv' := [(0, .int (iI v)), (1, .int (iI (((((0 + ((v / 1) % 2)) + ((v / 2) % 2)) + ((v / 4) % 2)) + ((v / 8) % 2)) + ((v / 16) % 2)))), (2, .int (iI 5))]) rfl ?_
  refine z_goto (tgt := 4) hx dX9_bits_21 (by decide) ?_
  refine z_iload_n hx dX9_bits_4 rfl 2 rfl ?_
  refine z_bipush hx dX9_bits_5 (by decide) ?_
  refine z_icmp_ge (tgt := 24) hx dX9_bits_7 (by decide) (by decide) (by decide) (fun q => absurd q (by decide)) (fun _ => ?_)
  refine z_iload_n hx dX9_bits_10 rfl 1 rfl ?_
  refine z_iload_n hx dX9_bits_11 rfl 0 rfl ?_
  refine z_iload_n hx dX9_bits_12 rfl 2 rfl ?_
  refine z_ishr hx dX9_bits_13 ?_
  rw [show shrI v 5 = (v / 32) from by rw [shrI_' (by omega) (by decide)]; rfl]
  refine z_iconst hx dX9_bits_14 ?_
  refine z_iand hx dX9_bits_15 ?_
  rw [show andI (v / 32) 1 = ((v / 32) % 2) from by exact andI_1' (by omega)]
  refine z_iadd hx dX9_bits_16 ?_
  refine z_istore_n hx dX9_bits_17 rfl (by decide) [1, 0, 2] (lv' := [(0, .int (iI v)), (1, .int (iI ((((((0 + ((v / 1) % 2)) + ((v / 2) % 2)) + ((v / 4) % 2)) + ((v / 8) % 2)) + ((v / 16) % 2)) + ((v / 32) % 2)))), (2, .int (iI 5))]) rfl ?_
  refine z_iinc hx dX9_bits_18 (by decide) 2 rfl [1, 2, 0] (lv' := [(0, .int (iI v)), (1, .int (iI ((((((0 + ((v / 1) % 2)) + ((v / 2) % 2)) + ((v / 4) % 2)) + ((v / 8) % 2)) + ((v / 16) % 2)) + ((v / 32) % 2)))), (2, .int (iI 6))]) rfl ?_
  refine z_goto (tgt := 4) hx dX9_bits_21 (by decide) ?_
  refine z_iload_n hx dX9_bits_4 rfl 2 rfl ?_
  refine z_bipush hx dX9_bits_5 (by decide) ?_
  refine z_icmp_ge (tgt := 24) hx dX9_bits_7 (by decide) (by decide) (by decide) (fun q => absurd q (by decide)) (fun _ => ?_)
  refine z_iload_n hx dX9_bits_10 rfl 1 rfl ?_
  refine z_iload_n hx dX9_bits_11 rfl 0 rfl ?_
  refine z_iload_n hx dX9_bits_12 rfl 2 rfl ?_
  refine z_ishr hx dX9_bits_13 ?_
  rw [show shrI v 6 = (v / 64) from by rw [shrI_' (by omega) (by decide)]; rfl]
  refine z_iconst hx dX9_bits_14 ?_
  refine z_iand hx dX9_bits_15 ?_
  rw [show andI (v / 64) 1 = ((v / 64) % 2) from by exact andI_1' (by omega)]
  refine z_iadd hx dX9_bits_16 ?_
  refine z_istore_n hx dX9_bits_17 rfl (by decide) [1, 0, 2] (lv' := [(0, .int (iI v)), (1, .int (iI (((((((0 + ((v / 1) % 2)) + ((v / 2) % 2)) + ((v / 4) % 2)) + ((v / 8) % 2)) + ((v / 16) % 2)) + ((v / 32) % 2)) + ((v / 64) % 2)))), (2, .int (iI 6))]) rfl ?_
  refine z_iinc hx dX9_bits_18 (by decide) 2 rfl [1, 2, 0] (lv' := [(0, .int (iI v)), (1, .int (iI (((((((0 + ((v / 1) % 2)) + ((v / 2) % 2)) + ((v / 4) % 2)) + ((v / 8) % 2)) + ((v / 16) % 2)) + ((v / 32) % 2)) + ((v / 64) % 2)))), (2, .int (iI 7))]) rfl ?_
  refine z_goto (tgt := 4) hx dX9_bits_21 (by decide) ?_
  refine z_iload_n hx dX9_bits_4 rfl 2 rfl ?_
  refine z_bipush hx dX9_bits_5 (by decide) ?_
  refine z_icmp_ge (tgt := 24) hx dX9_bits_7 (by decide) (by decide) (by decide) (fun q => absurd q (by decide)) (fun _ => ?_)
  refine z_iload_n hx dX9_bits_10 rfl 1 rfl ?_
  refine z_iload_n hx dX9_bits_11 rfl 0 rfl ?_
  refine z_iload_n hx dX9_bits_12 rfl 2 rfl ?_
  refine z_ishr hx dX9_bits_13 ?_
  rw [show shrI v 7 = (v / 128) from by rw [shrI_' (by omega) (by decide)]; rfl]
  refine z_iconst hx dX9_bits_14 ?_
  refine z_iand hx dX9_bits_15 ?_
  rw [show andI (v / 128) 1 = ((v / 128) % 2) from by exact andI_1' (by omega)]
  refine z_iadd hx dX9_bits_16 ?_
  refine z_istore_n hx dX9_bits_17 rfl (by decide) [1, 0, 2] (lv' := [(0, .int (iI v)), (1, .int (iI ((((((((0 + ((v / 1) % 2)) + ((v / 2) % 2)) + ((v / 4) % 2)) + ((v / 8) % 2)) + ((v / 16) % 2)) + ((v / 32) % 2)) + ((v / 64) % 2)) + ((v / 128) % 2)))), (2, .int (iI 7))]) rfl ?_
  refine z_iinc hx dX9_bits_18 (by decide) 2 rfl [1, 2, 0] (lv' := [(0, .int (iI v)), (1, .int (iI ((((((((0 + ((v / 1) % 2)) + ((v / 2) % 2)) + ((v / 4) % 2)) + ((v / 8) % 2)) + ((v / 16) % 2)) + ((v / 32) % 2)) + ((v / 64) % 2)) + ((v / 128) % 2)))), (2, .int (iI 8))]) rfl ?_
  refine z_goto (tgt := 4) hx dX9_bits_21 (by decide) ?_
  refine z_iload_n hx dX9_bits_4 rfl 2 rfl ?_
  refine z_bipush hx dX9_bits_5 (by decide) ?_
  refine z_icmp_ge (tgt := 24) hx dX9_bits_7 (by decide) (by decide) (by decide) (fun _ => ?_) (fun q => absurd q (by decide))
  refine z_iload_n hx dX9_bits_24 rfl 1 rfl ?_
  refine z_iret hx hr dX9_bits_25 rfl rfl (q_i (by unfold popc; omega))

set_option maxHeartbeats 4000000 in
set_option maxRecDepth 20000 in
theorem kX9_holds (g : Gt) {h : AH} {a : Nat} {f : Int → Int} {k : Int} (hA : h a = some (.inl (0, 267, f))) (hI : inv f) (hk : 0 ≤ k ∧ k < 5) : CnI g mX9_holds 2 [.ref a, .int (iI k)] h (hlf f k) := by
  refine Cn.mk (by decide +kernel) (Nat.le_of_ble_eq_true rfl) ?_
  intro x sz hx hr
  show Zj g x (sz, 0, 0) h 0 [(0, .ref a), (1, .int (iI k))] []
  have hn := hI.n
  have hk1 := hI.k k hk
  refine z_aload_n hx dX9_holds_0 rfl 0 rfl ?_
  refine z_bipush hx dX9_holds_1 (by decide) ?_
  refine z_iload_n hx dX9_holds_3 rfl 1 rfl ?_
  refine z_iadd hx dX9_holds_4 ?_
  refine z_iald hx dX9_holds_5 hA (by omega) (by decide) ?_
  have rg_1 := hI.rg ((27 + k)) (by omega)
  refine z_aload_n hx dX9_holds_6 rfl 0 rfl ?_
  refine z_bipush hx dX9_holds_7 (by decide) ?_
  refine z_iload_n hx dX9_holds_9 rfl 1 rfl ?_
  refine z_iadd hx dX9_holds_10 ?_
  refine z_iald hx dX9_holds_11 hA (by omega) (by decide) ?_
  have rg_2 := hI.rg ((32 + k)) (by omega)
  refine z_aload_n hx dX9_holds_12 rfl 0 rfl ?_
  refine z_bipush hx dX9_holds_13 (by decide) ?_
  refine z_iload_n hx dX9_holds_15 rfl 1 rfl ?_
  refine z_iadd hx dX9_holds_16 ?_
  refine z_iald hx dX9_holds_17 hA (by omega) (by decide) ?_
  have rg_3 := hI.rg ((6 + k)) (by omega)
  refine z_cSI (as := [.int (iI (f (27 + k))), .int (iI (f (32 + k))), .int (iI (f (6 + k)))]) (rest := []) hx dX9_holds_18 lk_X9_142 wt_X9_holdsBy mo_X9_holdsBy (kX9_holdsBy g (k := (f (27 + k))) (s := (f (32 + k))) (w := (f (6 + k))) (by omega) (by omega) (by omega)) (by decide) rfl rfl (Nat.le_of_ble_eq_true rfl) ?_
  refine z_iret hx hr dX9_holds_21 rfl rfl (q_i (by rfl))

set_option maxHeartbeats 4000000 in
set_option maxRecDepth 20000 in
theorem kX9_underIn (g : Gt) {h : AH} {a : Nat} {f : Int → Int} {k : Int} (hA : h a = some (.inl (0, 267, f))) (hI : inv f) (hk : 0 ≤ k ∧ k < 5) : CnI g mX9_underIn 1 [.ref a, .int (iI k)] h (und f k) := by
  refine Cn.mk (by decide +kernel) (Nat.le_of_ble_eq_true rfl) ?_
  intro x sz hx hr
  show Zj g x (sz, 0, 0) h 0 [(0, .ref a), (1, .int (iI k))] []
  have hn := hI.n
  refine z_iconst hx dX9_underIn_0 ?_
  refine z_istore_n hx dX9_underIn_1 rfl (by decide) [1, 2, 0] (lv' := [(0, .ref a), (1, .int (iI k)), (2, .int (iI 0))]) rfl ?_
  refine z_iconst hx dX9_underIn_2 ?_
  refine z_istore_n hx dX9_underIn_3 rfl (by decide) [1, 2, 3, 0] (lv' := [(0, .ref a), (1, .int (iI k)), (2, .int (iI 0)), (3, .int (iI 0))]) rfl ?_
  have hL_1 : ∀ (mm : Nat) (v2 : Int) (v3 : Int), (0 ≤ v3 ∧ v3 ≤ f 37) → (v2 = msk (fun p => f (17 + p) = 1 + k) v3) → f 37 - v3 < (mm : Int) → Zj g x (sz, 0, 0) h 4 [(0, .ref a), (1, .int (iI k)), (2, .int (iI v2)), (3, .int (iI v3))] [] := by
    intro mm
    induction mm with
    | zero => intro v2 v3 e3 e2 hm; exfalso; omega
    | succ mm ih =>
      intro v2 v3 e3 e2 hm
      have ih_2 := ih; clear ih
      have hm := msk_rg (fun p => f (17 + p) = 1 + k) (n := v3) (by omega)
      have hm2 := msk_64 (fun p => f (17 + p) = 1 + k) (n := v3) (by omega)
      refine z_iload_n hx dX9_underIn_4 rfl 3 rfl ?_
      refine z_aload_n hx dX9_underIn_5 rfl 0 rfl ?_
      refine z_bipush hx dX9_underIn_6 (by decide) ?_
      refine z_iald hx dX9_underIn_8 hA (by decide) (by decide) ?_
      have rg_3 := hI.rg (37) (by decide)
      refine z_icmp_ge (tgt := 40) hx dX9_underIn_9 (by decide) (by omega) (by omega) (fun c_4 => ?_) (fun c_4 => ?_)
      ·
        have e9 : v3 = f 37 := by omega
        rw [e9] at e2
        refine z_iload_n hx dX9_underIn_40 rfl 2 rfl ?_
        refine z_iret hx hr dX9_underIn_41 rfl rfl (q_i (by simpa [und] using e2))
      ·
        have hp := hI.p v3 (by omega)
        have hpw := pw_rg (p := v3) (by omega)
        refine z_iload_n hx dX9_underIn_12 rfl 2 rfl ?_
        refine z_aload_n hx dX9_underIn_13 rfl 0 rfl ?_
        refine z_bipush hx dX9_underIn_14 (by decide) ?_
        refine z_iload_n hx dX9_underIn_16 rfl 3 rfl ?_
        refine z_iadd hx dX9_underIn_17 ?_
        refine z_iald hx dX9_underIn_18 hA (by omega) (by decide) ?_
        have rg_5 := hI.rg ((17 + v3)) (by omega)
        refine z_iconst hx dX9_underIn_19 ?_
        refine z_iload_n hx dX9_underIn_20 rfl 1 rfl ?_
        refine z_iadd hx dX9_underIn_21 ?_
        refine z_icmp_ne (tgt := 31) hx dX9_underIn_22 (by decide) (by omega) (by omega) (fun c_6 => ?_) (fun c_6 => ?_)
        ·
          refine z_iconst hx dX9_underIn_31 ?_
          refine z_ior hx dX9_underIn_32 ?_
          rw [show orI v2 0 = v2 from by exact orI_0 (by omega)]
          refine z_istore_n hx dX9_underIn_33 rfl (by decide) [1, 2, 0, 3] (lv' := [(0, .ref a), (1, .int (iI k)), (2, .int (iI v2)), (3, .int (iI v3))]) rfl ?_
          refine z_iinc hx dX9_underIn_34 (by decide) 3 rfl [1, 2, 3, 0] (lv' := [(0, .ref a), (1, .int (iI k)), (2, .int (iI v2)), (3, .int (iI (v3 + 1)))]) rfl ?_
          refine z_goto (tgt := 4) hx dX9_underIn_37 (by decide) ?_
          exact ih_2 _ _ (by omega) (by rw [msk_s _ (by omega), e2]; simp [*])  (by omega)
        ·
          refine z_iconst hx dX9_underIn_25 ?_
          refine z_iload_n hx dX9_underIn_26 rfl 3 rfl ?_
          refine z_ishl hx dX9_underIn_27 ?_
          rw [show shlI 1 v3 = (pw v3) from by exact shlI_' (by omega)]
          refine z_goto (tgt := 32) hx dX9_underIn_28 (by decide) ?_
          refine z_ior hx dX9_underIn_32 ?_
          rw [show orI v2 (pw v3) = (v2 + (pw v3)) from by exact orI_pw (by omega) (by omega)]
          refine z_istore_n hx dX9_underIn_33 rfl (by decide) [1, 2, 0, 3] (lv' := [(0, .ref a), (1, .int (iI k)), (2, .int (iI (v2 + (pw v3)))), (3, .int (iI v3))]) rfl ?_
          refine z_iinc hx dX9_underIn_34 (by decide) 3 rfl [1, 2, 3, 0] (lv' := [(0, .ref a), (1, .int (iI k)), (2, .int (iI (v2 + (pw v3)))), (3, .int (iI (v3 + 1)))]) rfl ?_
          refine z_goto (tgt := 4) hx dX9_underIn_37 (by decide) ?_
          exact ih_2 _ _ (by omega) (by rw [msk_s _ (by omega), e2]; simp [*])  (by omega)
  exact hL_1 ((f 37 - 0) + 1).toNat _ _ (by omega) (by rfl)  (by omega)

