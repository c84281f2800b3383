/-! the reference's row of numbers: static methods over it -/
set_option maxHeartbeats 4000000 in
set_option maxRecDepth 20000 in
theorem kX9_bits (g : Gt) {v : Int} {h : AH} (hv : 0 ≤ v ∧ v < 256) : CnI g mX9_bits 1 [.int (iI v)] h (popc v) := by
  refine Cn.mk (by decide +kernel) (Nat.le_of_ble_eq_true rfl) ?_
  intro x sz hx hr
  show Zj g x (sz, 0, 0) h 0 [(0, .int (iI v))] []
  refine z_iconst hx dX9_bits_0 ?_
  refine z_istore_n hx dX9_bits_1 rfl (by decide) [1, 0] (lv' := [(0, .int (iI v)), (1, .int (iI 0))]) rfl ?_
  refine z_iconst hx dX9_bits_2 ?_
  refine z_istore_n hx dX9_bits_3 rfl (by decide) [1, 2, 0] (lv' := [(0, .int (iI v)), (1, .int (iI 0)), (2, .int (iI 0))]) rfl ?_
  refine z_iload_n hx dX9_bits_4 rfl 2 rfl ?_
  refine z_bipush hx dX9_bits_5 (by decide) ?_
  refine z_icmp_ge (tgt := 24) hx dX9_bits_7 (by decide) (by decide) (by decide) (fun q => absurd q (by decide)) (fun _ => ?_)
  refine z_iload_n hx dX9_bits_10 rfl 1 rfl ?_
  refine z_iload_n hx dX9_bits_11 rfl 0 rfl ?_
  refine z_iload_n hx dX9_bits_12 rfl 2 rfl ?_
  refine z_ishr hx dX9_bits_13 ?_
  rw [show shrI v 0 = (v / 1) from by rw [shrI_' (by omega) (by decide)]; rfl]
  refine z_iconst hx dX9_bits_14 ?_
  refine z_iand hx dX9_bits_15 ?_
  rw [show andI (v / 1) 1 = ((v / 1) % 2) from by exact andI_1' (by omega)]
  refine z_iadd hx dX9_bits_16 ?_
  refine z_istore_n hx dX9_bits_17 rfl (by decide) [1, 0, 2] (lv' := [(0, .int (iI v)), (1, .int (iI (0 + ((v / 1) % 2)))), (2, .int (iI 0))]) rfl ?_
  refine z_iinc hx dX9_bits_18 (by decide) 2 rfl [1, 2, 0] (lv' := [(0, .int (iI v)), (1, .int (iI (0 + ((v / 1) % 2)))), (2, .int (iI 1))]) rfl ?_
  refine z_goto (tgt := 4) hx dX9_bits_21 (by decide) ?_
  refine z_iload_n hx dX9_bits_4 rfl 2 rfl ?_
  refine z_bipush hx dX9_bits_5 (by decide) ?_
  refine z_icmp_ge (tgt := 24) hx dX9_bits_7 (by decide) (by decide) (by decide) (fun q => absurd q (by decide)) (fun _ => ?_)
  refine z_iload_n hx dX9_bits_10 rfl 1 rfl ?_
  refine z_iload_n hx dX9_bits_11 rfl 0 rfl ?_
  refine z_iload_n hx dX9_bits_12 rfl 2 rfl ?_
  refine z_ishr hx dX9_bits_13 ?_
  rw [show shrI v 1 = (v / 2) from by rw [shrI_' (by omega) (by decide)]; rfl]
  refine z_iconst hx dX9_bits_14 ?_
  refine z_iand hx dX9_bits_15 ?_
  rw [show andI (v / 2) 1 = ((v / 2) % 2) from by exact andI_1' (by omega)]
  refine z_iadd hx dX9_bits_16 ?_
  refine z_istore_n hx dX9_bits_17 rfl (by decide) [1, 0, 2] (lv' := [(0, .int (iI v)), (1, .int (iI ((0 + ((v / 1) % 2)) + ((v / 2) % 2)))), (2, .int (iI 1))]) rfl ?_
  refine z_iinc hx dX9_bits_18 (by decide) 2 rfl [1, 2, 0] (lv' := [(0, .int (iI v)), (1, .int (iI ((0 + ((v / 1) % 2)) + ((v / 2) % 2)))), (2, .int (iI 2))]) rfl ?_
  refine z_goto (tgt := 4) hx dX9_bits_21 (by decide) ?_
  refine z_iload_n hx dX9_bits_4 rfl 2 rfl ?_
  refine z_bipush hx dX9_bits_5 (by decide) ?_
  refine z_icmp_ge (tgt := 24) hx dX9_bits_7 (by decide) (by decide) (by decide) (fun q => absurd q (by decide)) (fun _ => ?_)
  refine z_iload_n hx dX9_bits_10 rfl 1 rfl ?_
  refine z_iload_n hx dX9_bits_11 rfl 0 rfl ?_
  refine z_iload_n hx dX9_bits_12 rfl 2 rfl ?_
  refine z_ishr hx dX9_bits_13 ?_
  rw [show shrI v 2 = (v / 4) from by rw [shrI_' (by omega) (by decide)]; rfl]
  refine z_iconst hx dX9_bits_14 ?_
  refine z_iand hx dX9_bits_15 ?_
  rw [show andI (v / 4) 1 = ((v / 4) % 2) from by exact andI_1' (by omega)]
  refine z_iadd hx dX9_bits_16 ?_
  refine z_istore_n hx dX9_bits_17 rfl (by decide) [1, 0, 2] (lv' := [(0, .int (iI v)), (1, .int (iI (((0 + ((v / 1) % 2)) + ((v / 2) % 2)) + ((v / 4) % 2)))), (2, .int (iI 2))]) rfl ?_
  refine z_iinc hx dX9_bits_18 (by decide) 2 rfl [1, 2, 0] (lv' := [(0, .int (iI v)), (1, .int (iI (((0 + ((v / 1) % 2)) + ((v / 2) % 2)) + ((v / 4) % 2)))), (2, .int (iI 3))]) rfl ?_
  refine z_goto (tgt := 4) hx dX9_bits_21 (by decide) ?_
  refine z_iload_n hx dX9_bits_4 rfl 2 rfl ?_
  refine z_bipush hx dX9_bits_5 (by decide) ?_
  refine z_icmp_ge (tgt := 24) hx dX9_bits_7 (by decide) (by decide) (by decide) (fun q => absurd q (by decide)) (fun _ => ?_)
  refine z_iload_n hx dX9_bits_10 rfl 1 rfl ?_
  refine z_iload_n hx dX9_bits_11 rfl 0 rfl ?_
  refine z_iload_n hx dX9_bits_12 rfl 2 rfl ?_
  refine z_ishr hx dX9_bits_13 ?_
  rw [show shrI v 3 = (v / 8) from by rw [shrI_' (by omega) (by decide)]; rfl]
  refine z_iconst hx dX9_bits_14 ?_
  refine z_iand hx dX9_bits_15 ?_
  rw [show andI (v / 8) 1 = ((v / 8) % 2) from by exact andI_1' (by omega)]
  refine z_iadd hx dX9_bits_16 ?_
  refine z_istore_n hx dX9_bits_17 rfl (by decide) [1, 0, 2] (lv' := [(0, .int (iI v)), (1, .int (iI ((((0 + ((v / 1) % 2)) + ((v / 2) % 2)) + ((v / 4) % 2)) + ((v / 8) % 2)))), (2, .int (iI 3))]) rfl ?_
  refine z_iinc hx dX9_bits_18 (by decide) 2 rfl [1, 2, 0] (lv' := [(0, .int (iI v)), (1, .int (iI ((((0 + ((v / 1) % 2)) + ((v / 2) % 2)) + ((v / 4) % 2)) + ((v / 8) % 2)))), (2, .int (iI 4))]) rfl ?_
  refine z_goto (tgt := 4) hx dX9_bits_21 (by decide) ?_
  refine z_iload_n hx dX9_bits_4 rfl 2 rfl ?_
  refine z_bipush hx dX9_bits_5 (by decide) ?_
  refine z_icmp_ge (tgt := 24) hx dX9_bits_7 (by decide) (by decide) (by decide) (fun q => absurd q (by decide)) (fun _ => ?_)
  refine z_iload_n hx dX9_bits_10 rfl 1 rfl ?_
  refine z_iload_n hx dX9_bits_11 rfl 0 rfl ?_
  refine z_iload_n hx dX9_bits_12 rfl 2 rfl ?_
  refine z_ishr hx dX9_bits_13 ?_
  rw [show shrI v 4 = (v / 16) from by rw [shrI_' (by omega) (by decide)]; rfl]
  refine z_iconst hx dX9_bits_14 ?_
  refine z_iand hx dX9_bits_15 ?_
  rw [show andI (v / 16) 1 = ((v / 16) % 2) from by exact andI_1' (by omega)]
  refine z_iadd hx dX9_bits_16 ?_
  refine z_istore_n hx dX9_bits_17 rfl (by decide) [1, 0, 2] (lv' := [(0, .int (iI v)), (1, .int (iI (((((0 + ((v / 1) % 2)) + ((v / 2) % 2)) + ((v / 4) % 2)) + ((v / 8) % 2)) + ((v / 16) % 2)))), (2, .int (iI 4))]) rfl ?_
  refine z_iinc hx dX9_bits_18 (by decide) 2 rfl [1, 2, 0] (lv' := [(0, .int (iI v)), (1, .int (iI (((((0 + ((v / 1) % 2)) + ((v / 2) % 2)) + ((v / 4) % 2)) + ((v / 8) % 2)) + ((v / 16) % 2)))), (2, .int (iI 5))]) rfl ?_
  refine z_goto (tgt := 4) hx dX9_bits_21 (by decide) ?_
  refine z_iload_n hx dX9_bits_4 rfl 2 rfl ?_
  refine z_bipush hx dX9_bits_5 (by decide) ?_
  refine z_icmp_ge (tgt := 24) hx dX9_bits_7 (by decide) (by decide) (by decide) (fun q => absurd q (by decide)) (fun _ => ?_)
  refine z_iload_n hx dX9_bits_10 rfl 1 rfl ?_
  refine z_iload_n hx dX9_bits_11 rfl 0 rfl ?_
  refine z_iload_n hx dX9_bits_12 rfl 2 rfl ?_
  refine z_ishr hx dX9_bits_13 ?_
  rw [show shrI v 5 = (v / 32) from by rw [shrI_' (by omega) (by decide)]; rfl]
  refine z_iconst hx dX9_bits_14 ?_
  refine z_iand hx dX9_bits_15 ?_
  rw [show andI (v / 32) 1 = ((v / 32) % 2) from by exact andI_1' (by omega)]
  refine z_iadd hx dX9_bits_16 ?_
  refine z_istore_n hx dX9_bits_17 rfl (by decide) [1, 0, 2] (lv' := [(0, .int (iI v)), (1, .int (iI ((((((0 + ((v / 1) % 2)) + ((v / 2) % 2)) + ((v / 4) % 2)) + ((v / 8) % 2)) + ((v / 16) % 2)) + ((v / 32) % 2)))), (2, .int (iI 5))]) rfl ?_
  refine z_iinc hx dX9_bits_18 (by decide) 2 rfl [1, 2, 0] (lv' := [(0, .int (iI v)), (1, .int (iI ((((((0 + ((v / 1) % 2)) + ((v / 2) % 2)) + ((v / 4) % 2)) + ((v / 8) % 2)) + ((v / 16) % 2)) + ((v / 32) % 2)))), (2, .int (iI 6))]) rfl ?_
  refine z_goto (tgt := 4) hx dX9_bits_21 (by decide) ?_
  refine z_iload_n hx dX9_bits_4 rfl 2 rfl ?_
  refine z_bipush hx dX9_bits_5 (by decide) ?_
  refine z_icmp_ge (tgt := 24) hx dX9_bits_7 (by decide) (by decide) (by decide) (fun q => absurd q (by decide)) (fun _ => ?_)
  refine z_iload_n hx dX9_bits_10 rfl 1 rfl ?_
  refine z_iload_n hx dX9_bits_11 rfl 0 rfl ?_
  refine z_iload_n hx dX9_bits_12 rfl 2 rfl ?_
  refine z_ishr hx dX9_bits_13 ?_
  rw [show shrI v 6 = (v / 64) from by rw [shrI_' (by omega) (by decide)]; rfl]
  refine z_iconst hx dX9_bits_14 ?_
  refine z_iand hx dX9_bits_15 ?_
  rw [show andI (v / 64) 1 = ((v / 64) % 2) from by exact andI_1' (by omega)]
  refine z_iadd hx dX9_bits_16 ?_
  refine z_istore_n hx dX9_bits_17 rfl (by decide) [1, 0, 2] (lv' := [(0, .int (iI v)), (1, .int (iI (((((((0 + ((v / 1) % 2)) + ((v / 2) % 2)) + ((v / 4) % 2)) + ((v / 8) % 2)) + ((v / 16) % 2)) + ((v / 32) % 2)) + ((v / 64) % 2)))), (2, .int (iI 6))]) rfl ?_
  refine z_iinc hx dX9_bits_18 (by decide) 2 rfl [1, 2, 0] (lv' := [(0, .int (iI v)), (1, .int (iI (((((((0 + ((v / 1) % 2)) + ((v / 2) % 2)) + ((v / 4) % 2)) + ((v / 8) % 2)) + ((v / 16) % 2)) + ((v / 32) % 2)) + ((v / 64) % 2)))), (2, .int (iI 7))]) rfl ?_
  refine z_goto (tgt := 4) hx dX9_bits_21 (by decide) ?_
  refine z_iload_n hx dX9_bits_4 rfl 2 rfl ?_
  refine z_bipush hx dX9_bits_5 (by decide) ?_
  refine z_icmp_ge (tgt := 24) hx dX9_bits_7 (by decide) (by decide) (by decide) (fun q => absurd q (by decide)) (fun _ => ?_)
  refine z_iload_n hx dX9_bits_10 rfl 1 rfl ?_
  refine z_iload_n hx dX9_bits_11 rfl 0 rfl ?_
  refine z_iload_n hx dX9_bits_12 rfl 2 rfl ?_
  refine z_ishr hx dX9_bits_13 ?_
  rw [show shrI v 7 = (v / 128) from by rw [shrI_' (by omega) (by decide)]; rfl]
  refine z_iconst hx dX9_bits_14 ?_
  refine z_iand hx dX9_bits_15 ?_
  rw [show andI (v / 128) 1 = ((v / 128) % 2) from by exact andI_1' (by omega)]
  refine z_iadd hx dX9_bits_16 ?_
  refine z_istore_n hx dX9_bits_17 rfl (by decide) [1, 0, 2] (lv' := [(0, .int (iI v)), (1, .int (iI ((((((((0 + ((v / 1) % 2)) + ((v / 2) % 2)) + ((v / 4) % 2)) + ((v / 8) % 2)) + ((v / 16) % 2)) + ((v / 32) % 2)) + ((v / 64) % 2)) + ((v / 128) % 2)))), (2, .int (iI 7))]) rfl ?_
  refine z_iinc hx dX9_bits_18 (by decide) 2 rfl [1, 2, 0] (lv' := [(0, .int (iI v)), (1, .int (iI ((((((((0 + ((v / 1) % 2)) + ((v / 2) % 2)) + ((v / 4) % 2)) + ((v / 8) % 2)) + ((v / 16) % 2)) + ((v / 32) % 2)) + ((v / 64) % 2)) + ((v / 128) % 2)))), (2, .int (iI 8))]) rfl ?_
  refine z_goto (tgt := 4) hx dX9_bits_21 (by decide) ?_
  refine z_iload_n hx dX9_bits_4 rfl 2 rfl ?_
  refine z_bipush hx dX9_bits_5 (by decide) ?_
  refine z_icmp_ge (tgt := 24) hx dX9_bits_7 (by decide) (by decide) (by decide) (fun _ => ?_) (fun q => absurd q (by decide))
  refine z_iload_n hx dX9_bits_24 rfl 1 rfl ?_
  refine z_iret hx hr dX9_bits_25 rfl rfl (q_i (by unfold popc; omega))

set_option maxHeartbeats 4000000 in
set_option maxRecDepth 20000 in
theorem kX9_holds (g : Gt) {h : AH} {a : Nat} {f : Int → Int} {k : Int} (hA : h a = some (.inl (0, 267, f))) (hI : inv f) (hk : 0 ≤ k ∧ k < 5) : CnI g mX9_holds 2 [.ref a, .int (iI k)] h (hlf f k) := by
  refine Cn.mk (by decide +kernel) (Nat.le_of_ble_eq_true rfl) ?_
  intro x sz hx hr
  show Zj g x (sz, 0, 0) h 0 [(0, .ref a), (1, .int (iI k))] []
  have hn := hI.n
  have hk1 := hI.k k hk
  refine z_aload_n hx dX9_holds_0 rfl 0 rfl ?_
  refine z_bipush hx dX9_holds_1 (by decide) ?_
  refine z_iload_n hx dX9_holds_3 rfl 1 rfl ?_
  refine z_iadd hx dX9_holds_4 ?_
  refine z_iald hx dX9_holds_5 hA (by omega) (by decide) ?_
  have rg_1 := hI.rg ((27 + k)) (by omega)
  refine z_aload_n hx dX9_holds_6 rfl 0 rfl ?_
  refine z_bipush hx dX9_holds_7 (by decide) ?_
  refine z_iload_n hx dX9_holds_9 rfl 1 rfl ?_
  refine z_iadd hx dX9_holds_10 ?_
  refine z_iald hx dX9_holds_11 hA (by omega) (by decide) ?_
  have rg_2 := hI.rg ((32 + k)) (by omega)
  refine z_aload_n hx dX9_holds_12 rfl 0 rfl ?_
  refine z_bipush hx dX9_holds_13 (by decide) ?_
  refine z_iload_n hx dX9_holds_15 rfl 1 rfl ?_
  refine z_iadd hx dX9_holds_16 ?_
  refine z_iald hx dX9_holds_17 hA (by omega) (by decide) ?_
  have rg_3 := hI.rg ((6 + k)) (by omega)
  refine z_cSI (as := [.int (iI (f (27 + k))), .int (iI (f (32 + k))), .int (iI (f (6 + k)))]) (rest := []) hx dX9_holds_18 lk_X9_142 wt_X9_holdsBy mo_X9_holdsBy (kX9_holdsBy g (k := (f (27 + k))) (s := (f (32 + k))) (w := (f (6 + k))) (by omega) (by omega) (by omega)) (by decide) rfl rfl (Nat.le_of_ble_eq_true rfl) ?_
  refine z_iret hx hr dX9_holds_21 rfl rfl (q_i (by rfl))

set_option maxHeartbeats 4000000 in
set_option maxRecDepth 20000 in
theorem kX9_underIn (g : Gt) {h : AH} {a : Nat} {f : Int → Int} {k : Int} (hA : h a = some (.inl (0, 267, f))) (hI : inv f) (hk : 0 ≤ k ∧ k < 5) : CnI g mX9_underIn 1 [.ref a, .int (iI k)] h (und f k) := by
  refine Cn.mk (by decide +kernel) (Nat.le_of_ble_eq_true rfl) ?_
  intro x sz hx hr
  show Zj g x (sz, 0, 0) h 0 [(0, .ref a), (1, .int (iI k))] []
  have hn := hI.n
  refine z_iconst hx dX9_underIn_0 ?_
  refine z_istore_n hx dX9_underIn_1 rfl (by decide) [1, 2, 0] (lv' := [(0, .ref a), (1, .int (iI k)), (2, .int (iI 0))]) rfl ?_
  refine z_iconst hx dX9_underIn_2 ?_
  refine z_istore_n hx dX9_underIn_3 rfl (by decide) [1, 2, 3, 0] (lv' := [(0, .ref a), (1, .int (iI k)), (2, .int (iI 0)), (3, .int (iI 0))]) rfl ?_
  have hL_1 : ∀ (mm : Nat) (v2 : Int) (v3 : Int), (0 ≤ v3 ∧ v3 ≤ f 37) → (v2 = msk (fun p => f (17 + p) = 1 + k) v3) → f 37 - v3 < (mm : Int) → Zj g x (sz, 0, 0) h 4 [(0, .ref a), (1, .int (iI k)), (2, .int (iI v2)), (3, .int (iI v3))] [] := by
    intro mm
    induction mm with
    | zero => intro v2 v3 e3 e2 hm; exfalso; omega
    | succ mm ih =>
      intro v2 v3 e3 e2 hm
      have ih_2 := ih; clear ih
      have hm := msk_rg (fun p => f (17 + p) = 1 + k) (n := v3) (by omega)
      have hm2 := msk_64 (fun p => f (17 + p) = 1 + k) (n := v3) (by omega)
      refine z_iload_n hx dX9_underIn_4 rfl 3 rfl ?_
      refine z_aload_n hx dX9_underIn_5 rfl 0 rfl ?_
      refine z_bipush hx dX9_underIn_6 (by decide) ?_
      refine z_iald hx dX9_underIn_8 hA (by decide) (by decide) ?_
      have rg_3 := hI.rg (37) (by decide)
      refine z_icmp_ge (tgt := 40) hx dX9_underIn_9 (by decide) (by omega) (by omega) (fun c_4 => ?_) (fun c_4 => ?_)
      ·
        have e9 : v3 = f 37 := by omega
        rw [e9] at e2
        refine z_iload_n hx dX9_underIn_40 rfl 2 rfl ?_
        refine z_iret hx hr dX9_underIn_41 rfl rfl (q_i (by simpa [und] using e2))
      ·
        have hp := hI.p v3 (by omega)
        have hpw := pw_rg (p := v3) (by omega)
        refine z_iload_n hx dX9_underIn_12 rfl 2 rfl ?_
        refine z_aload_n hx dX9_underIn_13 rfl 0 rfl ?_
        refine z_bipush hx dX9_underIn_14 (by decide) ?_
        refine z_iload_n hx dX9_underIn_16 rfl 3 rfl ?_
        refine z_iadd hx dX9_underIn_17 ?_
        refine z_iald hx dX9_underIn_18 hA (by omega) (by decide) ?_
        have rg_5 := hI.rg ((17 + v3)) (by omega)
        refine z_iconst hx dX9_underIn_19 ?_
        refine z_iload_n hx dX9_underIn_20 rfl 1 rfl ?_
        refine z_iadd hx dX9_underIn_21 ?_
        refine z_icmp_ne (tgt := 31) hx dX9_underIn_22 (by decide) (by omega) (by omega) (fun c_6 => ?_) (fun c_6 => ?_)
        ·
          refine z_iconst hx dX9_underIn_31 ?_
          refine z_ior hx dX9_underIn_32 ?_
          rw [show orI v2 0 = v2 from by exact orI_0 (by omega)]
          refine z_istore_n hx dX9_underIn_33 rfl (by decide) [1, 2, 0, 3] (lv' := [(0, .ref a), (1, .int (iI k)), (2, .int (iI v2)), (3, .int (iI v3))]) rfl ?_
          refine z_iinc hx dX9_underIn_34 (by decide) 3 rfl [1, 2, 3, 0] (lv' := [(0, .ref a), (1, .int (iI k)), (2, .int (iI v2)), (3, .int (iI (v3 + 1)))]) rfl ?_
          refine z_goto (tgt := 4) hx dX9_underIn_37 (by decide) ?_
          exact ih_2 _ _ (by omega) (by rw [msk_s _ (by omega), e2]; simp [*])  (by omega)
        ·
          refine z_iconst hx dX9_underIn_25 ?_
          refine z_iload_n hx dX9_underIn_26 rfl 3 rfl ?_
          refine z_ishl hx dX9_underIn_27 ?_
          rw [show shlI 1 v3 = (pw v3) from by exact shlI_' (by omega)]
          refine z_goto (tgt := 32) hx dX9_underIn_28 (by decide) ?_
          refine z_ior hx dX9_underIn_32 ?_
          rw [show orI v2 (pw v3) = (v2 + (pw v3)) from by exact orI_pw (by omega) (by omega)]
          refine z_istore_n hx dX9_underIn_33 rfl (by decide) [1, 2, 0, 3] (lv' := [(0, .ref a), (1, .int (iI k)), (2, .int (iI (v2 + (pw v3)))), (3, .int (iI v3))]) rfl ?_
          refine z_iinc hx dX9_underIn_34 (by decide) 3 rfl [1, 2, 3, 0] (lv' := [(0, .ref a), (1, .int (iI k)), (2, .int (iI (v2 + (pw v3)))), (3, .int (iI (v3 + 1)))]) rfl ?_
          refine z_goto (tgt := 4) hx dX9_underIn_37 (by decide) ?_
          exact ih_2 _ _ (by omega) (by rw [msk_s _ (by omega), e2]; simp [*])  (by omega)
  exact hL_1 ((f 37 - 0) + 1).toNat _ _ (by omega) (by rfl)  (by omega)

set_option maxHeartbeats 4000000 in
set_option maxRecDepth 20000 in
theorem kX9_goal (g : Gt) {h : AH} {a : Nat} {f : Int → Int} {p : Int} (hA : h a = some (.inl (0, 267, f))) (hI : inv f) (hp : 0 ≤ p ∧ p < f 37) : CnI g mX9_goal 3 [.ref a, .int (iI p)] h (goal f p) := by
  refine Cn.mk (by decide +kernel) (Nat.le_of_ble_eq_true rfl) ?_
  intro x sz hx hr
  show Zj g x (sz, 0, 0) h 0 [(0, .ref a), (1, .int (iI p))] []
  have hn := hI.n
  have hp1 := hI.p p (by omega)
  refine z_iconst hx dX9_goal_0 ?_
  refine z_istore_n hx dX9_goal_1 rfl (by decide) [1, 2, 0] (lv' := [(0, .ref a), (1, .int (iI p)), (2, .int (iI (-1)))]) rfl ?_
  refine z_iconst hx dX9_goal_2 ?_
  refine z_istore_n hx dX9_goal_3 rfl (by decide) [1, 2, 3, 0] (lv' := [(0, .ref a), (1, .int (iI p)), (2, .int (iI (-1))), (3, .int (iI 0))]) rfl ?_
  have hL_1 : ∀ (mm : Nat) (v2 : Int) (v3 : Int), (0 ≤ v3 ∧ v3 ≤ f 26) → (v2 = itI v3 (golG f p) (-1)) → f 26 - v3 < (mm : Int) → Zj g x (sz, 0, 0) h 4 [(0, .ref a), (1, .int (iI p)), (2, .int (iI v2)), (3, .int (iI v3))] [] := by
    intro mm
    induction mm with
    | zero => intro v2 v3 e3 e2 hm; exfalso; omega
    | succ mm ih =>
      intro v2 v3 e3 e2 hm
      have ih_2 := ih; clear ih
      have hg := gol_rg (f := f) (p := p) (n := v3) (by omega)
      rw [← e2] at hg
      refine z_iload_n hx dX9_goal_4 rfl 3 rfl ?_
      refine z_aload_n hx dX9_goal_5 rfl 0 rfl ?_
      refine z_bipush hx dX9_goal_6 (by decide) ?_
      refine z_iald hx dX9_goal_8 hA (by decide) (by decide) ?_
      have rg_3 := hI.rg (26) (by decide)
      refine z_icmp_ge (tgt := 100) hx dX9_goal_9 (by decide) (by omega) (by omega) (fun c_4 => ?_) (fun c_4 => ?_)
      ·
        have e9 : v3 = f 26 := by omega
        refine z_iload_n hx dX9_goal_100 rfl 2 rfl ?_
        refine z_iret hx hr dX9_goal_101 rfl rfl (q_i (by subst_vars; rfl))
      ·
        have hk3 := hI.k v3 (by omega)
        refine z_aload_n hx dX9_goal_12 rfl 0 rfl ?_
        refine z_iload_n hx dX9_goal_13 rfl 3 rfl ?_
        refine z_cSI (as := [.ref a, .int (iI v3)]) (rest := []) hx dX9_goal_14 lk_X9_149 wt_X9_holds mo_X9_holds (kX9_holds g (k := v3) hA hI (by omega)) (by decide) rfl rfl (Nat.le_of_ble_eq_true rfl) ?_
        have f_5 := hlf_rg hI (k := v3) (by omega)
        refine z_aload_n hx dX9_goal_17 rfl 0 rfl ?_
        refine z_iload_n hx dX9_goal_18 rfl 3 rfl ?_
        refine z_cSI (as := [.ref a, .int (iI v3)]) (rest := [.int (iI (hlf f v3))]) hx dX9_goal_19 lk_X9_152 wt_X9_underIn mo_X9_underIn (kX9_underIn g (k := v3) hA hI (by omega)) (by decide) rfl rfl (Nat.le_of_ble_eq_true rfl) ?_
        have f_6 := und_rg hI v3
        refine z_cSI (as := [.int (iI (und f v3))]) (rest := [.int (iI (hlf f v3))]) hx dX9_goal_22 lk_X9_155 wt_X9_bits mo_X9_bits (kX9_bits g (v := (und f v3)) (by omega)) (by decide) rfl rfl (Nat.le_of_ble_eq_true rfl) ?_
        have f_7 := popc_rg (v := (und f v3))
        refine z_icmp_le (tgt := 32) hx dX9_goal_25 (by decide) (by omega) (by omega) (fun c_8 => ?_) (fun c_8 => ?_)
        ·
          refine z_iconst hx dX9_goal_32 ?_
          refine z_istore hx dX9_goal_33 (by decide) [1, 2, 3, 4, 0] (lv' := [(0, .ref a), (1, .int (iI p)), (2, .int (iI v2)), (3, .int (iI v3)), (4, .int (iI 0))]) rfl ?_
          refine z_iload_n hx dX9_goal_35 rfl 2 rfl ?_
          refine z_iconst hx dX9_goal_36 ?_
          refine z_icmp_eq (tgt := 71) hx dX9_goal_37 (by decide) (by omega) (by decide) (fun c_9 => ?_) (fun c_9 => ?_)
          ·
            refine z_iconst hx dX9_goal_71 ?_
            refine z_goto (tgt := 76) hx dX9_goal_72 (by decide) ?_
            refine z_istore hx dX9_goal_76 (by decide) [1, 2, 3, 4, 5, 0] (lv' := [(0, .ref a), (1, .int (iI p)), (2, .int (iI v2)), (3, .int (iI v3)), (4, .int (iI 0)), (5, .int (iI 1))]) rfl ?_
            refine z_iload hx dX9_goal_78 4 rfl ?_
            refine z_if_eq (tgt := 92) hx dX9_goal_80 (by decide) (by decide) (fun _ => ?_) (fun q => absurd q (by decide))
            refine z_iload_n hx dX9_goal_92 rfl 2 rfl ?_
            refine z_istore_n hx dX9_goal_93 rfl (by decide) [1, 2, 0, 3, 4, 5] (lv' := [(0, .ref a), (1, .int (iI p)), (2, .int (iI v2)), (3, .int (iI v3)), (4, .int (iI 0)), (5, .int (iI 1))]) rfl ?_
            refine z_iinc hx dX9_goal_94 (by decide) 3 rfl [1, 2, 3, 0, 4, 5] (lv' := [(0, .ref a), (1, .int (iI p)), (2, .int (iI v2)), (3, .int (iI (v3 + 1))), (4, .int (iI 0)), (5, .int (iI 1))]) rfl ?_
            refine z_goto (tgt := 4) hx dX9_goal_97 (by decide) ?_
            refine z_sub [0, 1, 2, 3] (lv' := [(0, .ref a), (1, .int (iI p)), (2, .int (iI v2)), (3, .int (iI (v3 + 1)))]) rfl ?_
            exact ih_2 _ _ (by omega) (by rw [itI_s _ _ (by omega), ← e2]; unfold golG; (first | rw [if_pos (by refine ⟨by omega, ?_⟩; first | (left; omega) | (right; omega))] | rw [if_neg (by intro w; omega)]))  (by omega)
          ·
            refine z_aload_n hx dX9_goal_40 rfl 0 rfl ?_
            refine z_iconst hx dX9_goal_41 ?_
            refine z_iload_n hx dX9_goal_42 rfl 3 rfl ?_
            refine z_iadd hx dX9_goal_43 ?_
            refine z_iald hx dX9_goal_44 hA (by omega) (by decide) ?_
            have rg_11 := hI.rg ((1 + v3)) (by omega)
            refine z_aload_n hx dX9_goal_45 rfl 0 rfl ?_
            refine z_bipush hx dX9_goal_46 (by decide) ?_
            refine z_iload_n hx dX9_goal_48 rfl 1 rfl ?_
            refine z_iadd hx dX9_goal_49 ?_
            refine z_iald hx dX9_goal_50 hA (by omega) (by decide) ?_
            have rg_12 := hI.rg ((11 + p)) (by omega)
            have fr1 := far_rg hk3.1 hp1.1
            refine z_cSI (as := [.int (iI (f (1 + v3))), .int (iI (f (11 + p)))]) (rest := []) hx dX9_goal_51 lk_X9_158 wt_X9_far mo_X9_far (kX9_far g (a := (f (1 + v3))) (b := (f (11 + p))) (by omega) (by omega)) (by decide) rfl rfl (Nat.le_of_ble_eq_true rfl) ?_
            have hk2 := hI.k v2 (by omega)
            refine z_aload_n hx dX9_goal_54 rfl 0 rfl ?_
            refine z_iconst hx dX9_goal_55 ?_
            refine z_iload_n hx dX9_goal_56 rfl 2 rfl ?_
            refine z_iadd hx dX9_goal_57 ?_
            refine z_iald hx dX9_goal_58 hA (by omega) (by decide) ?_
            have rg_13 := hI.rg ((1 + v2)) (by omega)
            refine z_aload_n hx dX9_goal_59 rfl 0 rfl ?_
            refine z_bipush hx dX9_goal_60 (by decide) ?_
            refine z_iload_n hx dX9_goal_62 rfl 1 rfl ?_
            refine z_iadd hx dX9_goal_63 ?_
            refine z_iald hx dX9_goal_64 hA (by omega) (by decide) ?_
            have rg_14 := hI.rg ((11 + p)) (by omega)
            have hk2 := hI.k v2 (by omega)
            have fr2 := far_rg hk2.1 hp1.1
            refine z_cSI (as := [.int (iI (f (1 + v2))), .int (iI (f (11 + p)))]) (rest := [.int (iI (far (f (1 + v3)) (f (11 + p))))]) hx dX9_goal_65 lk_X9_158 wt_X9_far mo_X9_far (kX9_far g (a := (f (1 + v2))) (b := (f (11 + p))) (by omega) (by omega)) (by decide) rfl rfl (Nat.le_of_ble_eq_true rfl) ?_
            refine z_icmp_ge (tgt := 75) hx dX9_goal_68 (by decide) (by omega) (by omega) (fun c_15 => ?_) (fun c_15 => ?_)
            ·
              refine z_iconst hx dX9_goal_75 ?_
              refine z_istore hx dX9_goal_76 (by decide) [1, 2, 3, 4, 5, 0] (lv' := [(0, .ref a), (1, .int (iI p)), (2, .int (iI v2)), (3, .int (iI v3)), (4, .int (iI 0)), (5, .int (iI 0))]) rfl ?_
              refine z_iload hx dX9_goal_78 4 rfl ?_
              refine z_if_eq (tgt := 92) hx dX9_goal_80 (by decide) (by decide) (fun _ => ?_) (fun q => absurd q (by decide))
              refine z_iload_n hx dX9_goal_92 rfl 2 rfl ?_
              refine z_istore_n hx dX9_goal_93 rfl (by decide) [1, 2, 0, 3, 4, 5] (lv' := [(0, .ref a), (1, .int (iI p)), (2, .int (iI v2)), (3, .int (iI v3)), (4, .int (iI 0)), (5, .int (iI 0))]) rfl ?_
              refine z_iinc hx dX9_goal_94 (by decide) 3 rfl [1, 2, 3, 0, 4, 5] (lv' := [(0, .ref a), (1, .int (iI p)), (2, .int (iI v2)), (3, .int (iI (v3 + 1))), (4, .int (iI 0)), (5, .int (iI 0))]) rfl ?_
              refine z_goto (tgt := 4) hx dX9_goal_97 (by decide) ?_
              refine z_sub [0, 1, 2, 3] (lv' := [(0, .ref a), (1, .int (iI p)), (2, .int (iI v2)), (3, .int (iI (v3 + 1)))]) rfl ?_
              exact ih_2 _ _ (by omega) (by rw [itI_s _ _ (by omega), ← e2]; unfold golG; (first | rw [if_pos (by refine ⟨by omega, ?_⟩; first | (left; omega) | (right; omega))] | rw [if_neg (by intro w; omega)]))  (by omega)
            ·
              refine z_iconst hx dX9_goal_71 ?_
              refine z_goto (tgt := 76) hx dX9_goal_72 (by decide) ?_
              refine z_istore hx dX9_goal_76 (by decide) [1, 2, 3, 4, 5, 0] (lv' := [(0, .ref a), (1, .int (iI p)), (2, .int (iI v2)), (3, .int (iI v3)), (4, .int (iI 0)), (5, .int (iI 1))]) rfl ?_
              refine z_iload hx dX9_goal_78 4 rfl ?_
              refine z_if_eq (tgt := 92) hx dX9_goal_80 (by decide) (by decide) (fun _ => ?_) (fun q => absurd q (by decide))
              refine z_iload_n hx dX9_goal_92 rfl 2 rfl ?_
              refine z_istore_n hx dX9_goal_93 rfl (by decide) [1, 2, 0, 3, 4, 5] (lv' := [(0, .ref a), (1, .int (iI p)), (2, .int (iI v2)), (3, .int (iI v3)), (4, .int (iI 0)), (5, .int (iI 1))]) rfl ?_
              refine z_iinc hx dX9_goal_94 (by decide) 3 rfl [1, 2, 3, 0, 4, 5] (lv' := [(0, .ref a), (1, .int (iI p)), (2, .int (iI v2)), (3, .int (iI (v3 + 1))), (4, .int (iI 0)), (5, .int (iI 1))]) rfl ?_
              refine z_goto (tgt := 4) hx dX9_goal_97 (by decide) ?_
              refine z_sub [0, 1, 2, 3] (lv' := [(0, .ref a), (1, .int (iI p)), (2, .int (iI v2)), (3, .int (iI (v3 + 1)))]) rfl ?_
              exact ih_2 _ _ (by omega) (by rw [itI_s _ _ (by omega), ← e2]; unfold golG; (first | rw [if_pos (by refine ⟨by omega, ?_⟩; first | (left; omega) | (right; omega))] | rw [if_neg (by intro w; omega)]))  (by omega)
        ·
          refine z_iconst hx dX9_goal_28 ?_
          refine z_goto (tgt := 33) hx dX9_goal_29 (by decide) ?_
          refine z_istore hx dX9_goal_33 (by decide) [1, 2, 3, 4, 0] (lv' := [(0, .ref a), (1, .int (iI p)), (2, .int (iI v2)), (3, .int (iI v3)), (4, .int (iI 1))]) rfl ?_
          refine z_iload_n hx dX9_goal_35 rfl 2 rfl ?_
          refine z_iconst hx dX9_goal_36 ?_
          refine z_icmp_eq (tgt := 71) hx dX9_goal_37 (by decide) (by omega) (by decide) (fun c_18 => ?_) (fun c_18 => ?_)
          ·
            refine z_iconst hx dX9_goal_71 ?_
            refine z_goto (tgt := 76) hx dX9_goal_72 (by decide) ?_
            refine z_istore hx dX9_goal_76 (by decide) [1, 2, 3, 4, 5, 0] (lv' := [(0, .ref a), (1, .int (iI p)), (2, .int (iI v2)), (3, .int (iI v3)), (4, .int (iI 1)), (5, .int (iI 1))]) rfl ?_
            refine z_iload hx dX9_goal_78 4 rfl ?_
            refine z_if_eq (tgt := 92) hx dX9_goal_80 (by decide) (by decide) (fun q => absurd q (by decide)) (fun _ => ?_)
            refine z_iload hx dX9_goal_83 5 rfl ?_
            refine z_if_eq (tgt := 92) hx dX9_goal_85 (by decide) (by decide) (fun q => absurd q (by decide)) (fun _ => ?_)
            refine z_iload_n hx dX9_goal_88 rfl 3 rfl ?_
            refine z_goto (tgt := 93) hx dX9_goal_89 (by decide) ?_
            refine z_istore_n hx dX9_goal_93 rfl (by decide) [1, 2, 0, 3, 4, 5] (lv' := [(0, .ref a), (1, .int (iI p)), (2, .int (iI v3)), (3, .int (iI v3)), (4, .int (iI 1)), (5, .int (iI 1))]) rfl ?_
            refine z_iinc hx dX9_goal_94 (by decide) 3 rfl [1, 2, 3, 0, 4, 5] (lv' := [(0, .ref a), (1, .int (iI p)), (2, .int (iI v3)), (3, .int (iI (v3 + 1))), (4, .int (iI 1)), (5, .int (iI 1))]) rfl ?_
            refine z_goto (tgt := 4) hx dX9_goal_97 (by decide) ?_
            refine z_sub [0, 1, 2, 3] (lv' := [(0, .ref a), (1, .int (iI p)), (2, .int (iI v3)), (3, .int (iI (v3 + 1)))]) rfl ?_
            exact ih_2 _ _ (by omega) (by rw [itI_s _ _ (by omega), ← e2]; unfold golG; (first | rw [if_pos (by refine ⟨by omega, ?_⟩; first | (left; omega) | (right; omega))] | rw [if_neg (by intro w; omega)]))  (by omega)
          ·
            refine z_aload_n hx dX9_goal_40 rfl 0 rfl ?_
            refine z_iconst hx dX9_goal_41 ?_
            refine z_iload_n hx dX9_goal_42 rfl 3 rfl ?_
            refine z_iadd hx dX9_goal_43 ?_
            refine z_iald hx dX9_goal_44 hA (by omega) (by decide) ?_
            have rg_21 := hI.rg ((1 + v3)) (by omega)
            refine z_aload_n hx dX9_goal_45 rfl 0 rfl ?_
            refine z_bipush hx dX9_goal_46 (by decide) ?_
            refine z_iload_n hx dX9_goal_48 rfl 1 rfl ?_
            refine z_iadd hx dX9_goal_49 ?_
            refine z_iald hx dX9_goal_50 hA (by omega) (by decide) ?_
            have rg_22 := hI.rg ((11 + p)) (by omega)
            have fr1 := far_rg hk3.1 hp1.1
            refine z_cSI (as := [.int (iI (f (1 + v3))), .int (iI (f (11 + p)))]) (rest := []) hx dX9_goal_51 lk_X9_158 wt_X9_far mo_X9_far (kX9_far g (a := (f (1 + v3))) (b := (f (11 + p))) (by omega) (by omega)) (by decide) rfl rfl (Nat.le_of_ble_eq_true rfl) ?_
            have hk2 := hI.k v2 (by omega)
            refine z_aload_n hx dX9_goal_54 rfl 0 rfl ?_
            refine z_iconst hx dX9_goal_55 ?_
            refine z_iload_n hx dX9_goal_56 rfl 2 rfl ?_
            refine z_iadd hx dX9_goal_57 ?_
            refine z_iald hx dX9_goal_58 hA (by omega) (by decide) ?_
            have rg_23 := hI.rg ((1 + v2)) (by omega)
            refine z_aload_n hx dX9_goal_59 rfl 0 rfl ?_
            refine z_bipush hx dX9_goal_60 (by decide) ?_
            refine z_iload_n hx dX9_goal_62 rfl 1 rfl ?_
            refine z_iadd hx dX9_goal_63 ?_
            refine z_iald hx dX9_goal_64 hA (by omega) (by decide) ?_
            have rg_24 := hI.rg ((11 + p)) (by omega)
            have hk2 := hI.k v2 (by omega)
            have fr2 := far_rg hk2.1 hp1.1
            refine z_cSI (as := [.int (iI (f (1 + v2))), .int (iI (f (11 + p)))]) (rest := [.int (iI (far (f (1 + v3)) (f (11 + p))))]) hx dX9_goal_65 lk_X9_158 wt_X9_far mo_X9_far (kX9_far g (a := (f (1 + v2))) (b := (f (11 + p))) (by omega) (by omega)) (by decide) rfl rfl (Nat.le_of_ble_eq_true rfl) ?_
            refine z_icmp_ge (tgt := 75) hx dX9_goal_68 (by decide) (by omega) (by omega) (fun c_25 => ?_) (fun c_25 => ?_)
            ·
              refine z_iconst hx dX9_goal_75 ?_
              refine z_istore hx dX9_goal_76 (by decide) [1, 2, 3, 4, 5, 0] (lv' := [(0, .ref a), (1, .int (iI p)), (2, .int (iI v2)), (3, .int (iI v3)), (4, .int (iI 1)), (5, .int (iI 0))]) rfl ?_
              refine z_iload hx dX9_goal_78 4 rfl ?_
              refine z_if_eq (tgt := 92) hx dX9_goal_80 (by decide) (by decide) (fun q => absurd q (by decide)) (fun _ => ?_)
              refine z_iload hx dX9_goal_83 5 rfl ?_
              refine z_if_eq (tgt := 92) hx dX9_goal_85 (by decide) (by decide) (fun _ => ?_) (fun q => absurd q (by decide))
              refine z_iload_n hx dX9_goal_92 rfl 2 rfl ?_
              refine z_istore_n hx dX9_goal_93 rfl (by decide) [1, 2, 0, 3, 4, 5] (lv' := [(0, .ref a), (1, .int (iI p)), (2, .int (iI v2)), (3, .int (iI v3)), (4, .int (iI 1)), (5, .int (iI 0))]) rfl ?_
              refine z_iinc hx dX9_goal_94 (by decide) 3 rfl [1, 2, 3, 0, 4, 5] (lv' := [(0, .ref a), (1, .int (iI p)), (2, .int (iI v2)), (3, .int (iI (v3 + 1))), (4, .int (iI 1)), (5, .int (iI 0))]) rfl ?_
              refine z_goto (tgt := 4) hx dX9_goal_97 (by decide) ?_
              refine z_sub [0, 1, 2, 3] (lv' := [(0, .ref a), (1, .int (iI p)), (2, .int (iI v2)), (3, .int (iI (v3 + 1)))]) rfl ?_
              exact ih_2 _ _ (by omega) (by rw [itI_s _ _ (by omega), ← e2]; unfold golG; (first | rw [if_pos (by refine ⟨by omega, ?_⟩; first | (left; omega) | (right; omega))] | rw [if_neg (by intro w; omega)]))  (by omega)
            ·
              refine z_iconst hx dX9_goal_71 ?_
              refine z_goto (tgt := 76) hx dX9_goal_72 (by decide) ?_
              refine z_istore hx dX9_goal_76 (by decide) [1, 2, 3, 4, 5, 0] (lv' := [(0, .ref a), (1, .int (iI p)), (2, .int (iI v2)), (3, .int (iI v3)), (4, .int (iI 1)), (5, .int (iI 1))]) rfl ?_
              refine z_iload hx dX9_goal_78 4 rfl ?_
              refine z_if_eq (tgt := 92) hx dX9_goal_80 (by decide) (by decide) (fun q => absurd q (by decide)) (fun _ => ?_)
              refine z_iload hx dX9_goal_83 5 rfl ?_
              refine z_if_eq (tgt := 92) hx dX9_goal_85 (by decide) (by decide) (fun q => absurd q (by decide)) (fun _ => ?_)
              refine z_iload_n hx dX9_goal_88 rfl 3 rfl ?_
              refine z_goto (tgt := 93) hx dX9_goal_89 (by decide) ?_
              refine z_istore_n hx dX9_goal_93 rfl (by decide) [1, 2, 0, 3, 4, 5] (lv' := [(0, .ref a), (1, .int (iI p)), (2, .int (iI v3)), (3, .int (iI v3)), (4, .int (iI 1)), (5, .int (iI 1))]) rfl ?_
              refine z_iinc hx dX9_goal_94 (by decide) 3 rfl [1, 2, 3, 0, 4, 5] (lv' := [(0, .ref a), (1, .int (iI p)), (2, .int (iI v3)), (3, .int (iI (v3 + 1))), (4, .int (iI 1)), (5, .int (iI 1))]) rfl ?_
              refine z_goto (tgt := 4) hx dX9_goal_97 (by decide) ?_
              refine z_sub [0, 1, 2, 3] (lv' := [(0, .ref a), (1, .int (iI p)), (2, .int (iI v3)), (3, .int (iI (v3 + 1)))]) rfl ?_
              exact ih_2 _ _ (by omega) (by rw [itI_s _ _ (by omega), ← e2]; unfold golG; (first | rw [if_pos (by refine ⟨by omega, ?_⟩; first | (left; omega) | (right; omega))] | rw [if_neg (by intro w; omega)]))  (by omega)
  exact hL_1 ((f 26 - 0) + 1).toNat _ _ (by omega) (by rfl)  (by omega)

set_option maxHeartbeats 4000000 in
set_option maxRecDepth 20000 in
theorem kX9_goes (g : Gt) {h : AH} {a : Nat} {f : Int → Int} {p : Int} (hA : h a = some (.inl (0, 267, f))) (hI : inv f) (hp : 0 ≤ p ∧ p < f 37) (h0 : f (17 + p) = 0) : CnV g mX9_goes 4 [.ref a, .int (iI p)] h (QA h a 267 (goes f p)) := by
  refine Cn.mk (by decide +kernel) (Nat.le_of_ble_eq_true rfl) ?_
  intro x sz hx hr
  show Zj g x (sz, 0, 0) h 0 [(0, .ref a), (1, .int (iI p))] []
  have hn := hI.n
  have hp1 := hI.p p (by omega)
  refine z_aload_n hx dX9_goes_0 rfl 0 rfl ?_
  refine z_iload_n hx dX9_goes_1 rfl 1 rfl ?_
  refine z_cSI (as := [.ref a, .int (iI p)]) (rest := []) hx dX9_goes_2 lk_X9_162 wt_X9_goal mo_X9_goal (kX9_goal g (p := p) hA hI (by omega)) (by decide) rfl rfl (Nat.le_of_ble_eq_true rfl) ?_
  have f_1 := gol_rg (f := f) (p := p) (n := f 26) (by have := hI.n; omega)
  have f_2 : goal f p = itI (f 26) (golG f p) (-1) := rfl
  refine z_istore_n hx dX9_goes_5 rfl (by decide) [1, 2, 0] (lv' := [(0, .ref a), (1, .int (iI p)), (2, .int (iI (goal f p)))]) rfl ?_
  refine z_iload_n hx dX9_goes_6 rfl 2 rfl ?_
  refine z_iconst hx dX9_goes_7 ?_
  refine z_icmp_eq (tgt := 57) hx dX9_goes_8 (by decide) (by omega) (by decide) (fun c_3 => ?_) (fun c_3 => ?_)
  ·
    refine z_vret hx hr dX9_goes_57 rfl (q_v ⟨ar_e (by unfold goes; (first | rw [if_pos (by omega)] | (rw [if_neg (by omega)]; first | rw [if_pos (by omega)] | rw [if_neg (by omega)]))) hA, Fr.rf⟩)
  ·
    have hk2 := hI.k (goal f p) (by omega)
    refine z_aload_n hx dX9_goes_11 rfl 0 rfl ?_
    refine z_iconst hx dX9_goes_12 ?_
    refine z_iload_n hx dX9_goes_13 rfl 2 rfl ?_
    refine z_iadd hx dX9_goes_14 ?_
    refine z_iald hx dX9_goes_15 hA (by omega) (by decide) ?_
    have rg_4 := hI.rg ((1 + (goal f p))) (by omega)
    refine z_aload_n hx dX9_goes_16 rfl 0 rfl ?_
    refine z_bipush hx dX9_goes_17 (by decide) ?_
    refine z_iload_n hx dX9_goes_19 rfl 1 rfl ?_
    refine z_iadd hx dX9_goes_20 ?_
    refine z_iald hx dX9_goes_21 hA (by omega) (by decide) ?_
    have rg_5 := hI.rg ((11 + p)) (by omega)
    refine z_icmp_ne (tgt := 37) hx dX9_goes_22 (by decide) (by omega) (by omega) (fun c_6 => ?_) (fun c_6 => ?_)
    ·
      refine z_aload_n hx dX9_goes_37 rfl 0 rfl ?_
      refine z_bipush hx dX9_goes_38 (by decide) ?_
      refine z_iload_n hx dX9_goes_40 rfl 1 rfl ?_
      refine z_iadd hx dX9_goes_41 ?_
      refine z_aload_n hx dX9_goes_42 rfl 0 rfl ?_
      refine z_bipush hx dX9_goes_43 (by decide) ?_
      refine z_iload_n hx dX9_goes_45 rfl 1 rfl ?_
      refine z_iadd hx dX9_goes_46 ?_
      refine z_iald hx dX9_goes_47 hA (by omega) (by decide) ?_
      have rg_7 := hI.rg ((11 + p)) (by omega)
      refine z_aload_n hx dX9_goes_48 rfl 0 rfl ?_
      refine z_iconst hx dX9_goes_49 ?_
      refine z_iload_n hx dX9_goes_50 rfl 2 rfl ?_
      refine z_iadd hx dX9_goes_51 ?_
      refine z_iald hx dX9_goes_52 hA (by omega) (by decide) ?_
      have rg_8 := hI.rg ((1 + (goal f p))) (by omega)
      refine z_cSI (as := [.int (iI (f (11 + p))), .int (iI (f (1 + (goal f p))))]) (rest := [.int (iI (11 + p)), .ref a]) hx dX9_goes_53 lk_X9_165 wt_X9_step mo_X9_step (kX9_step g (a := (f (11 + p))) (b := (f (1 + (goal f p)))) (by omega) (by omega)) (by decide) rfl rfl (Nat.le_of_ble_eq_true rfl) ?_
      refine z_iastQ hx dX9_goes_56 hA (by omega) (by decide) (fun h_9 hs_10 hf_11 => ?_)
      have fr_12 : Fr h h_9 a 1 := hf_11.wd (by omega) (by omega)
      refine z_vret hx hr dX9_goes_57 rfl (q_v ⟨ar_e (by unfold goes; (first | rw [if_pos (by omega)] | (rw [if_neg (by omega)]; first | rw [if_pos (by omega)] | rw [if_neg (by omega)]))) hs_10, fr_12⟩)
    ·
      refine z_aload_n hx dX9_goes_25 rfl 0 rfl ?_
      refine z_bipush hx dX9_goes_26 (by decide) ?_
      refine z_iload_n hx dX9_goes_28 rfl 1 rfl ?_
      refine z_iadd hx dX9_goes_29 ?_
      refine z_iconst hx dX9_goes_30 ?_
      refine z_iload_n hx dX9_goes_31 rfl 2 rfl ?_
      refine z_iadd hx dX9_goes_32 ?_
      refine z_iastQ hx dX9_goes_33 hA (by omega) (by decide) (fun h_13 hs_14 hf_15 => ?_)
      have fr_16 : Fr h h_13 a 1 := hf_15.wd (by omega) (by omega)
      refine z_goto (tgt := 57) hx dX9_goes_34 (by decide) ?_
      refine z_vret hx hr dX9_goes_57 rfl (q_v ⟨ar_e (by unfold goes; (first | rw [if_pos (by omega)] | (rw [if_neg (by omega)]; first | rw [if_pos (by omega)] | rw [if_neg (by omega)]))) hs_14, fr_16⟩)

set_option maxHeartbeats 4000000 in
set_option maxRecDepth 20000 in
theorem kX9_hunts (g : Gt) {h : AH} {a : Nat} {f : Int → Int} {s : Int} (hA : h a = some (.inl (0, 267, f))) (hI : inv f) (hs : 0 ≤ s ∧ s < f 38) : CnV g mX9_hunts 3 [.ref a, .int (iI s)] h (QA h a 267 (hunts f s)) := by
  refine Cn.mk (by decide +kernel) (Nat.le_of_ble_eq_true rfl) ?_
  intro x sz hx hr
  show Zj g x (sz, 0, 0) h 0 [(0, .ref a), (1, .int (iI s))] []
  have hn := hI.n
  have hs1 := hI.s s (by omega)
  refine z_iconst hx dX9_hunts_0 ?_
  refine z_istore_n hx dX9_hunts_1 rfl (by decide) [1, 2, 0] (lv' := [(0, .ref a), (1, .int (iI s)), (2, .int (iI (-1)))]) rfl ?_
  refine z_iconst hx dX9_hunts_2 ?_
  refine z_istore_n hx dX9_hunts_3 rfl (by decide) [1, 2, 3, 0] (lv' := [(0, .ref a), (1, .int (iI s)), (2, .int (iI (-1))), (3, .int (iI 0))]) rfl ?_
  have hL_1 : ∀ (mm : Nat) (v2 : Int) (v3 : Int), (0 ≤ v3 ∧ v3 ≤ f 37) → (v2 = itI v3 (hbeG f s) (-1)) → f 37 - v3 < (mm : Int) → Zj g x (sz, 0, 0) h 4 [(0, .ref a), (1, .int (iI s)), (2, .int (iI v2)), (3, .int (iI v3))] [] := by
    intro mm
    induction mm with
    | zero => intro v2 v3 e3 e2 hm; exfalso; omega
    | succ mm ih =>
      intro v2 v3 e3 e2 hm
      have ih_2 := ih; clear ih
      have hg := hbe_rg (f := f) (s := s) (n := v3) (by omega)
      rw [← e2] at hg
      refine z_iload_n hx dX9_hunts_4 rfl 3 rfl ?_
      refine z_aload_n hx dX9_hunts_5 rfl 0 rfl ?_
      refine z_bipush hx dX9_hunts_6 (by decide) ?_
      refine z_iald hx dX9_hunts_8 hA (by decide) (by decide) ?_
      have rg_3 := hI.rg (37) (by decide)
      refine z_icmp_ge (tgt := 83) hx dX9_hunts_9 (by decide) (by omega) (by omega) (fun c_4 => ?_) (fun c_4 => ?_)
      ·
        have e99 : v2 = itI (f 37) (hbeG f s) (-1) := by rw [e2]; congr 1; omega
        refine z_iload_n hx dX9_hunts_83 rfl 2 rfl ?_
        refine z_iconst hx dX9_hunts_84 ?_
        refine z_icmp_eq (tgt := 109) hx dX9_hunts_85 (by decide) (by omega) (by decide) (fun c_5 => ?_) (fun c_5 => ?_)
        ·
          refine z_iconst hx dX9_hunts_109 ?_
          refine z_istore_n hx dX9_hunts_110 rfl (by decide) [1, 2, 3, 0] (lv' := [(0, .ref a), (1, .int (iI s)), (2, .int (iI v2)), (3, .int (iI 0))]) rfl ?_
          have hL_6 : ∀ (mm : Nat) (w3 : Int) (g1 : Int → Int) (h_7 : AH), (0 ≤ w3 ∧ w3 ≤ f 37) → (g1 = itI w3 (takG s) (hun1 f s)) → (inv g1 ∧ cfx f g1) → (h_7 a = some (.inl (0, 267, g1))) → (Fr h h_7 a 1) → f 37 - w3 < (mm : Int) → Zj g x (sz, 0, 0) h_7 111 [(0, .ref a), (1, .int (iI s)), (3, .int (iI w3))] [] := by
            intro mm
            induction mm with
            | zero => intro w3 g1 h_7 kv eg ig hg_8 fr_9 hm; exfalso; omega
            | succ mm ih =>
              intro w3 g1 h_7 kv eg ig hg_8 fr_9 hm
              have ih_10 := ih; clear ih
              have c26 := ig.2 26 (by decide)
              have c37 := ig.2 37 (by decide)
              have c38 := ig.2 38 (by decide)
              have hng := ig.1.n
              have hit : w3 < f 37 → inv (takG s w3 g1) ∧ cfx g1 (takG s w3 g1) := fun hlt => inv_tak ig.1 (by omega)
              refine z_iload_n hx dX9_hunts_111 rfl 2 rfl ?_
              refine z_aload_n hx dX9_hunts_112 rfl 0 rfl ?_
              refine z_bipush hx dX9_hunts_113 (by decide) ?_
              refine z_iald hx dX9_hunts_115 hg_8 (by decide) (by decide) ?_
              have rg_11 := ig.1.rg (37) (by decide)
              refine z_icmp_ge (tgt := 166) hx dX9_hunts_116 (by decide) (by omega) (by omega) (fun c_12 => ?_) (fun c_12 => ?_)
              ·
                refine z_vret hx hr dX9_hunts_166 rfl (q_v ⟨ar_e (by rw [eg, show w3 = f 37 by omega]; rfl) hg_8, fr_9⟩)
              ·
                have hp4 := ig.1.p w3 (by omega)
                refine z_aload_n hx dX9_hunts_119 rfl 0 rfl ?_
                refine z_bipush hx dX9_hunts_120 (by decide) ?_
                refine z_iload_n hx dX9_hunts_122 rfl 2 rfl ?_
                refine z_iadd hx dX9_hunts_123 ?_
                refine z_aload_n hx dX9_hunts_124 rfl 0 rfl ?_
                refine z_bipush hx dX9_hunts_125 (by decide) ?_
                refine z_iload_n hx dX9_hunts_127 rfl 2 rfl ?_
                refine z_iadd hx dX9_hunts_128 ?_
                refine z_iald hx dX9_hunts_129 hg_8 (by omega) (by decide) ?_
                have rg_13 := ig.1.rg ((17 + w3)) (by omega)
                refine z_if_ne (tgt := 153) hx dX9_hunts_130 (by decide) (by omega) (fun c_14 => ?_) (fun c_14 => ?_)
                ·
                  refine z_aload_n hx dX9_hunts_153 rfl 0 rfl ?_
                  refine z_bipush hx dX9_hunts_154 (by decide) ?_
                  refine z_iload_n hx dX9_hunts_156 rfl 2 rfl ?_
                  refine z_iadd hx dX9_hunts_157 ?_
                  refine z_iald hx dX9_hunts_158 hg_8 (by omega) (by decide) ?_
                  have rg_15 := ig.1.rg ((17 + w3)) (by omega)
                  refine z_iastQ hx dX9_hunts_159 hg_8 (by omega) (by decide) (fun h_16 hs_17 hf_18 => ?_)
                  have fr_19 := fr_9.tr (hf_18.wd (by omega) (by omega))
                  refine z_iinc hx dX9_hunts_160 (by decide) 2 rfl [1, 2, 0] (lv' := [(0, .ref a), (1, .int (iI s)), (3, .int (iI (w3 + 1)))]) rfl ?_
                  refine z_goto (tgt := 111) hx dX9_hunts_163 (by decide) ?_
                  have ec : (fup g1 (17 + w3) (g1 (17 + w3))) = takG s w3 g1 := by unfold takG; first | rw [if_pos (by omega)] | rw [if_neg (by intro w; omega)]
                  exact ih_10 _ (fup g1 (17 + w3) (g1 (17 + w3))) _ (by omega) (by rw [itI_s _ _ (by omega), ← eg]; exact ec) (by rw [ec]; exact ⟨(hit (by omega)).1, ig.2.tr (hit (by omega)).2⟩) hs_17 fr_19 (by omega)
                ·
                  refine z_aload_n hx dX9_hunts_133 rfl 0 rfl ?_
                  refine z_bipush hx dX9_hunts_134 (by decide) ?_
                  refine z_iload_n hx dX9_hunts_136 rfl 2 rfl ?_
                  refine z_iadd hx dX9_hunts_137 ?_
                  refine z_iald hx dX9_hunts_138 hg_8 (by omega) (by decide) ?_
                  have rg_20 := ig.1.rg ((11 + w3)) (by omega)
                  refine z_aload_n hx dX9_hunts_139 rfl 0 rfl ?_
                  refine z_bipush hx dX9_hunts_140 (by decide) ?_
                  refine z_iload_n hx dX9_hunts_142 rfl 1 rfl ?_
                  refine z_iadd hx dX9_hunts_143 ?_
                  refine z_iald hx dX9_hunts_144 hg_8 (by omega) (by decide) ?_
                  have rg_21 := ig.1.rg ((23 + s)) (by omega)
                  refine z_icmp_ne (tgt := 153) hx dX9_hunts_145 (by decide) (by omega) (by omega) (fun c_22 => ?_) (fun c_22 => ?_)
                  ·
                    refine z_aload_n hx dX9_hunts_153 rfl 0 rfl ?_
                    refine z_bipush hx dX9_hunts_154 (by decide) ?_
                    refine z_iload_n hx dX9_hunts_156 rfl 2 rfl ?_
                    refine z_iadd hx dX9_hunts_157 ?_
                    refine z_iald hx dX9_hunts_158 hg_8 (by omega) (by decide) ?_
                    have rg_23 := ig.1.rg ((17 + w3)) (by omega)
                    refine z_iastQ hx dX9_hunts_159 hg_8 (by omega) (by decide) (fun h_24 hs_25 hf_26 => ?_)
                    have fr_27 := fr_9.tr (hf_26.wd (by omega) (by omega))
                    refine z_iinc hx dX9_hunts_160 (by decide) 2 rfl [1, 2, 0] (lv' := [(0, .ref a), (1, .int (iI s)), (3, .int (iI (w3 + 1)))]) rfl ?_
                    refine z_goto (tgt := 111) hx dX9_hunts_163 (by decide) ?_
                    have ec : (fup g1 (17 + w3) (g1 (17 + w3))) = takG s w3 g1 := by unfold takG; first | rw [if_pos (by omega)] | rw [if_neg (by intro w; omega)]
                    exact ih_10 _ (fup g1 (17 + w3) (g1 (17 + w3))) _ (by omega) (by rw [itI_s _ _ (by omega), ← eg]; exact ec) (by rw [ec]; exact ⟨(hit (by omega)).1, ig.2.tr (hit (by omega)).2⟩) hs_25 fr_27 (by omega)
                  ·
                    refine z_bipush hx dX9_hunts_148 (by decide) ?_
                    refine z_goto (tgt := 159) hx dX9_hunts_150 (by decide) ?_
                    refine z_iastQ hx dX9_hunts_159 hg_8 (by omega) (by decide) (fun h_28 hs_29 hf_30 => ?_)
                    have fr_31 := fr_9.tr (hf_30.wd (by omega) (by omega))
                    refine z_iinc hx dX9_hunts_160 (by decide) 2 rfl [1, 2, 0] (lv' := [(0, .ref a), (1, .int (iI s)), (3, .int (iI (w3 + 1)))]) rfl ?_
                    refine z_goto (tgt := 111) hx dX9_hunts_163 (by decide) ?_
                    have ec : (fup g1 (17 + w3) 6) = takG s w3 g1 := by unfold takG; first | rw [if_pos (by omega)] | rw [if_neg (by intro w; omega)]
                    exact ih_10 _ (fup g1 (17 + w3) 6) _ (by omega) (by rw [itI_s _ _ (by omega), ← eg]; exact ec) (by rw [ec]; exact ⟨(hit (by omega)).1, ig.2.tr (hit (by omega)).2⟩) hs_29 fr_31 (by omega)
          refine z_sub [0, 1, 3] (lv' := [(0, .ref a), (1, .int (iI s)), (3, .int (iI 0))]) rfl ?_
          exact hL_6 ((f 37 - 0) + 1).toNat _ f _ (by omega) (by rw [itI_0 _ _ rfl]; unfold hun1 hbe; rw [← e99]; first | rw [if_pos (by omega)] | rw [if_neg (by omega)]) (by first | exact ⟨hI, cfx.rf⟩ | exact ⟨inv_sh hI (by omega) (stp_rg hs1 hp2.1), cfx_fup (by omega)⟩) hA Fr.rf (by omega)
        ·
          have hp2 := hI.p v2 (by omega)
          refine z_aload_n hx dX9_hunts_88 rfl 0 rfl ?_
          refine z_bipush hx dX9_hunts_89 (by decide) ?_
          refine z_iload_n hx dX9_hunts_91 rfl 1 rfl ?_
          refine z_iadd hx dX9_hunts_92 ?_
          refine z_aload_n hx dX9_hunts_93 rfl 0 rfl ?_
          refine z_bipush hx dX9_hunts_94 (by decide) ?_
          refine z_iload_n hx dX9_hunts_96 rfl 1 rfl ?_
          refine z_iadd hx dX9_hunts_97 ?_
          refine z_iald hx dX9_hunts_98 hA (by omega) (by decide) ?_
          have rg_32 := hI.rg ((23 + s)) (by omega)
          refine z_aload_n hx dX9_hunts_99 rfl 0 rfl ?_
          refine z_bipush hx dX9_hunts_100 (by decide) ?_
          refine z_iload_n hx dX9_hunts_102 rfl 2 rfl ?_
          refine z_iadd hx dX9_hunts_103 ?_
          refine z_iald hx dX9_hunts_104 hA (by omega) (by decide) ?_
          have rg_33 := hI.rg ((11 + v2)) (by omega)
          refine z_cSI (as := [.int (iI (f (23 + s))), .int (iI (f (11 + v2)))]) (rest := [.int (iI (23 + s)), .ref a]) hx dX9_hunts_105 lk_X9_165 wt_X9_step mo_X9_step (kX9_step g (a := (f (23 + s))) (b := (f (11 + v2))) (by omega) (by omega)) (by decide) rfl rfl (Nat.le_of_ble_eq_true rfl) ?_
          refine z_iastQ hx dX9_hunts_108 hA (by omega) (by decide) (fun h_34 hs_35 hf_36 => ?_)
          have fr_37 : Fr h h_34 a 1 := hf_36.wd (by omega) (by omega)
          refine z_iconst hx dX9_hunts_109 ?_
          refine z_istore_n hx dX9_hunts_110 rfl (by decide) [1, 2, 3, 0] (lv' := [(0, .ref a), (1, .int (iI s)), (2, .int (iI v2)), (3, .int (iI 0))]) rfl ?_
          have hL_38 : ∀ (mm : Nat) (w3 : Int) (g1 : Int → Int) (h_39 : AH), (0 ≤ w3 ∧ w3 ≤ f 37) → (g1 = itI w3 (takG s) (hun1 f s)) → (inv g1 ∧ cfx f g1) → (h_39 a = some (.inl (0, 267, g1))) → (Fr h h_39 a 1) → f 37 - w3 < (mm : Int) → Zj g x (sz, 0, 0) h_39 111 [(0, .ref a), (1, .int (iI s)), (3, .int (iI w3))] [] := by
            intro mm
            induction mm with
            | zero => intro w3 g1 h_39 kv eg ig hg_40 fr_41 hm; exfalso; omega
            | succ mm ih =>
              intro w3 g1 h_39 kv eg ig hg_40 fr_41 hm
              have ih_42 := ih; clear ih
              have c26 := ig.2 26 (by decide)
              have c37 := ig.2 37 (by decide)
              have c38 := ig.2 38 (by decide)
              have hng := ig.1.n
              have hit : w3 < f 37 → inv (takG s w3 g1) ∧ cfx g1 (takG s w3 g1) := fun hlt => inv_tak ig.1 (by omega)
              refine z_iload_n hx dX9_hunts_111 rfl 2 rfl ?_
              refine z_aload_n hx dX9_hunts_112 rfl 0 rfl ?_
              refine z_bipush hx dX9_hunts_113 (by decide) ?_
              refine z_iald hx dX9_hunts_115 hg_40 (by decide) (by decide) ?_
              have rg_43 := ig.1.rg (37) (by decide)
              refine z_icmp_ge (tgt := 166) hx dX9_hunts_116 (by decide) (by omega) (by omega) (fun c_44 => ?_) (fun c_44 => ?_)
              ·
                refine z_vret hx hr dX9_hunts_166 rfl (q_v ⟨ar_e (by rw [eg, show w3 = f 37 by omega]; rfl) hg_40, fr_41⟩)
              ·
                have hp4 := ig.1.p w3 (by omega)
                refine z_aload_n hx dX9_hunts_119 rfl 0 rfl ?_
                refine z_bipush hx dX9_hunts_120 (by decide) ?_
                refine z_iload_n hx dX9_hunts_122 rfl 2 rfl ?_
                refine z_iadd hx dX9_hunts_123 ?_
                refine z_aload_n hx dX9_hunts_124 rfl 0 rfl ?_
                refine z_bipush hx dX9_hunts_125 (by decide) ?_
                refine z_iload_n hx dX9_hunts_127 rfl 2 rfl ?_
                refine z_iadd hx dX9_hunts_128 ?_
                refine z_iald hx dX9_hunts_129 hg_40 (by omega) (by decide) ?_
                have rg_45 := ig.1.rg ((17 + w3)) (by omega)
                refine z_if_ne (tgt := 153) hx dX9_hunts_130 (by decide) (by omega) (fun c_46 => ?_) (fun c_46 => ?_)
                ·
                  refine z_aload_n hx dX9_hunts_153 rfl 0 rfl ?_
                  refine z_bipush hx dX9_hunts_154 (by decide) ?_
                  refine z_iload_n hx dX9_hunts_156 rfl 2 rfl ?_
                  refine z_iadd hx dX9_hunts_157 ?_
                  refine z_iald hx dX9_hunts_158 hg_40 (by omega) (by decide) ?_
                  have rg_47 := ig.1.rg ((17 + w3)) (by omega)
                  refine z_iastQ hx dX9_hunts_159 hg_40 (by omega) (by decide) (fun h_48 hs_49 hf_50 => ?_)
                  have fr_51 := fr_41.tr (hf_50.wd (by omega) (by omega))
                  refine z_iinc hx dX9_hunts_160 (by decide) 2 rfl [1, 2, 0] (lv' := [(0, .ref a), (1, .int (iI s)), (3, .int (iI (w3 + 1)))]) rfl ?_
                  refine z_goto (tgt := 111) hx dX9_hunts_163 (by decide) ?_
                  have ec : (fup g1 (17 + w3) (g1 (17 + w3))) = takG s w3 g1 := by unfold takG; first | rw [if_pos (by omega)] | rw [if_neg (by intro w; omega)]
                  exact ih_42 _ (fup g1 (17 + w3) (g1 (17 + w3))) _ (by omega) (by rw [itI_s _ _ (by omega), ← eg]; exact ec) (by rw [ec]; exact ⟨(hit (by omega)).1, ig.2.tr (hit (by omega)).2⟩) hs_49 fr_51 (by omega)
                ·
                  refine z_aload_n hx dX9_hunts_133 rfl 0 rfl ?_
                  refine z_bipush hx dX9_hunts_134 (by decide) ?_
                  refine z_iload_n hx dX9_hunts_136 rfl 2 rfl ?_
                  refine z_iadd hx dX9_hunts_137 ?_
                  refine z_iald hx dX9_hunts_138 hg_40 (by omega) (by decide) ?_
                  have rg_52 := ig.1.rg ((11 + w3)) (by omega)
                  refine z_aload_n hx dX9_hunts_139 rfl 0 rfl ?_
                  refine z_bipush hx dX9_hunts_140 (by decide) ?_
                  refine z_iload_n hx dX9_hunts_142 rfl 1 rfl ?_
                  refine z_iadd hx dX9_hunts_143 ?_
                  refine z_iald hx dX9_hunts_144 hg_40 (by omega) (by decide) ?_
                  have rg_53 := ig.1.rg ((23 + s)) (by omega)
                  refine z_icmp_ne (tgt := 153) hx dX9_hunts_145 (by decide) (by omega) (by omega) (fun c_54 => ?_) (fun c_54 => ?_)
                  ·
                    refine z_aload_n hx dX9_hunts_153 rfl 0 rfl ?_
                    refine z_bipush hx dX9_hunts_154 (by decide) ?_
                    refine z_iload_n hx dX9_hunts_156 rfl 2 rfl ?_
                    refine z_iadd hx dX9_hunts_157 ?_
                    refine z_iald hx dX9_hunts_158 hg_40 (by omega) (by decide) ?_
                    have rg_55 := ig.1.rg ((17 + w3)) (by omega)
                    refine z_iastQ hx dX9_hunts_159 hg_40 (by omega) (by decide) (fun h_56 hs_57 hf_58 => ?_)
                    have fr_59 := fr_41.tr (hf_58.wd (by omega) (by omega))
                    refine z_iinc hx dX9_hunts_160 (by decide) 2 rfl [1, 2, 0] (lv' := [(0, .ref a), (1, .int (iI s)), (3, .int (iI (w3 + 1)))]) rfl ?_
                    refine z_goto (tgt := 111) hx dX9_hunts_163 (by decide) ?_
                    have ec : (fup g1 (17 + w3) (g1 (17 + w3))) = takG s w3 g1 := by unfold takG; first | rw [if_pos (by omega)] | rw [if_neg (by intro w; omega)]
                    exact ih_42 _ (fup g1 (17 + w3) (g1 (17 + w3))) _ (by omega) (by rw [itI_s _ _ (by omega), ← eg]; exact ec) (by rw [ec]; exact ⟨(hit (by omega)).1, ig.2.tr (hit (by omega)).2⟩) hs_57 fr_59 (by omega)
                  ·
                    refine z_bipush hx dX9_hunts_148 (by decide) ?_
                    refine z_goto (tgt := 159) hx dX9_hunts_150 (by decide) ?_
                    refine z_iastQ hx dX9_hunts_159 hg_40 (by omega) (by decide) (fun h_60 hs_61 hf_62 => ?_)
                    have fr_63 := fr_41.tr (hf_62.wd (by omega) (by omega))
                    refine z_iinc hx dX9_hunts_160 (by decide) 2 rfl [1, 2, 0] (lv' := [(0, .ref a), (1, .int (iI s)), (3, .int (iI (w3 + 1)))]) rfl ?_
                    refine z_goto (tgt := 111) hx dX9_hunts_163 (by decide) ?_
                    have ec : (fup g1 (17 + w3) 6) = takG s w3 g1 := by unfold takG; first | rw [if_pos (by omega)] | rw [if_neg (by intro w; omega)]
                    exact ih_42 _ (fup g1 (17 + w3) 6) _ (by omega) (by rw [itI_s _ _ (by omega), ← eg]; exact ec) (by rw [ec]; exact ⟨(hit (by omega)).1, ig.2.tr (hit (by omega)).2⟩) hs_61 fr_63 (by omega)
          refine z_sub [0, 1, 3] (lv' := [(0, .ref a), (1, .int (iI s)), (3, .int (iI 0))]) rfl ?_
          exact hL_38 ((f 37 - 0) + 1).toNat _ (fup f (23 + s) (stp (f (23 + s)) (f (11 + v2)))) _ (by omega) (by rw [itI_0 _ _ rfl]; unfold hun1 hbe; rw [← e99]; first | rw [if_pos (by omega)] | rw [if_neg (by omega)]) (by first | exact ⟨hI, cfx.rf⟩ | exact ⟨inv_sh hI (by omega) (stp_rg hs1 hp2.1), cfx_fup (by omega)⟩) hs_35 fr_37 (by omega)
      ·
        have hp3 := hI.p v3 (by omega)
        refine z_iload_n hx dX9_hunts_12 rfl 2 rfl ?_
        refine z_iconst hx dX9_hunts_13 ?_
        refine z_icmp_eq (tgt := 50) hx dX9_hunts_14 (by decide) (by omega) (by decide) (fun c_64 => ?_) (fun c_64 => ?_)
        ·
          refine z_iconst hx dX9_hunts_50 ?_
          refine z_goto (tgt := 55) hx dX9_hunts_51 (by decide) ?_
          refine z_istore hx dX9_hunts_55 (by decide) [1, 2, 3, 4, 0] (lv' := [(0, .ref a), (1, .int (iI s)), (2, .int (iI v2)), (3, .int (iI v3)), (4, .int (iI 1))]) rfl ?_
          refine z_aload_n hx dX9_hunts_57 rfl 0 rfl ?_
          refine z_bipush hx dX9_hunts_58 (by decide) ?_
          refine z_iload_n hx dX9_hunts_60 rfl 3 rfl ?_
          refine z_iadd hx dX9_hunts_61 ?_
          refine z_iald hx dX9_hunts_62 hA (by omega) (by decide) ?_
          have rg_65 := hI.rg ((17 + v3)) (by omega)
          refine z_if_ne (tgt := 75) hx dX9_hunts_63 (by decide) (by omega) (fun c_66 => ?_) (fun c_66 => ?_)
          ·
            refine z_iload_n hx dX9_hunts_75 rfl 2 rfl ?_
            refine z_istore_n hx dX9_hunts_76 rfl (by decide) [1, 2, 0, 3, 4] (lv' := [(0, .ref a), (1, .int (iI s)), (2, .int (iI v2)), (3, .int (iI v3)), (4, .int (iI 1))]) rfl ?_
            refine z_iinc hx dX9_hunts_77 (by decide) 3 rfl [1, 2, 3, 0, 4] (lv' := [(0, .ref a), (1, .int (iI s)), (2, .int (iI v2)), (3, .int (iI (v3 + 1))), (4, .int (iI 1))]) rfl ?_
            refine z_goto (tgt := 4) hx dX9_hunts_80 (by decide) ?_
            refine z_sub [0, 1, 2, 3] (lv' := [(0, .ref a), (1, .int (iI s)), (2, .int (iI v2)), (3, .int (iI (v3 + 1)))]) rfl ?_
            exact ih_2 _ _ (by omega) (by rw [itI_s _ _ (by omega), ← e2]; unfold hbeG; (first | rw [if_pos (by refine ⟨by omega, ?_⟩; first | (left; omega) | (right; omega))] | rw [if_neg (by intro w; omega)]))  (by omega)
          ·
            refine z_iload hx dX9_hunts_66 4 rfl ?_
            refine z_if_eq (tgt := 75) hx dX9_hunts_68 (by decide) (by decide) (fun q => absurd q (by decide)) (fun _ => ?_)
            refine z_iload_n hx dX9_hunts_71 rfl 3 rfl ?_
            refine z_goto (tgt := 76) hx dX9_hunts_72 (by decide) ?_
            refine z_istore_n hx dX9_hunts_76 rfl (by decide) [1, 2, 0, 3, 4] (lv' := [(0, .ref a), (1, .int (iI s)), (2, .int (iI v3)), (3, .int (iI v3)), (4, .int (iI 1))]) rfl ?_
            refine z_iinc hx dX9_hunts_77 (by decide) 3 rfl [1, 2, 3, 0, 4] (lv' := [(0, .ref a), (1, .int (iI s)), (2, .int (iI v3)), (3, .int (iI (v3 + 1))), (4, .int (iI 1))]) rfl ?_
            refine z_goto (tgt := 4) hx dX9_hunts_80 (by decide) ?_
            refine z_sub [0, 1, 2, 3] (lv' := [(0, .ref a), (1, .int (iI s)), (2, .int (iI v3)), (3, .int (iI (v3 + 1)))]) rfl ?_
            exact ih_2 _ _ (by omega) (by rw [itI_s _ _ (by omega), ← e2]; unfold hbeG; (first | rw [if_pos (by refine ⟨by omega, ?_⟩; first | (left; omega) | (right; omega))] | rw [if_neg (by intro w; omega)]))  (by omega)
        ·
          refine z_aload_n hx dX9_hunts_17 rfl 0 rfl ?_
          refine z_bipush hx dX9_hunts_18 (by decide) ?_
          refine z_iload_n hx dX9_hunts_20 rfl 3 rfl ?_
          refine z_iadd hx dX9_hunts_21 ?_
          refine z_iald hx dX9_hunts_22 hA (by omega) (by decide) ?_
          have rg_68 := hI.rg ((11 + v3)) (by omega)
          refine z_aload_n hx dX9_hunts_23 rfl 0 rfl ?_
          refine z_bipush hx dX9_hunts_24 (by decide) ?_
          refine z_iload_n hx dX9_hunts_26 rfl 1 rfl ?_
          refine z_iadd hx dX9_hunts_27 ?_
          refine z_iald hx dX9_hunts_28 hA (by omega) (by decide) ?_
          have rg_69 := hI.rg ((23 + s)) (by omega)
          have fr1 := far_rg hp3.1 hs1
          refine z_cSI (as := [.int (iI (f (11 + v3))), .int (iI (f (23 + s)))]) (rest := []) hx dX9_hunts_29 lk_X9_158 wt_X9_far mo_X9_far (kX9_far g (a := (f (11 + v3))) (b := (f (23 + s))) (by omega) (by omega)) (by decide) rfl rfl (Nat.le_of_ble_eq_true rfl) ?_
          refine z_aload_n hx dX9_hunts_32 rfl 0 rfl ?_
          refine z_bipush hx dX9_hunts_33 (by decide) ?_
          refine z_iload_n hx dX9_hunts_35 rfl 2 rfl ?_
          refine z_iadd hx dX9_hunts_36 ?_
          refine z_iald hx dX9_hunts_37 hA (by omega) (by decide) ?_
          have rg_70 := hI.rg ((11 + v2)) (by omega)
          refine z_aload_n hx dX9_hunts_38 rfl 0 rfl ?_
          refine z_bipush hx dX9_hunts_39 (by decide) ?_
          refine z_iload_n hx dX9_hunts_41 rfl 1 rfl ?_
          refine z_iadd hx dX9_hunts_42 ?_
          refine z_iald hx dX9_hunts_43 hA (by omega) (by decide) ?_
          have rg_71 := hI.rg ((23 + s)) (by omega)
          have hp2 := hI.p v2 (by omega)
          have fr2 := far_rg hp2.1 hs1
          refine z_cSI (as := [.int (iI (f (11 + v2))), .int (iI (f (23 + s)))]) (rest := [.int (iI (far (f (11 + v3)) (f (23 + s))))]) hx dX9_hunts_44 lk_X9_158 wt_X9_far mo_X9_far (kX9_far g (a := (f (11 + v2))) (b := (f (23 + s))) (by omega) (by omega)) (by decide) rfl rfl (Nat.le_of_ble_eq_true rfl) ?_
          refine z_icmp_ge (tgt := 54) hx dX9_hunts_47 (by decide) (by omega) (by omega) (fun c_72 => ?_) (fun c_72 => ?_)
          ·
            refine z_iconst hx dX9_hunts_54 ?_
            refine z_istore hx dX9_hunts_55 (by decide) [1, 2, 3, 4, 0] (lv' := [(0, .ref a), (1, .int (iI s)), (2, .int (iI v2)), (3, .int (iI v3)), (4, .int (iI 0))]) rfl ?_
            refine z_aload_n hx dX9_hunts_57 rfl 0 rfl ?_
            refine z_bipush hx dX9_hunts_58 (by decide) ?_
            refine z_iload_n hx dX9_hunts_60 rfl 3 rfl ?_
            refine z_iadd hx dX9_hunts_61 ?_
            refine z_iald hx dX9_hunts_62 hA (by omega) (by decide) ?_
            have rg_73 := hI.rg ((17 + v3)) (by omega)
            refine z_if_ne (tgt := 75) hx dX9_hunts_63 (by decide) (by omega) (fun c_74 => ?_) (fun c_74 => ?_)
            ·
              refine z_iload_n hx dX9_hunts_75 rfl 2 rfl ?_
              refine z_istore_n hx dX9_hunts_76 rfl (by decide) [1, 2, 0, 3, 4] (lv' := [(0, .ref a), (1, .int (iI s)), (2, .int (iI v2)), (3, .int (iI v3)), (4, .int (iI 0))]) rfl ?_
              refine z_iinc hx dX9_hunts_77 (by decide) 3 rfl [1, 2, 3, 0, 4] (lv' := [(0, .ref a), (1, .int (iI s)), (2, .int (iI v2)), (3, .int (iI (v3 + 1))), (4, .int (iI 0))]) rfl ?_
              refine z_goto (tgt := 4) hx dX9_hunts_80 (by decide) ?_
              refine z_sub [0, 1, 2, 3] (lv' := [(0, .ref a), (1, .int (iI s)), (2, .int (iI v2)), (3, .int (iI (v3 + 1)))]) rfl ?_
              exact ih_2 _ _ (by omega) (by rw [itI_s _ _ (by omega), ← e2]; unfold hbeG; (first | rw [if_pos (by refine ⟨by omega, ?_⟩; first | (left; omega) | (right; omega))] | rw [if_neg (by intro w; omega)]))  (by omega)
            ·
              refine z_iload hx dX9_hunts_66 4 rfl ?_
              refine z_if_eq (tgt := 75) hx dX9_hunts_68 (by decide) (by decide) (fun _ => ?_) (fun q => absurd q (by decide))
              refine z_iload_n hx dX9_hunts_75 rfl 2 rfl ?_
              refine z_istore_n hx dX9_hunts_76 rfl (by decide) [1, 2, 0, 3, 4] (lv' := [(0, .ref a), (1, .int (iI s)), (2, .int (iI v2)), (3, .int (iI v3)), (4, .int (iI 0))]) rfl ?_
              refine z_iinc hx dX9_hunts_77 (by decide) 3 rfl [1, 2, 3, 0, 4] (lv' := [(0, .ref a), (1, .int (iI s)), (2, .int (iI v2)), (3, .int (iI (v3 + 1))), (4, .int (iI 0))]) rfl ?_
              refine z_goto (tgt := 4) hx dX9_hunts_80 (by decide) ?_
              refine z_sub [0, 1, 2, 3] (lv' := [(0, .ref a), (1, .int (iI s)), (2, .int (iI v2)), (3, .int (iI (v3 + 1)))]) rfl ?_
              exact ih_2 _ _ (by omega) (by rw [itI_s _ _ (by omega), ← e2]; unfold hbeG; (first | rw [if_pos (by refine ⟨by omega, ?_⟩; first | (left; omega) | (right; omega))] | rw [if_neg (by intro w; omega)]))  (by omega)
          ·
            refine z_iconst hx dX9_hunts_50 ?_
            refine z_goto (tgt := 55) hx dX9_hunts_51 (by decide) ?_
            refine z_istore hx dX9_hunts_55 (by decide) [1, 2, 3, 4, 0] (lv' := [(0, .ref a), (1, .int (iI s)), (2, .int (iI v2)), (3, .int (iI v3)), (4, .int (iI 1))]) rfl ?_
            refine z_aload_n hx dX9_hunts_57 rfl 0 rfl ?_
            refine z_bipush hx dX9_hunts_58 (by decide) ?_
            refine z_iload_n hx dX9_hunts_60 rfl 3 rfl ?_
            refine z_iadd hx dX9_hunts_61 ?_
            refine z_iald hx dX9_hunts_62 hA (by omega) (by decide) ?_
            have rg_76 := hI.rg ((17 + v3)) (by omega)
            refine z_if_ne (tgt := 75) hx dX9_hunts_63 (by decide) (by omega) (fun c_77 => ?_) (fun c_77 => ?_)
            ·
              refine z_iload_n hx dX9_hunts_75 rfl 2 rfl ?_
              refine z_istore_n hx dX9_hunts_76 rfl (by decide) [1, 2, 0, 3, 4] (lv' := [(0, .ref a), (1, .int (iI s)), (2, .int (iI v2)), (3, .int (iI v3)), (4, .int (iI 1))]) rfl ?_
              refine z_iinc hx dX9_hunts_77 (by decide) 3 rfl [1, 2, 3, 0, 4] (lv' := [(0, .ref a), (1, .int (iI s)), (2, .int (iI v2)), (3, .int (iI (v3 + 1))), (4, .int (iI 1))]) rfl ?_
              refine z_goto (tgt := 4) hx dX9_hunts_80 (by decide) ?_
              refine z_sub [0, 1, 2, 3] (lv' := [(0, .ref a), (1, .int (iI s)), (2, .int (iI v2)), (3, .int (iI (v3 + 1)))]) rfl ?_
              exact ih_2 _ _ (by omega) (by rw [itI_s _ _ (by omega), ← e2]; unfold hbeG; (first | rw [if_pos (by refine ⟨by omega, ?_⟩; first | (left; omega) | (right; omega))] | rw [if_neg (by intro w; omega)]))  (by omega)
            ·
              refine z_iload hx dX9_hunts_66 4 rfl ?_
              refine z_if_eq (tgt := 75) hx dX9_hunts_68 (by decide) (by decide) (fun q => absurd q (by decide)) (fun _ => ?_)
              refine z_iload_n hx dX9_hunts_71 rfl 3 rfl ?_
              refine z_goto (tgt := 76) hx dX9_hunts_72 (by decide) ?_
              refine z_istore_n hx dX9_hunts_76 rfl (by decide) [1, 2, 0, 3, 4] (lv' := [(0, .ref a), (1, .int (iI s)), (2, .int (iI v3)), (3, .int (iI v3)), (4, .int (iI 1))]) rfl ?_
              refine z_iinc hx dX9_hunts_77 (by decide) 3 rfl [1, 2, 3, 0, 4] (lv' := [(0, .ref a), (1, .int (iI s)), (2, .int (iI v3)), (3, .int (iI (v3 + 1))), (4, .int (iI 1))]) rfl ?_
              refine z_goto (tgt := 4) hx dX9_hunts_80 (by decide) ?_
              refine z_sub [0, 1, 2, 3] (lv' := [(0, .ref a), (1, .int (iI s)), (2, .int (iI v3)), (3, .int (iI (v3 + 1)))]) rfl ?_
              exact ih_2 _ _ (by omega) (by rw [itI_s _ _ (by omega), ← e2]; unfold hbeG; (first | rw [if_pos (by refine ⟨by omega, ?_⟩; first | (left; omega) | (right; omega))] | rw [if_neg (by intro w; omega)]))  (by omega)
  exact hL_1 ((f 37 - 0) + 1).toNat _ _ (by omega) (by rfl)  (by omega)

set_option maxHeartbeats 4000000 in
set_option maxRecDepth 20000 in
theorem kX9_wears (g : Gt) {h : AH} {a : Nat} {f : Int → Int} {k : Int} (hA : h a = some (.inl (0, 267, f))) (hI : inv f) (hk : 0 ≤ k ∧ k < f 26) : CnV g mX9_wears 3 [.ref a, .int (iI k)] h (QA h a 267 (wears f k)) := by
  refine Cn.mk (by decide +kernel) (Nat.le_of_ble_eq_true rfl) ?_
  intro x sz hx hr
  show Zj g x (sz, 0, 0) h 0 [(0, .ref a), (1, .int (iI k))] []
  have hn := hI.n
  have hk1 := hI.k k (by omega)
  have hu := und_rg hI k
  have hpc := pcu_rg hI k
  have hw9 := wby_rg (k := f (27 + k)) hpc
  refine z_aload_n hx dX9_wears_0 rfl 0 rfl ?_
  refine z_bipush hx dX9_wears_1 (by decide) ?_
  refine z_iload_n hx dX9_wears_3 rfl 1 rfl ?_
  refine z_iadd hx dX9_wears_4 ?_
  refine z_iald hx dX9_wears_5 hA (by omega) (by decide) ?_
  have rg_1 := hI.rg ((6 + k)) (by omega)
  refine z_aload_n hx dX9_wears_6 rfl 0 rfl ?_
  refine z_bipush hx dX9_wears_7 (by decide) ?_
  refine z_iload_n hx dX9_wears_9 rfl 1 rfl ?_
  refine z_iadd hx dX9_wears_10 ?_
  refine z_iald hx dX9_wears_11 hA (by omega) (by decide) ?_
  have rg_2 := hI.rg ((27 + k)) (by omega)
  refine z_aload_n hx dX9_wears_12 rfl 0 rfl ?_
  refine z_iload_n hx dX9_wears_13 rfl 1 rfl ?_
  refine z_cSI (as := [.ref a, .int (iI k)]) (rest := [.int (iI (f (27 + k))), .int (iI (f (6 + k)))]) hx dX9_wears_14 lk_X9_152 wt_X9_underIn mo_X9_underIn (kX9_underIn g (k := k) hA hI (by omega)) (by decide) rfl rfl (Nat.le_of_ble_eq_true rfl) ?_
  have f_3 := und_rg hI k
  refine z_cSI (as := [.int (iI (und f k))]) (rest := [.int (iI (f (27 + k))), .int (iI (f (6 + k)))]) hx dX9_wears_17 lk_X9_155 wt_X9_bits mo_X9_bits (kX9_bits g (v := (und f k)) (by omega)) (by decide) rfl rfl (Nat.le_of_ble_eq_true rfl) ?_
  have f_4 := popc_rg (v := (und f k))
  refine z_cSI (as := [.int (iI (f (27 + k))), .int (iI (popc (und f k)))]) (rest := [.int (iI (f (6 + k)))]) hx dX9_wears_20 lk_X9_168 wt_X9_wearsBy mo_X9_wearsBy (kX9_wearsBy g (k := (f (27 + k))) (n := (popc (und f k))) (by omega) (by omega)) (by decide) rfl rfl (Nat.le_of_ble_eq_true rfl) ?_
  refine z_iadd hx dX9_wears_23 ?_
  refine z_istore_n hx dX9_wears_24 rfl (by decide) [1, 2, 0] (lv' := [(0, .ref a), (1, .int (iI k)), (2, .int (iI ((f (6 + k)) + (wby (f (27 + k)) (popc (und f k))))))]) rfl ?_
  refine z_aload_n hx dX9_wears_25 rfl 0 rfl ?_
  refine z_bipush hx dX9_wears_26 (by decide) ?_
  refine z_iload_n hx dX9_wears_28 rfl 1 rfl ?_
  refine z_iadd hx dX9_wears_29 ?_
  refine z_iload_n hx dX9_wears_30 rfl 2 rfl ?_
  refine z_bipush hx dX9_wears_31 (by decide) ?_
  refine z_icmp_le (tgt := 41) hx dX9_wears_33 (by decide) (by omega) (by decide) (fun c_5 => ?_) (fun c_5 => ?_)
  ·
    refine z_iload_n hx dX9_wears_41 rfl 2 rfl ?_
    refine z_iastQ hx dX9_wears_42 hA (by omega) (by decide) (fun h_6 hs_7 hf_8 => ?_)
    have fr_9 : Fr h h_6 a 1 := hf_8.wd (by omega) (by omega)
    have ew1 : (fup f (6 + k) ((f (6 + k)) + (wby (f (27 + k)) (popc (und f k))))) = wer1 f k := by unfold wer1; first | rw [if_pos (by omega)] | rw [if_neg (by omega)]
    have e37 : (fup f (6 + k) ((f (6 + k)) + (wby (f (27 + k)) (popc (und f k))))) 37 = f 37 := by rw [ew1]; exact (inv_wer1 hI hk).2 37 (by decide)
    refine z_aload_n hx dX9_wears_43 rfl 0 rfl ?_
    refine z_bipush hx dX9_wears_44 (by decide) ?_
    refine z_iald hx dX9_wears_46 hs_7 (by decide) (by decide) ?_
    refine z_iconst hx dX9_wears_47 ?_
    refine z_isub hx dX9_wears_48 ?_
    refine z_istore_n hx dX9_wears_49 rfl (by decide) [1, 2, 3, 0] (lv' := [(0, .ref a), (1, .int (iI k)), (2, .int (iI ((f (6 + k)) + (wby (f (27 + k)) (popc (und f k)))))), (3, .int (iI (((fup f (6 + k) ((f (6 + k)) + (wby (f (27 + k)) (popc (und f k))))) 37) - 1)))]) rfl ?_
    have hL_10 : ∀ (mm : Nat) (v3 : Int) (g1 : Int → Int) (h_11 : AH), (-1 ≤ v3 ∧ v3 < f 37) → (dnI (v3 + 1) (werG k) g1 = wears f k) → (inv g1 ∧ cfx f g1) → (h_11 a = some (.inl (0, 267, g1))) → (Fr h h_11 a 1) → v3 + 1 < (mm : Int) → Zj g x (sz, 0, 0) h_11 50 [(0, .ref a), (1, .int (iI k)), (3, .int (iI v3))] [] := by
      intro mm
      induction mm with
      | zero => intro v3 g1 h_11 kv eg ig hg_12 fr_13 hm; exfalso; omega
      | succ mm ih =>
        intro v3 g1 h_11 kv eg ig hg_12 fr_13 hm
        have ih_14 := ih; clear ih
        have c26 := ig.2 26 (by decide)
        have c37 := ig.2 37 (by decide)
        have hng := ig.1.n
        have hit : 0 ≤ v3 → inv (werG k v3 g1) ∧ cfx g1 (werG k v3 g1) := fun hlt => inv_werG ig.1 (by omega)
        refine z_iload_n hx dX9_wears_50 rfl 2 rfl ?_
        refine z_if_lt (tgt := 116) hx dX9_wears_51 (by decide) (by omega) (fun c_15 => ?_) (fun c_15 => ?_)
        ·
          refine z_vret hx hr dX9_wears_116 rfl (q_v ⟨ar_e (by rw [← eg, dnI_0 _ _ (by omega)]) hg_12, fr_13⟩)
        ·
          have hu2 := und_rg ig.1 k
          have hpc2 := pcu_rg ig.1 k
          have hh2 := hlf_rg ig.1 (k := k) (by omega)
          refine z_aload_n hx dX9_wears_54 rfl 0 rfl ?_
          refine z_bipush hx dX9_wears_55 (by decide) ?_
          refine z_iload_n hx dX9_wears_57 rfl 2 rfl ?_
          refine z_iadd hx dX9_wears_58 ?_
          refine z_iald hx dX9_wears_59 hg_12 (by omega) (by decide) ?_
          have rg_16 := ig.1.rg ((17 + v3)) (by omega)
          refine z_iconst hx dX9_wears_60 ?_
          refine z_iload_n hx dX9_wears_61 rfl 1 rfl ?_
          refine z_iadd hx dX9_wears_62 ?_
          refine z_icmp_ne (tgt := 86) hx dX9_wears_63 (by decide) (by omega) (by omega) (fun c_17 => ?_) (fun c_17 => ?_)
          ·
            refine z_iconst hx dX9_wears_86 ?_
            refine z_istore hx dX9_wears_87 (by decide) [1, 2, 3, 0] (lv' := [(0, .ref a), (1, .int (iI k)), (3, .int (iI v3)), (4, .int (iI 0))]) rfl ?_
            refine z_aload_n hx dX9_wears_89 rfl 0 rfl ?_
            refine z_bipush hx dX9_wears_90 (by decide) ?_
            refine z_iload_n hx dX9_wears_92 rfl 2 rfl ?_
            refine z_iadd hx dX9_wears_93 ?_
            refine z_iload hx dX9_wears_94 3 rfl ?_
            refine z_if_eq (tgt := 103) hx dX9_wears_96 (by decide) (by decide) (fun _ => ?_) (fun q => absurd q (by decide))
            refine z_aload_n hx dX9_wears_103 rfl 0 rfl ?_
            refine z_bipush hx dX9_wears_104 (by decide) ?_
            refine z_iload_n hx dX9_wears_106 rfl 2 rfl ?_
            refine z_iadd hx dX9_wears_107 ?_
            refine z_iald hx dX9_wears_108 hg_12 (by omega) (by decide) ?_
            have rg_19 := ig.1.rg ((17 + v3)) (by omega)
            refine z_iastQ hx dX9_wears_109 hg_12 (by omega) (by decide) (fun h_20 hs_21 hf_22 => ?_)
            have fr_23 := fr_13.tr (hf_22.wd (by omega) (by omega))
            refine z_iinc hx dX9_wears_110 (by decide) 2 rfl [1, 2, 0, 3] (lv' := [(0, .ref a), (1, .int (iI k)), (3, .int (iI (v3 + (-1)))), (4, .int (iI 0))]) rfl ?_
            refine z_goto (tgt := 50) hx dX9_wears_113 (by decide) ?_
            refine z_sub [0, 1, 2] (lv' := [(0, .ref a), (1, .int (iI k)), (3, .int (iI (v3 + (-1))))]) rfl ?_
            have ec : (fup g1 (17 + v3) (g1 (17 + v3))) = werG k v3 g1 := by unfold werG; first | rw [if_pos (by omega)] | rw [if_neg (by intro w; omega)]
            exact ih_14 _ (fup g1 (17 + v3) (g1 (17 + v3))) _ (by omega) (by rw [ec, show v3 + (-1) + 1 = v3 by omega, ← dnI_s _ _ (by omega)]; exact eg) (by rw [ec]; exact ⟨(hit (by omega)).1, ig.2.tr (hit (by omega)).2⟩) hs_21 fr_23 (by omega)
          ·
            refine z_aload_n hx dX9_wears_66 rfl 0 rfl ?_
            refine z_iload_n hx dX9_wears_67 rfl 1 rfl ?_
            refine z_cSI (as := [.ref a, .int (iI k)]) (rest := []) hx dX9_wears_68 lk_X9_152 wt_X9_underIn mo_X9_underIn (kX9_underIn g (k := k) hg_12 ig.1 (by omega)) (by decide) rfl rfl (Nat.le_of_ble_eq_true rfl) ?_
            have f_24 := und_rg ig.1 k
            refine z_cSI (as := [.int (iI (und g1 k))]) (rest := []) hx dX9_wears_71 lk_X9_155 wt_X9_bits mo_X9_bits (kX9_bits g (v := (und g1 k)) (by omega)) (by decide) rfl rfl (Nat.le_of_ble_eq_true rfl) ?_
            have f_25 := popc_rg (v := (und g1 k))
            refine z_aload_n hx dX9_wears_74 rfl 0 rfl ?_
            refine z_iload_n hx dX9_wears_75 rfl 1 rfl ?_
            refine z_cSI (as := [.ref a, .int (iI k)]) (rest := [.int (iI (popc (und g1 k)))]) hx dX9_wears_76 lk_X9_149 wt_X9_holds mo_X9_holds (kX9_holds g (k := k) hg_12 ig.1 (by omega)) (by decide) rfl rfl (Nat.le_of_ble_eq_true rfl) ?_
            have f_26 := hlf_rg ig.1 (k := k) (by omega)
            refine z_icmp_le (tgt := 86) hx dX9_wears_79 (by decide) (by omega) (by omega) (fun c_27 => ?_) (fun c_27 => ?_)
            ·
              refine z_iconst hx dX9_wears_86 ?_
              refine z_istore hx dX9_wears_87 (by decide) [1, 2, 3, 0] (lv' := [(0, .ref a), (1, .int (iI k)), (3, .int (iI v3)), (4, .int (iI 0))]) rfl ?_
              refine z_aload_n hx dX9_wears_89 rfl 0 rfl ?_
              refine z_bipush hx dX9_wears_90 (by decide) ?_
              refine z_iload_n hx dX9_wears_92 rfl 2 rfl ?_
              refine z_iadd hx dX9_wears_93 ?_
              refine z_iload hx dX9_wears_94 3 rfl ?_
              refine z_if_eq (tgt := 103) hx dX9_wears_96 (by decide) (by decide) (fun _ => ?_) (fun q => absurd q (by decide))
              refine z_aload_n hx dX9_wears_103 rfl 0 rfl ?_
              refine z_bipush hx dX9_wears_104 (by decide) ?_
              refine z_iload_n hx dX9_wears_106 rfl 2 rfl ?_
              refine z_iadd hx dX9_wears_107 ?_
              refine z_iald hx dX9_wears_108 hg_12 (by omega) (by decide) ?_
              have rg_29 := ig.1.rg ((17 + v3)) (by omega)
              refine z_iastQ hx dX9_wears_109 hg_12 (by omega) (by decide) (fun h_30 hs_31 hf_32 => ?_)
              have fr_33 := fr_13.tr (hf_32.wd (by omega) (by omega))
              refine z_iinc hx dX9_wears_110 (by decide) 2 rfl [1, 2, 0, 3] (lv' := [(0, .ref a), (1, .int (iI k)), (3, .int (iI (v3 + (-1)))), (4, .int (iI 0))]) rfl ?_
              refine z_goto (tgt := 50) hx dX9_wears_113 (by decide) ?_
              refine z_sub [0, 1, 2] (lv' := [(0, .ref a), (1, .int (iI k)), (3, .int (iI (v3 + (-1))))]) rfl ?_
              have ec : (fup g1 (17 + v3) (g1 (17 + v3))) = werG k v3 g1 := by unfold werG; first | rw [if_pos (by omega)] | rw [if_neg (by intro w; omega)]
              exact ih_14 _ (fup g1 (17 + v3) (g1 (17 + v3))) _ (by omega) (by rw [ec, show v3 + (-1) + 1 = v3 by omega, ← dnI_s _ _ (by omega)]; exact eg) (by rw [ec]; exact ⟨(hit (by omega)).1, ig.2.tr (hit (by omega)).2⟩) hs_31 fr_33 (by omega)
            ·
              refine z_iconst hx dX9_wears_82 ?_
              refine z_goto (tgt := 87) hx dX9_wears_83 (by decide) ?_
              refine z_istore hx dX9_wears_87 (by decide) [1, 2, 3, 0] (lv' := [(0, .ref a), (1, .int (iI k)), (3, .int (iI v3)), (4, .int (iI 1))]) rfl ?_
              refine z_aload_n hx dX9_wears_89 rfl 0 rfl ?_
              refine z_bipush hx dX9_wears_90 (by decide) ?_
              refine z_iload_n hx dX9_wears_92 rfl 2 rfl ?_
              refine z_iadd hx dX9_wears_93 ?_
              refine z_iload hx dX9_wears_94 3 rfl ?_
              refine z_if_eq (tgt := 103) hx dX9_wears_96 (by decide) (by decide) (fun q => absurd q (by decide)) (fun _ => ?_)
              refine z_iconst hx dX9_wears_99 ?_
              refine z_goto (tgt := 109) hx dX9_wears_100 (by decide) ?_
              refine z_iastQ hx dX9_wears_109 hg_12 (by omega) (by decide) (fun h_35 hs_36 hf_37 => ?_)
              have fr_38 := fr_13.tr (hf_37.wd (by omega) (by omega))
              refine z_iinc hx dX9_wears_110 (by decide) 2 rfl [1, 2, 0, 3] (lv' := [(0, .ref a), (1, .int (iI k)), (3, .int (iI (v3 + (-1)))), (4, .int (iI 1))]) rfl ?_
              refine z_goto (tgt := 50) hx dX9_wears_113 (by decide) ?_
              refine z_sub [0, 1, 2] (lv' := [(0, .ref a), (1, .int (iI k)), (3, .int (iI (v3 + (-1))))]) rfl ?_
              have ec : (fup g1 (17 + v3) 0) = werG k v3 g1 := by unfold werG; first | rw [if_pos (by omega)] | rw [if_neg (by intro w; omega)]
              exact ih_14 _ (fup g1 (17 + v3) 0) _ (by omega) (by rw [ec, show v3 + (-1) + 1 = v3 by omega, ← dnI_s _ _ (by omega)]; exact eg) (by rw [ec]; exact ⟨(hit (by omega)).1, ig.2.tr (hit (by omega)).2⟩) hs_36 fr_38 (by omega)
    refine z_sub [0, 1, 3] (lv' := [(0, .ref a), (1, .int (iI k)), (3, .int (iI (((fup f (6 + k) ((f (6 + k)) + (wby (f (27 + k)) (popc (und f k))))) 37) - 1)))]) rfl ?_
    exact hL_10 (((((fup f (6 + k) ((f (6 + k)) + (wby (f (27 + k)) (popc (und f k))))) 37) - 1) + 1) + 1).toNat _ (fup f (6 + k) ((f (6 + k)) + (wby (f (27 + k)) (popc (und f k))))) _ (by rw [e37]; omega) (by rw [e37, show f 37 - 1 + 1 = f 37 by omega]; unfold wears; rw [← ew1]) (by rw [ew1]; exact inv_wer1 hI hk) hs_7 fr_9 (by omega)
  ·
    refine z_bipush hx dX9_wears_36 (by decide) ?_
    refine z_goto (tgt := 42) hx dX9_wears_38 (by decide) ?_
    refine z_iastQ hx dX9_wears_42 hA (by omega) (by decide) (fun h_39 hs_40 hf_41 => ?_)
    have fr_42 : Fr h h_39 a 1 := hf_41.wd (by omega) (by omega)
    have ew1 : (fup f (6 + k) 40) = wer1 f k := by unfold wer1; first | rw [if_pos (by omega)] | rw [if_neg (by omega)]
    have e37 : (fup f (6 + k) 40) 37 = f 37 := by rw [ew1]; exact (inv_wer1 hI hk).2 37 (by decide)
    refine z_aload_n hx dX9_wears_43 rfl 0 rfl ?_
    refine z_bipush hx dX9_wears_44 (by decide) ?_
    refine z_iald hx dX9_wears_46 hs_40 (by decide) (by decide) ?_
    refine z_iconst hx dX9_wears_47 ?_
    refine z_isub hx dX9_wears_48 ?_
    refine z_istore_n hx dX9_wears_49 rfl (by decide) [1, 2, 3, 0] (lv' := [(0, .ref a), (1, .int (iI k)), (2, .int (iI ((f (6 + k)) + (wby (f (27 + k)) (popc (und f k)))))), (3, .int (iI (((fup f (6 + k) 40) 37) - 1)))]) rfl ?_
    have hL_43 : ∀ (mm : Nat) (v3 : Int) (g1 : Int → Int) (h_44 : AH), (-1 ≤ v3 ∧ v3 < f 37) → (dnI (v3 + 1) (werG k) g1 = wears f k) → (inv g1 ∧ cfx f g1) → (h_44 a = some (.inl (0, 267, g1))) → (Fr h h_44 a 1) → v3 + 1 < (mm : Int) → Zj g x (sz, 0, 0) h_44 50 [(0, .ref a), (1, .int (iI k)), (3, .int (iI v3))] [] := by
      intro mm
      induction mm with
      | zero => intro v3 g1 h_44 kv eg ig hg_45 fr_46 hm; exfalso; omega
      | succ mm ih =>
        intro v3 g1 h_44 kv eg ig hg_45 fr_46 hm
        have ih_47 := ih; clear ih
        have c26 := ig.2 26 (by decide)
        have c37 := ig.2 37 (by decide)
        have hng := ig.1.n
        have hit : 0 ≤ v3 → inv (werG k v3 g1) ∧ cfx g1 (werG k v3 g1) := fun hlt => inv_werG ig.1 (by omega)
        refine z_iload_n hx dX9_wears_50 rfl 2 rfl ?_
        refine z_if_lt (tgt := 116) hx dX9_wears_51 (by decide) (by omega) (fun c_48 => ?_) (fun c_48 => ?_)
        ·
          refine z_vret hx hr dX9_wears_116 rfl (q_v ⟨ar_e (by rw [← eg, dnI_0 _ _ (by omega)]) hg_45, fr_46⟩)
        ·
          have hu2 := und_rg ig.1 k
          have hpc2 := pcu_rg ig.1 k
          have hh2 := hlf_rg ig.1 (k := k) (by omega)
          refine z_aload_n hx dX9_wears_54 rfl 0 rfl ?_
          refine z_bipush hx dX9_wears_55 (by decide) ?_
          refine z_iload_n hx dX9_wears_57 rfl 2 rfl ?_
          refine z_iadd hx dX9_wears_58 ?_
          refine z_iald hx dX9_wears_59 hg_45 (by omega) (by decide) ?_
          have rg_49 := ig.1.rg ((17 + v3)) (by omega)
          refine z_iconst hx dX9_wears_60 ?_
          refine z_iload_n hx dX9_wears_61 rfl 1 rfl ?_
          refine z_iadd hx dX9_wears_62 ?_
          refine z_icmp_ne (tgt := 86) hx dX9_wears_63 (by decide) (by omega) (by omega) (fun c_50 => ?_) (fun c_50 => ?_)
          ·
            refine z_iconst hx dX9_wears_86 ?_
            refine z_istore hx dX9_wears_87 (by decide) [1, 2, 3, 0] (lv' := [(0, .ref a), (1, .int (iI k)), (3, .int (iI v3)), (4, .int (iI 0))]) rfl ?_
            refine z_aload_n hx dX9_wears_89 rfl 0 rfl ?_
            refine z_bipush hx dX9_wears_90 (by decide) ?_
            refine z_iload_n hx dX9_wears_92 rfl 2 rfl ?_
            refine z_iadd hx dX9_wears_93 ?_
            refine z_iload hx dX9_wears_94 3 rfl ?_
            refine z_if_eq (tgt := 103) hx dX9_wears_96 (by decide) (by decide) (fun _ => ?_) (fun q => absurd q (by decide))
            refine z_aload_n hx dX9_wears_103 rfl 0 rfl ?_
            refine z_bipush hx dX9_wears_104 (by decide) ?_
            refine z_iload_n hx dX9_wears_106 rfl 2 rfl ?_
            refine z_iadd hx dX9_wears_107 ?_
            refine z_iald hx dX9_wears_108 hg_45 (by omega) (by decide) ?_
            have rg_52 := ig.1.rg ((17 + v3)) (by omega)
            refine z_iastQ hx dX9_wears_109 hg_45 (by omega) (by decide) (fun h_53 hs_54 hf_55 => ?_)
            have fr_56 := fr_46.tr (hf_55.wd (by omega) (by omega))
            refine z_iinc hx dX9_wears_110 (by decide) 2 rfl [1, 2, 0, 3] (lv' := [(0, .ref a), (1, .int (iI k)), (3, .int (iI (v3 + (-1)))), (4, .int (iI 0))]) rfl ?_
            refine z_goto (tgt := 50) hx dX9_wears_113 (by decide) ?_
            refine z_sub [0, 1, 2] (lv' := [(0, .ref a), (1, .int (iI k)), (3, .int (iI (v3 + (-1))))]) rfl ?_
            have ec : (fup g1 (17 + v3) (g1 (17 + v3))) = werG k v3 g1 := by unfold werG; first | rw [if_pos (by omega)] | rw [if_neg (by intro w; omega)]
            exact ih_47 _ (fup g1 (17 + v3) (g1 (17 + v3))) _ (by omega) (by rw [ec, show v3 + (-1) + 1 = v3 by omega, ← dnI_s _ _ (by omega)]; exact eg) (by rw [ec]; exact ⟨(hit (by omega)).1, ig.2.tr (hit (by omega)).2⟩) hs_54 fr_56 (by omega)
          ·
            refine z_aload_n hx dX9_wears_66 rfl 0 rfl ?_
            refine z_iload_n hx dX9_wears_67 rfl 1 rfl ?_
            refine z_cSI (as := [.ref a, .int (iI k)]) (rest := []) hx dX9_wears_68 lk_X9_152 wt_X9_underIn mo_X9_underIn (kX9_underIn g (k := k) hg_45 ig.1 (by omega)) (by decide) rfl rfl (Nat.le_of_ble_eq_true rfl) ?_
            have f_57 := und_rg ig.1 k
            refine z_cSI (as := [.int (iI (und g1 k))]) (rest := []) hx dX9_wears_71 lk_X9_155 wt_X9_bits mo_X9_bits (kX9_bits g (v := (und g1 k)) (by omega)) (by decide) rfl rfl (Nat.le_of_ble_eq_true rfl) ?_
            have f_58 := popc_rg (v := (und g1 k))
            refine z_aload_n hx dX9_wears_74 rfl 0 rfl ?_
            refine z_iload_n hx dX9_wears_75 rfl 1 rfl ?_
            refine z_cSI (as := [.ref a, .int (iI k)]) (rest := [.int (iI (popc (und g1 k)))]) hx dX9_wears_76 lk_X9_149 wt_X9_holds mo_X9_holds (kX9_holds g (k := k) hg_45 ig.1 (by omega)) (by decide) rfl rfl (Nat.le_of_ble_eq_true rfl) ?_
            have f_59 := hlf_rg ig.1 (k := k) (by omega)
            refine z_icmp_le (tgt := 86) hx dX9_wears_79 (by decide) (by omega) (by omega) (fun c_60 => ?_) (fun c_60 => ?_)
            ·
              refine z_iconst hx dX9_wears_86 ?_
              refine z_istore hx dX9_wears_87 (by decide) [1, 2, 3, 0] (lv' := [(0, .ref a), (1, .int (iI k)), (3, .int (iI v3)), (4, .int (iI 0))]) rfl ?_
              refine z_aload_n hx dX9_wears_89 rfl 0 rfl ?_
              refine z_bipush hx dX9_wears_90 (by decide) ?_
              refine z_iload_n hx dX9_wears_92 rfl 2 rfl ?_
              refine z_iadd hx dX9_wears_93 ?_
              refine z_iload hx dX9_wears_94 3 rfl ?_
              refine z_if_eq (tgt := 103) hx dX9_wears_96 (by decide) (by decide) (fun _ => ?_) (fun q => absurd q (by decide))
              refine z_aload_n hx dX9_wears_103 rfl 0 rfl ?_
              refine z_bipush hx dX9_wears_104 (by decide) ?_
              refine z_iload_n hx dX9_wears_106 rfl 2 rfl ?_
              refine z_iadd hx dX9_wears_107 ?_
              refine z_iald hx dX9_wears_108 hg_45 (by omega) (by decide) ?_
              have rg_62 := ig.1.rg ((17 + v3)) (by omega)
              refine z_iastQ hx dX9_wears_109 hg_45 (by omega) (by decide) (fun h_63 hs_64 hf_65 => ?_)
              have fr_66 := fr_46.tr (hf_65.wd (by omega) (by omega))
              refine z_iinc hx dX9_wears_110 (by decide) 2 rfl [1, 2, 0, 3] (lv' := [(0, .ref a), (1, .int (iI k)), (3, .int (iI (v3 + (-1)))), (4, .int (iI 0))]) rfl ?_
              refine z_goto (tgt := 50) hx dX9_wears_113 (by decide) ?_
              refine z_sub [0, 1, 2] (lv' := [(0, .ref a), (1, .int (iI k)), (3, .int (iI (v3 + (-1))))]) rfl ?_
              have ec : (fup g1 (17 + v3) (g1 (17 + v3))) = werG k v3 g1 := by unfold werG; first | rw [if_pos (by omega)] | rw [if_neg (by intro w; omega)]
              exact ih_47 _ (fup g1 (17 + v3) (g1 (17 + v3))) _ (by omega) (by rw [ec, show v3 + (-1) + 1 = v3 by omega, ← dnI_s _ _ (by omega)]; exact eg) (by rw [ec]; exact ⟨(hit (by omega)).1, ig.2.tr (hit (by omega)).2⟩) hs_64 fr_66 (by omega)
            ·
              refine z_iconst hx dX9_wears_82 ?_
              refine z_goto (tgt := 87) hx dX9_wears_83 (by decide) ?_
              refine z_istore hx dX9_wears_87 (by decide) [1, 2, 3, 0] (lv' := [(0, .ref a), (1, .int (iI k)), (3, .int (iI v3)), (4, .int (iI 1))]) rfl ?_
              refine z_aload_n hx dX9_wears_89 rfl 0 rfl ?_
              refine z_bipush hx dX9_wears_90 (by decide) ?_
              refine z_iload_n hx dX9_wears_92 rfl 2 rfl ?_
              refine z_iadd hx dX9_wears_93 ?_
              refine z_iload hx dX9_wears_94 3 rfl ?_
              refine z_if_eq (tgt := 103) hx dX9_wears_96 (by decide) (by decide) (fun q => absurd q (by decide)) (fun _ => ?_)
              refine z_iconst hx dX9_wears_99 ?_
              refine z_goto (tgt := 109) hx dX9_wears_100 (by decide) ?_
              refine z_iastQ hx dX9_wears_109 hg_45 (by omega) (by decide) (fun h_68 hs_69 hf_70 => ?_)
              have fr_71 := fr_46.tr (hf_70.wd (by omega) (by omega))
              refine z_iinc hx dX9_wears_110 (by decide) 2 rfl [1, 2, 0, 3] (lv' := [(0, .ref a), (1, .int (iI k)), (3, .int (iI (v3 + (-1)))), (4, .int (iI 1))]) rfl ?_
              refine z_goto (tgt := 50) hx dX9_wears_113 (by decide) ?_
              refine z_sub [0, 1, 2] (lv' := [(0, .ref a), (1, .int (iI k)), (3, .int (iI (v3 + (-1))))]) rfl ?_
              have ec : (fup g1 (17 + v3) 0) = werG k v3 g1 := by unfold werG; first | rw [if_pos (by omega)] | rw [if_neg (by intro w; omega)]
              exact ih_47 _ (fup g1 (17 + v3) 0) _ (by omega) (by rw [ec, show v3 + (-1) + 1 = v3 by omega, ← dnI_s _ _ (by omega)]; exact eg) (by rw [ec]; exact ⟨(hit (by omega)).1, ig.2.tr (hit (by omega)).2⟩) hs_69 fr_71 (by omega)
    refine z_sub [0, 1, 3] (lv' := [(0, .ref a), (1, .int (iI k)), (3, .int (iI (((fup f (6 + k) 40) 37) - 1)))]) rfl ?_
    exact hL_43 (((((fup f (6 + k) 40) 37) - 1) + 1) + 1).toNat _ (fup f (6 + k) 40) _ (by rw [e37]; omega) (by rw [e37, show f 37 - 1 + 1 = f 37 by omega]; unfold wears; rw [← ew1]) (by rw [ew1]; exact inv_wer1 hI hk) hs_40 fr_42 (by omega)

set_option maxHeartbeats 4000000 in
set_option maxRecDepth 20000 in
theorem kX9_endHour (g : Gt) {h : AH} {a : Nat} {f : Int → Int}  (hA : h a = some (.inl (0, 267, f))) (hI : inv f) : CnV g mX9_endHour 4 [.ref a] h (QA h a 267 (endH f)) := by
  refine Cn.mk (by decide +kernel) (Nat.le_of_ble_eq_true rfl) ?_
  intro x sz hx hr
  show Zj g x (sz, 0, 0) h 0 [(0, .ref a)] []
  have hn := hI.n
  refine z_iconst hx dX9_endHour_0 ?_
  refine z_istore_n hx dX9_endHour_1 rfl (by decide) [1, 0] (lv' := [(0, .ref a), (1, .int (iI 0))]) rfl ?_
  have hL_1 : ∀ (mm : Nat) (v1 : Int) (g1 : Int → Int) (h_2 : AH), (0 ≤ v1 ∧ v1 ≤ f 38) → (g1 = itI v1 (huG) (f)) → (inv g1 ∧ cfx f g1) → (h_2 a = some (.inl (0, 267, g1))) → (Fr h h_2 a 1) → f 38 - v1 < (mm : Int) → Zj g x (sz, 0, 0) h_2 2 [(0, .ref a), (1, .int (iI v1))] [] := by
    intro mm
    induction mm with
    | zero => intro v1 g1 h_2 kv eg ig hg_3 fr_4 hm; exfalso; omega
    | succ mm ih =>
      intro v1 g1 h_2 kv eg ig hg_3 fr_4 hm
      have ih_5 := ih; clear ih
      have c26 := ig.2 26 (by decide)
      have c37 := ig.2 37 (by decide)
      have c38 := ig.2 38 (by decide)
      have hng := ig.1.n
      have hit : v1 < f 38 → inv (huG v1 g1) ∧ cfx g1 (huG v1 g1) := fun hlt => inv_hunts ig.1 (by omega)
      refine z_iload_n hx dX9_endHour_2 rfl 1 rfl ?_
      refine z_aload_n hx dX9_endHour_3 rfl 0 rfl ?_
      refine z_bipush hx dX9_endHour_4 (by decide) ?_
      refine z_iald hx dX9_endHour_6 hg_3 (by decide) (by decide) ?_
      have rg_6 := ig.1.rg (38) (by decide)
      refine z_icmp_ge (tgt := 21) hx dX9_endHour_7 (by decide) (by omega) (by omega) (fun c_7 => ?_) (fun c_7 => ?_)
      ·
        refine z_iconst hx dX9_endHour_21 ?_
        refine z_istore_n hx dX9_endHour_22 rfl (by decide) [1, 0] (lv' := [(0, .ref a), (1, .int (iI 0))]) rfl ?_
        have hL_8 : ∀ (mm : Nat) (w1 : Int) (g2 : Int → Int) (h_9 : AH), (0 ≤ w1 ∧ w1 ≤ f 26) → (g2 = itI w1 (weG) (sheL f)) → (inv g2 ∧ cfx f g2) → (h_9 a = some (.inl (0, 267, g2))) → (Fr h h_9 a 1) → f 26 - w1 < (mm : Int) → Zj g x (sz, 0, 0) h_9 23 [(0, .ref a), (1, .int (iI w1))] [] := by
          intro mm
          induction mm with
          | zero => intro w1 g2 h_9 kv2 eg2 ig2 hg_10 fr_11 hm; exfalso; omega
          | succ mm ih =>
            intro w1 g2 h_9 kv2 eg2 ig2 hg_10 fr_11 hm
            have ih_12 := ih; clear ih
            have d26 := ig2.2 26 (by decide)
            have d37 := ig2.2 37 (by decide)
            have d38 := ig2.2 38 (by decide)
            have hng2 := ig2.1.n
            have hit2 : w1 < f 26 → inv (weG w1 g2) ∧ cfx g2 (weG w1 g2) := fun hlt => inv_wears ig2.1 (by omega)
            refine z_iload_n hx dX9_endHour_23 rfl 1 rfl ?_
            refine z_aload_n hx dX9_endHour_24 rfl 0 rfl ?_
            refine z_bipush hx dX9_endHour_25 (by decide) ?_
            refine z_iald hx dX9_endHour_27 hg_10 (by decide) (by decide) ?_
            have rg_13 := ig2.1.rg (26) (by decide)
            refine z_icmp_ge (tgt := 42) hx dX9_endHour_28 (by decide) (by omega) (by omega) (fun c_14 => ?_) (fun c_14 => ?_)
            ·
              refine z_aload_n hx dX9_endHour_42 rfl 0 rfl ?_
              refine z_iconst hx dX9_endHour_43 ?_
              refine z_dup2 hx dX9_endHour_44 rfl rfl ?_
              refine z_iald hx dX9_endHour_45 hg_10 (by decide) (by decide) ?_
              refine z_iconst hx dX9_endHour_46 ?_
              refine z_iadd hx dX9_endHour_47 ?_
              refine z_iastQ hx dX9_endHour_48 hg_10 (by decide) (by decide) (fun h_15 hs_16 hf_17 => ?_)
              have fr_18 := fr_11.tr (hf_17.wd (by omega) (by omega))
              refine z_vret hx hr dX9_endHour_49 rfl (q_v ⟨ar_e (by unfold endH weaL; rw [eg2, show w1 = f 26 by omega]; have c9 := (inv_sheL hI).2 26 (by decide); rw [c9]) hs_16, fr_18⟩)
            ·
              refine z_aload_n hx dX9_endHour_31 rfl 0 rfl ?_
              refine z_iload_n hx dX9_endHour_32 rfl 1 rfl ?_
              refine z_cSV (as := [.ref a, .int (iI w1)]) (rest := []) hx dX9_endHour_33 lk_X9_175 wt_X9_wears mo_X9_wears (kX9_wears g (k := w1) hg_10 ig2.1 (by omega)) (by decide) rfl rfl (Nat.le_of_ble_eq_true rfl) (fun h_19 q_20 => ?_)
              obtain ⟨hs_21, hf_22⟩ := q_20
              obtain ⟨f_23, ef_23⟩ : ∃ F : Int → Int, F = wears g2 w1 := ⟨_, rfl⟩
              rw [← ef_23] at hs_21
              have iv_24 := inv_wears ig2.1 (k := w1) (by omega)
              rw [← ef_23] at iv_24
              have fr_25 := fr_11.tr (hf_22.wd (by omega) (by omega))
              refine z_iinc hx dX9_endHour_36 (by decide) 1 rfl [1, 0] (lv' := [(0, .ref a), (1, .int (iI (w1 + 1)))]) rfl ?_
              refine z_goto (tgt := 23) hx dX9_endHour_39 (by decide) ?_
              have ec2 : f_23 = weG w1 g2 := by subst_vars; rfl
              exact ih_12 _ f_23 _ (by omega) (by rw [itI_s _ _ (by omega), ← eg2]; exact ec2) (by rw [ec2]; exact ⟨(hit2 (by omega)).1, ig2.2.tr (hit2 (by omega)).2⟩) hs_21 fr_25 (by omega)
        exact hL_8 ((f 26 - 0) + 1).toNat _ g1 _ (by omega) (by rw [itI_0 _ _ rfl, eg]; unfold sheL; rw [show v1 = f 38 by omega]) (by exact ig) hg_3 fr_4 (by omega)
      ·
        refine z_aload_n hx dX9_endHour_10 rfl 0 rfl ?_
        refine z_iload_n hx dX9_endHour_11 rfl 1 rfl ?_
        refine z_cSV (as := [.ref a, .int (iI v1)]) (rest := []) hx dX9_endHour_12 lk_X9_171 wt_X9_hunts mo_X9_hunts (kX9_hunts g (s := v1) hg_3 ig.1 (by omega)) (by decide) rfl rfl (Nat.le_of_ble_eq_true rfl) (fun h_26 q_27 => ?_)
        obtain ⟨hs_28, hf_29⟩ := q_27
        obtain ⟨f_30, ef_30⟩ : ∃ F : Int → Int, F = hunts g1 v1 := ⟨_, rfl⟩
        rw [← ef_30] at hs_28
        have iv_31 := inv_hunts ig.1 (s := v1) (by omega)
        rw [← ef_30] at iv_31
        have fr_32 := fr_4.tr (hf_29.wd (by omega) (by omega))
        refine z_iinc hx dX9_endHour_15 (by decide) 1 rfl [1, 0] (lv' := [(0, .ref a), (1, .int (iI (v1 + 1)))]) rfl ?_
        refine z_goto (tgt := 2) hx dX9_endHour_18 (by decide) ?_
        have ec : f_30 = huG v1 g1 := by subst_vars; rfl
        exact ih_5 _ f_30 _ (by omega) (by rw [itI_s _ _ (by omega), ← eg]; exact ec) (by rw [ec]; exact ⟨(hit (by omega)).1, ig.2.tr (hit (by omega)).2⟩) hs_28 fr_32 (by omega)
  exact hL_1 ((f 38 - 0) + 1).toNat _ f _ (by omega) (by rw [itI_0 _ _ rfl]) (by exact ⟨hI, cfx.rf⟩) hA Fr.rf (by omega)

set_option maxHeartbeats 4000000 in
set_option maxRecDepth 20000 in
theorem kX9_goBy (g : Gt) {h : AH} {a : Nat} {f : Int → Int}  (hA : h a = some (.inl (0, 267, f))) (hI : inv f) : CnV g mX9_goBy 5 [.ref a] h (QA h a 267 (goBy f)) := by
  refine Cn.mk (by decide +kernel) (Nat.le_of_ble_eq_true rfl) ?_
  intro x sz hx hr
  show Zj g x (sz, 0, 0) h 0 [(0, .ref a)] []
  have hn := hI.n
  refine z_iconst hx dX9_goBy_0 ?_
  refine z_istore_n hx dX9_goBy_1 rfl (by decide) [1, 0] (lv' := [(0, .ref a), (1, .int (iI 0))]) rfl ?_
  have hL_1 : ∀ (mm : Nat) (v1 : Int) (g1 : Int → Int) (h_2 : AH), (0 ≤ v1 ∧ v1 ≤ f 37) → (g1 = itI v1 (goeG) (f)) → (inv g1 ∧ cfx f g1) → (h_2 a = some (.inl (0, 267, g1))) → (Fr h h_2 a 1) → f 37 - v1 < (mm : Int) → Zj g x (sz, 0, 0) h_2 2 [(0, .ref a), (1, .int (iI v1))] [] := by
    intro mm
    induction mm with
    | zero => intro v1 g1 h_2 kv eg ig hg_3 fr_4 hm; exfalso; omega
    | succ mm ih =>
      intro v1 g1 h_2 kv eg ig hg_3 fr_4 hm
      have ih_5 := ih; clear ih
      have c26 := ig.2 26 (by decide)
      have c37 := ig.2 37 (by decide)
      have c38 := ig.2 38 (by decide)
      have hng := ig.1.n
      have hit : v1 < f 37 → inv (goeG v1 g1) ∧ cfx g1 (goeG v1 g1) := fun hlt => inv_goeG ig.1 (by omega)
      refine z_iload_n hx dX9_goBy_2 rfl 1 rfl ?_
      refine z_aload_n hx dX9_goBy_3 rfl 0 rfl ?_
      refine z_bipush hx dX9_goBy_4 (by decide) ?_
      refine z_iald hx dX9_goBy_6 hg_3 (by decide) (by decide) ?_
      have rg_6 := ig.1.rg (37) (by decide)
      refine z_icmp_ge (tgt := 30) hx dX9_goBy_7 (by decide) (by omega) (by omega) (fun c_7 => ?_) (fun c_7 => ?_)
      ·
        refine z_aload_n hx dX9_goBy_30 rfl 0 rfl ?_
        refine z_cSV (as := [.ref a]) (rest := []) hx dX9_goBy_31 lk_X9_181 wt_X9_endHour mo_X9_endHour (kX9_endHour g  hg_3 ig.1 ) (by decide) rfl rfl (Nat.le_of_ble_eq_true rfl) (fun h_8 q_9 => ?_)
        obtain ⟨hs_10, hf_11⟩ := q_9
        obtain ⟨f_12, ef_12⟩ : ∃ F : Int → Int, F = endH g1 := ⟨_, rfl⟩
        rw [← ef_12] at hs_10
        have iv_13 := inv_endH ig.1
        rw [← ef_12] at iv_13
        have fr_14 := fr_4.tr (hf_11.wd (by omega) (by omega))
        refine z_vret hx hr dX9_goBy_34 rfl (q_v ⟨ar_e (by unfold goBy; rw [← show v1 = f 37 by omega, ← eg]; subst_vars; rfl) hs_10, fr_14⟩)
      ·
        refine z_aload_n hx dX9_goBy_10 rfl 0 rfl ?_
        refine z_bipush hx dX9_goBy_11 (by decide) ?_
        refine z_iload_n hx dX9_goBy_13 rfl 1 rfl ?_
        refine z_iadd hx dX9_goBy_14 ?_
        refine z_iald hx dX9_goBy_15 hg_3 (by omega) (by decide) ?_
        have rg_15 := ig.1.rg ((17 + v1)) (by omega)
        refine z_if_ne (tgt := 24) hx dX9_goBy_16 (by decide) (by omega) (fun c_16 => ?_) (fun c_16 => ?_)
        ·
          refine z_iinc hx dX9_goBy_24 (by decide) 1 rfl [1, 0] (lv' := [(0, .ref a), (1, .int (iI (v1 + 1)))]) rfl ?_
          refine z_goto (tgt := 2) hx dX9_goBy_27 (by decide) ?_
          have ec : g1 = goeG v1 g1 := by unfold goeG; first | (rw [if_pos (by omega)]; subst_vars; rfl) | rw [if_neg (by omega)]
          exact ih_5 _ g1 _ (by omega) (by rw [itI_s _ _ (by omega), ← eg]; exact ec) (by rw [ec]; exact ⟨(hit (by omega)).1, ig.2.tr (hit (by omega)).2⟩) hg_3 fr_4 (by omega)
        ·
          refine z_aload_n hx dX9_goBy_19 rfl 0 rfl ?_
          refine z_iload_n hx dX9_goBy_20 rfl 1 rfl ?_
          refine z_cSV (as := [.ref a, .int (iI v1)]) (rest := []) hx dX9_goBy_21 lk_X9_178 wt_X9_goes mo_X9_goes (kX9_goes g (p := v1) hg_3 ig.1 (by omega) (by omega)) (by decide) rfl rfl (Nat.le_of_ble_eq_true rfl) (fun h_17 q_18 => ?_)
          obtain ⟨hs_19, hf_20⟩ := q_18
          obtain ⟨f_21, ef_21⟩ : ∃ F : Int → Int, F = goes g1 v1 := ⟨_, rfl⟩
          rw [← ef_21] at hs_19
          have iv_22 := inv_goes ig.1 (p := v1) (by omega) (by omega)
          rw [← ef_21] at iv_22
          have fr_23 := fr_4.tr (hf_20.wd (by omega) (by omega))
          refine z_iinc hx dX9_goBy_24 (by decide) 1 rfl [1, 0] (lv' := [(0, .ref a), (1, .int (iI (v1 + 1)))]) rfl ?_
          refine z_goto (tgt := 2) hx dX9_goBy_27 (by decide) ?_
          have ec : f_21 = goeG v1 g1 := by unfold goeG; first | (rw [if_pos (by omega)]; subst_vars; rfl) | rw [if_neg (by omega)]
          exact ih_5 _ f_21 _ (by omega) (by rw [itI_s _ _ (by omega), ← eg]; exact ec) (by rw [ec]; exact ⟨(hit (by omega)).1, ig.2.tr (hit (by omega)).2⟩) hs_19 fr_23 (by omega)
  exact hL_1 ((f 37 - 0) + 1).toNat _ f _ (by omega) (by rw [itI_0 _ _ rfl]) (by exact ⟨hI, cfx.rf⟩) hA Fr.rf (by omega)

set_option maxHeartbeats 4000000 in
set_option maxRecDepth 20000 in
theorem kX9_takenIn (g : Gt) {h : AH} {a : Nat} {f : Int → Int}  (hA : h a = some (.inl (0, 267, f))) (hI : inv f) : CnI g mX9_takenIn 1 [.ref a] h (tkn f) := by
  refine Cn.mk (by decide +kernel) (Nat.le_of_ble_eq_true rfl) ?_
  intro x sz hx hr
  show Zj g x (sz, 0, 0) h 0 [(0, .ref a)] []
  have hn := hI.n
  refine z_iconst hx dX9_takenIn_0 ?_
  refine z_istore_n hx dX9_takenIn_1 rfl (by decide) [1, 0] (lv' := [(0, .ref a), (1, .int (iI 0))]) rfl ?_
  refine z_iconst hx dX9_takenIn_2 ?_
  refine z_istore_n hx dX9_takenIn_3 rfl (by decide) [1, 2, 0] (lv' := [(0, .ref a), (1, .int (iI 0)), (2, .int (iI 0))]) rfl ?_
  have hL_1 : ∀ (mm : Nat) (v2 : Int) (v3 : Int), (0 ≤ v3 ∧ v3 ≤ f 37) → (v2 = msk (fun p => f (17 + p) = 6) v3) → f 37 - v3 < (mm : Int) → Zj g x (sz, 0, 0) h 4 [(0, .ref a), (1, .int (iI v2)), (2, .int (iI v3))] [] := by
    intro mm
    induction mm with
    | zero => intro v2 v3 e3 e2 hm; exfalso; omega
    | succ mm ih =>
      intro v2 v3 e3 e2 hm
      have ih_2 := ih; clear ih
      have hm := msk_rg (fun p => f (17 + p) = 6) (n := v3) (by omega)
      have hm2 := msk_64 (fun p => f (17 + p) = 6) (n := v3) (by omega)
      refine z_iload_n hx dX9_takenIn_4 rfl 2 rfl ?_
      refine z_aload_n hx dX9_takenIn_5 rfl 0 rfl ?_
      refine z_bipush hx dX9_takenIn_6 (by decide) ?_
      refine z_iald hx dX9_takenIn_8 hA (by decide) (by decide) ?_
      have rg_3 := hI.rg (37) (by decide)
      refine z_icmp_ge (tgt := 39) hx dX9_takenIn_9 (by decide) (by omega) (by omega) (fun c_4 => ?_) (fun c_4 => ?_)
      ·
        have e9 : v3 = f 37 := by omega
        rw [e9] at e2
        refine z_iload_n hx dX9_takenIn_39 rfl 1 rfl ?_
        refine z_iret hx hr dX9_takenIn_40 rfl rfl (q_i (by simpa [tkn] using e2))
      ·
        have hp := hI.p v3 (by omega)
        have hpw := pw_rg (p := v3) (by omega)
        refine z_iload_n hx dX9_takenIn_12 rfl 1 rfl ?_
        refine z_aload_n hx dX9_takenIn_13 rfl 0 rfl ?_
        refine z_bipush hx dX9_takenIn_14 (by decide) ?_
        refine z_iload_n hx dX9_takenIn_16 rfl 2 rfl ?_
        refine z_iadd hx dX9_takenIn_17 ?_
        refine z_iald hx dX9_takenIn_18 hA (by omega) (by decide) ?_
        have rg_5 := hI.rg ((17 + v3)) (by omega)
        refine z_bipush hx dX9_takenIn_19 (by decide) ?_
        refine z_icmp_ne (tgt := 30) hx dX9_takenIn_21 (by decide) (by omega) (by decide) (fun c_6 => ?_) (fun c_6 => ?_)
        ·
          refine z_iconst hx dX9_takenIn_30 ?_
          refine z_ior hx dX9_takenIn_31 ?_
          rw [show orI v2 0 = v2 from by exact orI_0 (by omega)]
          refine z_istore_n hx dX9_takenIn_32 rfl (by decide) [1, 0, 2] (lv' := [(0, .ref a), (1, .int (iI v2)), (2, .int (iI v3))]) rfl ?_
          refine z_iinc hx dX9_takenIn_33 (by decide) 2 rfl [1, 2, 0] (lv' := [(0, .ref a), (1, .int (iI v2)), (2, .int (iI (v3 + 1)))]) rfl ?_
          refine z_goto (tgt := 4) hx dX9_takenIn_36 (by decide) ?_
          exact ih_2 _ _ (by omega) (by rw [msk_s _ (by omega), e2]; simp [*])  (by omega)
        ·
          refine z_iconst hx dX9_takenIn_24 ?_
          refine z_iload_n hx dX9_takenIn_25 rfl 2 rfl ?_
          refine z_ishl hx dX9_takenIn_26 ?_
          rw [show shlI 1 v3 = (pw v3) from by exact shlI_' (by omega)]
          refine z_goto (tgt := 31) hx dX9_takenIn_27 (by decide) ?_
          refine z_ior hx dX9_takenIn_31 ?_
          rw [show orI v2 (pw v3) = (v2 + (pw v3)) from by exact orI_pw (by omega) (by omega)]
          refine z_istore_n hx dX9_takenIn_32 rfl (by decide) [1, 0, 2] (lv' := [(0, .ref a), (1, .int (iI (v2 + (pw v3)))), (2, .int (iI v3))]) rfl ?_
          refine z_iinc hx dX9_takenIn_33 (by decide) 2 rfl [1, 2, 0] (lv' := [(0, .ref a), (1, .int (iI (v2 + (pw v3)))), (2, .int (iI (v3 + 1)))]) rfl ?_
          refine z_goto (tgt := 4) hx dX9_takenIn_36 (by decide) ?_
          exact ih_2 _ _ (by omega) (by rw [msk_s _ (by omega), e2]; simp [*])  (by omega)
  exact hL_1 ((f 37 - 0) + 1).toNat _ _ (by omega) (by rfl)  (by omega)

set_option maxHeartbeats 4000000 in
set_option maxRecDepth 20000 in
theorem kX9_underAll (g : Gt) {h : AH} {a : Nat} {f : Int → Int}  (hA : h a = some (.inl (0, 267, f))) (hI : inv f) : CnI g mX9_underAll 1 [.ref a] h (una f) := by
  refine Cn.mk (by decide +kernel) (Nat.le_of_ble_eq_true rfl) ?_
  intro x sz hx hr
  show Zj g x (sz, 0, 0) h 0 [(0, .ref a)] []
  have hn := hI.n
  refine z_iconst hx dX9_underAll_0 ?_
  refine z_istore_n hx dX9_underAll_1 rfl (by decide) [1, 0] (lv' := [(0, .ref a), (1, .int (iI 0))]) rfl ?_
  refine z_iconst hx dX9_underAll_2 ?_
  refine z_istore_n hx dX9_underAll_3 rfl (by decide) [1, 2, 0] (lv' := [(0, .ref a), (1, .int (iI 0)), (2, .int (iI 0))]) rfl ?_
  have hL_1 : ∀ (mm : Nat) (v2 : Int) (v3 : Int), (0 ≤ v3 ∧ v3 ≤ f 37) → (v2 = cnI (fun p => f (17 + p) ≠ 0 ∧ f (17 + p) ≠ 6) v3) → f 37 - v3 < (mm : Int) → Zj g x (sz, 0, 0) h 4 [(0, .ref a), (1, .int (iI v2)), (2, .int (iI v3))] [] := by
    intro mm
    induction mm with
    | zero => intro v2 v3 e3 e2 hm; exfalso; omega
    | succ mm ih =>
      intro v2 v3 e3 e2 hm
      have ih_2 := ih; clear ih
      have hm := cnI_rg (fun p => f (17 + p) ≠ 0 ∧ f (17 + p) ≠ 6) (n := v3) (by omega)
      refine z_iload_n hx dX9_underAll_4 rfl 2 rfl ?_
      refine z_aload_n hx dX9_underAll_5 rfl 0 rfl ?_
      refine z_bipush hx dX9_underAll_6 (by decide) ?_
      refine z_iald hx dX9_underAll_8 hA (by decide) (by decide) ?_
      have rg_3 := hI.rg (37) (by decide)
      refine z_icmp_ge (tgt := 46) hx dX9_underAll_9 (by decide) (by omega) (by omega) (fun c_4 => ?_) (fun c_4 => ?_)
      ·
        have e9 : v3 = f 37 := by omega
        rw [e9] at e2
        refine z_iload_n hx dX9_underAll_46 rfl 1 rfl ?_
        refine z_iret hx hr dX9_underAll_47 rfl rfl (q_i (by simpa [una] using e2))
      ·
        have hp := hI.p v3 (by omega)
        refine z_iload_n hx dX9_underAll_12 rfl 1 rfl ?_
        refine z_aload_n hx dX9_underAll_13 rfl 0 rfl ?_
        refine z_bipush hx dX9_underAll_14 (by decide) ?_
        refine z_iload_n hx dX9_underAll_16 rfl 2 rfl ?_
        refine z_iadd hx dX9_underAll_17 ?_
        refine z_iald hx dX9_underAll_18 hA (by omega) (by decide) ?_
        have rg_5 := hI.rg ((17 + v3)) (by omega)
        refine z_if_eq (tgt := 37) hx dX9_underAll_19 (by decide) (by omega) (fun c_6 => ?_) (fun c_6 => ?_)
        ·
          refine z_iconst hx dX9_underAll_37 ?_
          refine z_iadd hx dX9_underAll_38 ?_
          refine z_istore_n hx dX9_underAll_39 rfl (by decide) [1, 0, 2] (lv' := [(0, .ref a), (1, .int (iI (v2 + 0))), (2, .int (iI v3))]) rfl ?_
          refine z_iinc hx dX9_underAll_40 (by decide) 2 rfl [1, 2, 0] (lv' := [(0, .ref a), (1, .int (iI (v2 + 0))), (2, .int (iI (v3 + 1)))]) rfl ?_
          refine z_goto (tgt := 4) hx dX9_underAll_43 (by decide) ?_
          exact ih_2 _ _ (by omega) (by rw [cnI_s _ (by omega), e2]; simp [*])  (by omega)
        ·
          refine z_aload_n hx dX9_underAll_22 rfl 0 rfl ?_
          refine z_bipush hx dX9_underAll_23 (by decide) ?_
          refine z_iload_n hx dX9_underAll_25 rfl 2 rfl ?_
          refine z_iadd hx dX9_underAll_26 ?_
          refine z_iald hx dX9_underAll_27 hA (by omega) (by decide) ?_
          have rg_7 := hI.rg ((17 + v3)) (by omega)
          refine z_bipush hx dX9_underAll_28 (by decide) ?_
          refine z_icmp_eq (tgt := 37) hx dX9_underAll_30 (by decide) (by omega) (by decide) (fun c_8 => ?_) (fun c_8 => ?_)
          ·
            refine z_iconst hx dX9_underAll_37 ?_
            refine z_iadd hx dX9_underAll_38 ?_
            refine z_istore_n hx dX9_underAll_39 rfl (by decide) [1, 0, 2] (lv' := [(0, .ref a), (1, .int (iI (v2 + 0))), (2, .int (iI v3))]) rfl ?_
            refine z_iinc hx dX9_underAll_40 (by decide) 2 rfl [1, 2, 0] (lv' := [(0, .ref a), (1, .int (iI (v2 + 0))), (2, .int (iI (v3 + 1)))]) rfl ?_
            refine z_goto (tgt := 4) hx dX9_underAll_43 (by decide) ?_
            exact ih_2 _ _ (by omega) (by rw [cnI_s _ (by omega), e2]; simp [*])  (by omega)
          ·
            refine z_iconst hx dX9_underAll_33 ?_
            refine z_goto (tgt := 38) hx dX9_underAll_34 (by decide) ?_
            refine z_iadd hx dX9_underAll_38 ?_
            refine z_istore_n hx dX9_underAll_39 rfl (by decide) [1, 0, 2] (lv' := [(0, .ref a), (1, .int (iI (v2 + 1))), (2, .int (iI v3))]) rfl ?_
            refine z_iinc hx dX9_underAll_40 (by decide) 2 rfl [1, 2, 0] (lv' := [(0, .ref a), (1, .int (iI (v2 + 1))), (2, .int (iI (v3 + 1)))]) rfl ?_
            refine z_goto (tgt := 4) hx dX9_underAll_43 (by decide) ?_
            exact ih_2 _ _ (by omega) (by rw [cnI_s _ (by omega), e2]; simp [*])  (by omega)
  exact hL_1 ((f 37 - 0) + 1).toNat _ _ (by omega) (by rfl)  (by omega)

set_option maxHeartbeats 4000000 in
set_option maxRecDepth 20000 in
theorem kX9_aboutIn (g : Gt) {h : AH} {a : Nat} {f : Int → Int} {p : Int} {w : Int} (hA : h a = some (.inl (0, 267, f))) (hI : inv f) (hp : 0 ≤ p ∧ p < 6) (hw : 0 ≤ w ∧ w ≤ 2) : CnI g mX9_aboutIn 1 [.ref a, .int (iI p), .int (iI w)] h (tel f p w) := by
  refine Cn.mk (by decide +kernel) (Nat.le_of_ble_eq_true rfl) ?_
  intro x sz hx hr
  show Zj g x (sz, 0, 0) h 0 [(0, .ref a), (1, .int (iI p)), (2, .int (iI w))] []
  have hn := hI.n
  have hp1 := hI.p p (by omega)
  refine z_aload_n hx dX9_aboutIn_0 rfl 0 rfl ?_
  refine z_bipush hx dX9_aboutIn_1 (by decide) ?_
  refine z_iload_n hx dX9_aboutIn_3 rfl 1 rfl ?_
  refine z_iadd hx dX9_aboutIn_4 ?_
  refine z_iald hx dX9_aboutIn_5 hA (by omega) (by decide) ?_
  have rg_1 := hI.rg ((17 + p)) (by omega)
  refine z_istore_n hx dX9_aboutIn_6 rfl (by decide) [1, 2, 3, 0] (lv' := [(0, .ref a), (1, .int (iI p)), (2, .int (iI w)), (3, .int (iI (f (17 + p))))]) rfl ?_
  refine z_iload_n hx dX9_aboutIn_7 rfl 2 rfl ?_
  refine z_if_ne (tgt := 20) hx dX9_aboutIn_8 (by decide) (by omega) (fun c_2 => ?_) (fun c_2 => ?_)
  ·
    refine z_iload_n hx dX9_aboutIn_20 rfl 2 rfl ?_
    refine z_iconst hx dX9_aboutIn_21 ?_
    refine z_icmp_ne (tgt := 39) hx dX9_aboutIn_22 (by decide) (by omega) (by decide) (fun c_3 => ?_) (fun c_3 => ?_)
    ·
      refine z_iload_n hx dX9_aboutIn_39 rfl 3 rfl ?_
      refine z_bipush hx dX9_aboutIn_40 (by decide) ?_
      refine z_icmp_ne (tgt := 49) hx dX9_aboutIn_42 (by decide) (by omega) (by decide) (fun c_4 => ?_) (fun c_4 => ?_)
      ·
        refine z_iload_n hx dX9_aboutIn_49 rfl 3 rfl ?_
        refine z_iconst hx dX9_aboutIn_50 ?_
        refine z_isub hx dX9_aboutIn_51 ?_
        refine z_iret hx hr dX9_aboutIn_52 rfl rfl (q_i (by unfold tel; (repeat' split) <;> omega))
      ·
        refine z_iconst hx dX9_aboutIn_45 ?_
        refine z_goto (tgt := 52) hx dX9_aboutIn_46 (by decide) ?_
        refine z_iret hx hr dX9_aboutIn_52 rfl rfl (q_i (by unfold tel; (repeat' split) <;> omega))
    ·
      refine z_iload_n hx dX9_aboutIn_25 rfl 3 rfl ?_
      refine z_bipush hx dX9_aboutIn_26 (by decide) ?_
      refine z_icmp_ne (tgt := 35) hx dX9_aboutIn_28 (by decide) (by omega) (by decide) (fun c_5 => ?_) (fun c_5 => ?_)
      ·
        refine z_iconst hx dX9_aboutIn_35 ?_
        refine z_goto (tgt := 52) hx dX9_aboutIn_36 (by decide) ?_
        refine z_iret hx hr dX9_aboutIn_52 rfl rfl (q_i (by unfold tel; (repeat' split) <;> omega))
      ·
        refine z_iconst hx dX9_aboutIn_31 ?_
        refine z_goto (tgt := 52) hx dX9_aboutIn_32 (by decide) ?_
        refine z_iret hx hr dX9_aboutIn_52 rfl rfl (q_i (by unfold tel; (repeat' split) <;> omega))
  ·
    refine z_aload_n hx dX9_aboutIn_11 rfl 0 rfl ?_
    refine z_bipush hx dX9_aboutIn_12 (by decide) ?_
    refine z_iload_n hx dX9_aboutIn_14 rfl 1 rfl ?_
    refine z_iadd hx dX9_aboutIn_15 ?_
    refine z_iald hx dX9_aboutIn_16 hA (by omega) (by decide) ?_
    have rg_6 := hI.rg ((11 + p)) (by omega)
    refine z_goto (tgt := 52) hx dX9_aboutIn_17 (by decide) ?_
    refine z_iret hx hr dX9_aboutIn_52 rfl rfl (q_i (by unfold tel; (repeat' split) <;> omega))

set_option maxHeartbeats 4000000 in
set_option maxRecDepth 20000 in
theorem kX9_bringTo (g : Gt) {h : AH} {a : Nat} {f : Int → Int} {k : Int} {c : Int} (hA : h a = some (.inl (0, 267, f))) (hI : inv f) (hk : 0 ≤ k ∧ k < f 26) (hc : 0 ≤ c ∧ c < 24) : CnV g mX9_bringTo 1 [.ref a, .int (iI k), .int (iI c)] h (QA h a 267 (brt f k c)) := by
  refine Cn.mk (by decide +kernel) (Nat.le_of_ble_eq_true rfl) ?_
  intro x sz hx hr
  show Zj g x (sz, 0, 0) h 0 [(0, .ref a), (1, .int (iI k)), (2, .int (iI c))] []
  have hn := hI.n
  refine z_aload_n hx dX9_bringTo_0 rfl 0 rfl ?_
  refine z_iconst hx dX9_bringTo_1 ?_
  refine z_iload_n hx dX9_bringTo_2 rfl 1 rfl ?_
  refine z_iadd hx dX9_bringTo_3 ?_
  refine z_iload_n hx dX9_bringTo_4 rfl 2 rfl ?_
  refine z_iastQ hx dX9_bringTo_5 hA (by omega) (by decide) (fun h_1 hs_2 hf_3 => ?_)
  have fr_4 : Fr h h_1 a 1 := hf_3.wd (by omega) (by omega)
  refine z_iconst hx dX9_bringTo_6 ?_
  refine z_istore_n hx dX9_bringTo_7 rfl (by decide) [1, 2, 3, 0] (lv' := [(0, .ref a), (1, .int (iI k)), (2, .int (iI c)), (3, .int (iI 0))]) rfl ?_
  have hL_5 : ∀ (mm : Nat) (v3 : Int) (g1 : Int → Int) (h_6 : AH), (0 ≤ v3 ∧ v3 ≤ f 37) → (g1 = itI v3 (brtG k c) (fup f (1 + k) c)) → (invR f g1) → (h_6 a = some (.inl (0, 267, g1))) → (Fr h h_6 a 1) → f 37 - v3 < (mm : Int) → Zj g x (sz, 0, 0) h_6 8 [(0, .ref a), (1, .int (iI k)), (2, .int (iI c)), (3, .int (iI v3))] [] := by
    intro mm
    induction mm with
    | zero => intro v3 g1 h_6 kv eg ig hg_7 fr_8 hm; exfalso; omega
    | succ mm ih =>
      intro v3 g1 h_6 kv eg ig hg_7 fr_8 hm
      have ih_9 := ih; clear ih
      have c37 := ig.2 37 (by decide)
      refine z_iload_n hx dX9_bringTo_8 rfl 3 rfl ?_
      refine z_aload_n hx dX9_bringTo_9 rfl 0 rfl ?_
      refine z_bipush hx dX9_bringTo_10 (by decide) ?_
      refine z_iald hx dX9_bringTo_12 hg_7 (by decide) (by decide) ?_
      have rg_10 := ig.rg (37) (by decide)
      refine z_icmp_ge (tgt := 50) hx dX9_bringTo_13 (by decide) (by omega) (by omega) (fun c_11 => ?_) (fun c_11 => ?_)
      ·
        refine z_vret hx hr dX9_bringTo_50 rfl (q_v ⟨ar_e (by rw [eg, show v3 = f 37 by omega]; rfl) hg_7, fr_8⟩)
      ·
        refine z_aload_n hx dX9_bringTo_16 rfl 0 rfl ?_
        refine z_bipush hx dX9_bringTo_17 (by decide) ?_
        refine z_iload_n hx dX9_bringTo_19 rfl 3 rfl ?_
        refine z_iadd hx dX9_bringTo_20 ?_
        refine z_aload_n hx dX9_bringTo_21 rfl 0 rfl ?_
        refine z_bipush hx dX9_bringTo_22 (by decide) ?_
        refine z_iload_n hx dX9_bringTo_24 rfl 3 rfl ?_
        refine z_iadd hx dX9_bringTo_25 ?_
        refine z_iald hx dX9_bringTo_26 hg_7 (by omega) (by decide) ?_
        have rg_12 := ig.rg ((17 + v3)) (by omega)
        refine z_iconst hx dX9_bringTo_27 ?_
        refine z_iload_n hx dX9_bringTo_28 rfl 1 rfl ?_
        refine z_iadd hx dX9_bringTo_29 ?_
        refine z_icmp_ne (tgt := 37) hx dX9_bringTo_30 (by decide) (by omega) (by omega) (fun c_13 => ?_) (fun c_13 => ?_)
        ·
          refine z_aload_n hx dX9_bringTo_37 rfl 0 rfl ?_
          refine z_bipush hx dX9_bringTo_38 (by decide) ?_
          refine z_iload_n hx dX9_bringTo_40 rfl 3 rfl ?_
          refine z_iadd hx dX9_bringTo_41 ?_
          refine z_iald hx dX9_bringTo_42 hg_7 (by omega) (by decide) ?_
          have rg_14 := ig.rg ((11 + v3)) (by omega)
          refine z_iastQ hx dX9_bringTo_43 hg_7 (by omega) (by decide) (fun h_15 hs_16 hf_17 => ?_)
          have fr_18 := fr_8.tr (hf_17.wd (by omega) (by omega))
          refine z_iinc hx dX9_bringTo_44 (by decide) 3 rfl [1, 2, 3, 0] (lv' := [(0, .ref a), (1, .int (iI k)), (2, .int (iI c)), (3, .int (iI (v3 + 1)))]) rfl ?_
          refine z_goto (tgt := 8) hx dX9_bringTo_47 (by decide) ?_
          have ec : (fup g1 (11 + v3) (g1 (11 + v3))) = brtG k c v3 g1 := by unfold brtG; first | rw [if_pos (by omega)] | rw [if_neg (by omega)]
          exact ih_9 _ (fup g1 (11 + v3) (g1 (11 + v3))) _ (by omega) (by rw [itI_s _ _ (by omega), ← eg]; exact ec) (by exact invR_fup ig (by omega) (by omega)) hs_16 fr_18 (by omega)
        ·
          refine z_iload_n hx dX9_bringTo_33 rfl 2 rfl ?_
          refine z_goto (tgt := 43) hx dX9_bringTo_34 (by decide) ?_
          refine z_iastQ hx dX9_bringTo_43 hg_7 (by omega) (by decide) (fun h_19 hs_20 hf_21 => ?_)
          have fr_22 := fr_8.tr (hf_21.wd (by omega) (by omega))
          refine z_iinc hx dX9_bringTo_44 (by decide) 3 rfl [1, 2, 3, 0] (lv' := [(0, .ref a), (1, .int (iI k)), (2, .int (iI c)), (3, .int (iI (v3 + 1)))]) rfl ?_
          refine z_goto (tgt := 8) hx dX9_bringTo_47 (by decide) ?_
          have ec : (fup g1 (11 + v3) c) = brtG k c v3 g1 := by unfold brtG; first | rw [if_pos (by omega)] | rw [if_neg (by omega)]
          exact ih_9 _ (fup g1 (11 + v3) c) _ (by omega) (by rw [itI_s _ _ (by omega), ← eg]; exact ec) (by exact invR_fup ig (by omega) (by omega)) hs_20 fr_22 (by omega)
  exact hL_5 ((f 37 - 0) + 1).toNat _ (fup f (1 + k) c) _ (by omega) (by rw [itI_0 _ _ rfl]) (by exact invR_fup ⟨hI.1, cfx.rf⟩ (by omega) (by omega)) hs_2 fr_4 (by omega)

set_option maxHeartbeats 4000000 in
set_option maxRecDepth 20000 in
theorem kX9_begin (g : Gt) {h : AH} {a : Nat} {f : Int → Int}  (hA : h a = some (.inl (0, 267, f))) : CnV g mX9_begin 1 [.ref a] h (QA h a 267 (beg f)) := by
  refine Cn.mk (by decide +kernel) (Nat.le_of_ble_eq_true rfl) ?_
  intro x sz hx hr
  show Zj g x (sz, 0, 0) h 0 [(0, .ref a)] []
  refine z_iconst hx dX9_begin_0 ?_
  refine z_istore_n hx dX9_begin_1 rfl (by decide) [1, 0] (lv' := [(0, .ref a), (1, .int (iI 0))]) rfl ?_
  have hL_1 : ∀ (mm : Nat) (v1 : Int) (g1 : Int → Int) (h_2 : AH), (0 ≤ v1 ∧ v1 ≤ 267) → (∀ j : Int, g1 j = if 0 ≤ j ∧ j < v1 then 0 else f j) → (h_2 a = some (.inl (0, 267, g1))) → (Fr h h_2 a 1) → (267 : Int) - v1 < (mm : Int) → Zj g x (sz, 0, 0) h_2 2 [(0, .ref a), (1, .int (iI v1))] [] := by
    intro mm
    induction mm with
    | zero => intro v1 g1 h_2 kv eg hg_3 fr_4 hm; exfalso; omega
    | succ mm ih =>
      intro v1 g1 h_2 kv eg hg_3 fr_4 hm
      have ih_5 := ih; clear ih
      refine z_iload_n hx dX9_begin_2 rfl 1 rfl ?_
      refine z_sipush hx dX9_begin_3 (by decide) ?_
      refine z_icmp_ge (tgt := 19) hx dX9_begin_6 (by decide) (by omega) (by decide) (fun c_6 => ?_) (fun c_6 => ?_)
      ·
        refine z_vret hx hr dX9_begin_19 rfl (q_v ⟨ar_e (by funext j; rw [eg j, show v1 = 267 by omega]; rfl) hg_3, fr_4⟩)
      ·
        refine z_aload_n hx dX9_begin_9 rfl 0 rfl ?_
        refine z_iload_n hx dX9_begin_10 rfl 1 rfl ?_
        refine z_iconst hx dX9_begin_11 ?_
        refine z_iastQ hx dX9_begin_12 hg_3 (by omega) (by decide) (fun h_7 hs_8 hf_9 => ?_)
        have fr_10 := fr_4.tr (hf_9.wd (by omega) (by omega))
        refine z_iinc hx dX9_begin_13 (by decide) 1 rfl [1, 0] (lv' := [(0, .ref a), (1, .int (iI (v1 + 1)))]) rfl ?_
        refine z_goto (tgt := 2) hx dX9_begin_16 (by decide) ?_
        exact ih_5 _ (fup g1 v1 0) _ (by omega) (by intro j; have e := eg j; unfold fup; by_cases c : j = v1; (rw [if_pos c, if_pos (by omega)]); (rw [if_neg c, e]; by_cases c2 : 0 ≤ j ∧ j < v1; (rw [if_pos c2, if_pos (by omega)]); (rw [if_neg c2, if_neg (by omega)]))) hs_8 fr_10 (by omega)
  exact hL_1 (((267 : Int) - 0) + 1).toNat _ f _ (by omega) (by intro j; rw [if_neg (by omega)]) hA Fr.rf (by omega)

set_option maxHeartbeats 4000000 in
set_option maxRecDepth 20000 in
theorem kX9_addCosy (g : Gt) {h : AH} {a : Nat} {f : Int → Int} {k : Int} {c : Int} {s : Int} (hA : h a = some (.inl (0, 267, f))) (hf : 0 ≤ f 26 ∧ f 26 < 5) : CnJ g mX9_addCosy 1 [.ref a, .int (iI k), .int (iI c), .int (iI s)] h (f 26) (QA h a 267 (acs f k c s)) := by
  refine Cn.mk (by decide +kernel) (Nat.le_of_ble_eq_true rfl) ?_
  intro x sz hx hr
  show Zj g x (sz, 0, 0) h 0 [(0, .ref a), (1, .int (iI k)), (2, .int (iI c)), (3, .int (iI s))] []
  refine z_aload_n hx dX9_addCosy_0 rfl 0 rfl ?_
  refine z_bipush hx dX9_addCosy_1 (by decide) ?_
  refine z_iald hx dX9_addCosy_3 hA (by decide) (by decide) ?_
  refine z_istore hx dX9_addCosy_4 (by decide) [1, 2, 3, 4, 0] (lv' := [(0, .ref a), (1, .int (iI k)), (2, .int (iI c)), (3, .int (iI s)), (4, .int (iI (f 26)))]) rfl ?_
  refine z_aload_n hx dX9_addCosy_6 rfl 0 rfl ?_
  refine z_bipush hx dX9_addCosy_7 (by decide) ?_
  refine z_iload hx dX9_addCosy_9 4 rfl ?_
  refine z_iadd hx dX9_addCosy_11 ?_
  refine z_iload_n hx dX9_addCosy_12 rfl 1 rfl ?_
  refine z_iastQ hx dX9_addCosy_13 hA (by omega) (by decide) (fun h_1 hs_2 hf_3 => ?_)
  have fr_4 : Fr h h_1 a 1 := hf_3.wd (by omega) (by omega)
  refine z_aload_n hx dX9_addCosy_14 rfl 0 rfl ?_
  refine z_iconst hx dX9_addCosy_15 ?_
  refine z_iload hx dX9_addCosy_16 4 rfl ?_
  refine z_iadd hx dX9_addCosy_18 ?_
  refine z_iload_n hx dX9_addCosy_19 rfl 2 rfl ?_
  refine z_iastQ hx dX9_addCosy_20 hs_2 (by omega) (by decide) (fun h_5 hs_6 hf_7 => ?_)
  have fr_8 := fr_4.tr (hf_7.wd (by omega) (by omega))
  refine z_aload_n hx dX9_addCosy_21 rfl 0 rfl ?_
  refine z_bipush hx dX9_addCosy_22 (by decide) ?_
  refine z_iload hx dX9_addCosy_24 4 rfl ?_
  refine z_iadd hx dX9_addCosy_26 ?_
  refine z_iload_n hx dX9_addCosy_27 rfl 3 rfl ?_
  refine z_iastQ hx dX9_addCosy_28 hs_6 (by omega) (by decide) (fun h_9 hs_10 hf_11 => ?_)
  have fr_12 := fr_8.tr (hf_11.wd (by omega) (by omega))
  refine z_aload_n hx dX9_addCosy_29 rfl 0 rfl ?_
  refine z_bipush hx dX9_addCosy_30 (by decide) ?_
  refine z_dup2 hx dX9_addCosy_32 rfl rfl ?_
  refine z_iald hx dX9_addCosy_33 hs_10 (by decide) (by decide) ?_
  refine z_iconst hx dX9_addCosy_34 ?_
  refine z_iadd hx dX9_addCosy_35 ?_
  refine z_iastQ hx dX9_addCosy_36 hs_10 (by decide) (by decide) (fun h_13 hs_14 hf_15 => ?_)
  have fr_16 := fr_12.tr (hf_15.wd (by omega) (by omega))
  refine z_iload hx dX9_addCosy_37 4 rfl ?_
  refine z_iret hx hr dX9_addCosy_39 rfl rfl (q_j (by rfl) ⟨ar_e (by funext j; unfold acs; simp only [fup]; (repeat' split) <;> first | rfl | omega) hs_14, fr_16⟩)

set_option maxHeartbeats 4000000 in
set_option maxRecDepth 20000 in
theorem kX9_addHunted (g : Gt) {h : AH} {a : Nat} {f : Int → Int} {c : Int} (hA : h a = some (.inl (0, 267, f))) (hf : 0 ≤ f 37 ∧ f 37 < 6) : CnJ g mX9_addHunted 1 [.ref a, .int (iI c)] h (f 37) (QA h a 267 (ahu f c)) := by
  refine Cn.mk (by decide +kernel) (Nat.le_of_ble_eq_true rfl) ?_
  intro x sz hx hr
  show Zj g x (sz, 0, 0) h 0 [(0, .ref a), (1, .int (iI c))] []
  refine z_aload_n hx dX9_addHunted_0 rfl 0 rfl ?_
  refine z_bipush hx dX9_addHunted_1 (by decide) ?_
  refine z_iald hx dX9_addHunted_3 hA (by decide) (by decide) ?_
  refine z_istore_n hx dX9_addHunted_4 rfl (by decide) [1, 2, 0] (lv' := [(0, .ref a), (1, .int (iI c)), (2, .int (iI (f 37)))]) rfl ?_
  refine z_aload_n hx dX9_addHunted_5 rfl 0 rfl ?_
  refine z_bipush hx dX9_addHunted_6 (by decide) ?_
  refine z_iload_n hx dX9_addHunted_8 rfl 2 rfl ?_
  refine z_iadd hx dX9_addHunted_9 ?_
  refine z_iload_n hx dX9_addHunted_10 rfl 1 rfl ?_
  refine z_iastQ hx dX9_addHunted_11 hA (by omega) (by decide) (fun h_1 hs_2 hf_3 => ?_)
  have fr_4 : Fr h h_1 a 1 := hf_3.wd (by omega) (by omega)
  refine z_aload_n hx dX9_addHunted_12 rfl 0 rfl ?_
  refine z_bipush hx dX9_addHunted_13 (by decide) ?_
  refine z_dup2 hx dX9_addHunted_15 rfl rfl ?_
  refine z_iald hx dX9_addHunted_16 hs_2 (by decide) (by decide) ?_
  refine z_iconst hx dX9_addHunted_17 ?_
  refine z_iadd hx dX9_addHunted_18 ?_
  refine z_iastQ hx dX9_addHunted_19 hs_2 (by decide) (by decide) (fun h_5 hs_6 hf_7 => ?_)
  have fr_8 := fr_4.tr (hf_7.wd (by omega) (by omega))
  refine z_iload_n hx dX9_addHunted_20 rfl 2 rfl ?_
  refine z_iret hx hr dX9_addHunted_21 rfl rfl (q_j (by rfl) ⟨ar_e (by funext j; unfold ahu; simp only [fup]; (repeat' split) <;> first | rfl | omega) hs_6, fr_8⟩)

set_option maxHeartbeats 4000000 in
set_option maxRecDepth 20000 in
theorem kX9_addSheriff (g : Gt) {h : AH} {a : Nat} {f : Int → Int} {c : Int} (hA : h a = some (.inl (0, 267, f))) (hf : 0 ≤ f 38 ∧ f 38 < 3) : CnJ g mX9_addSheriff 1 [.ref a, .int (iI c)] h (f 38) (QA h a 267 (ash f c)) := by
  refine Cn.mk (by decide +kernel) (Nat.le_of_ble_eq_true rfl) ?_
  intro x sz hx hr
  show Zj g x (sz, 0, 0) h 0 [(0, .ref a), (1, .int (iI c))] []
  refine z_aload_n hx dX9_addSheriff_0 rfl 0 rfl ?_
  refine z_bipush hx dX9_addSheriff_1 (by decide) ?_
  refine z_iald hx dX9_addSheriff_3 hA (by decide) (by decide) ?_
  refine z_istore_n hx dX9_addSheriff_4 rfl (by decide) [1, 2, 0] (lv' := [(0, .ref a), (1, .int (iI c)), (2, .int (iI (f 38)))]) rfl ?_
  refine z_aload_n hx dX9_addSheriff_5 rfl 0 rfl ?_
  refine z_bipush hx dX9_addSheriff_6 (by decide) ?_
  refine z_iload_n hx dX9_addSheriff_8 rfl 2 rfl ?_
  refine z_iadd hx dX9_addSheriff_9 ?_
  refine z_iload_n hx dX9_addSheriff_10 rfl 1 rfl ?_
  refine z_iastQ hx dX9_addSheriff_11 hA (by omega) (by decide) (fun h_1 hs_2 hf_3 => ?_)
  have fr_4 : Fr h h_1 a 1 := hf_3.wd (by omega) (by omega)
  refine z_aload_n hx dX9_addSheriff_12 rfl 0 rfl ?_
  refine z_bipush hx dX9_addSheriff_13 (by decide) ?_
  refine z_dup2 hx dX9_addSheriff_15 rfl rfl ?_
  refine z_iald hx dX9_addSheriff_16 hs_2 (by decide) (by decide) ?_
  refine z_iconst hx dX9_addSheriff_17 ?_
  refine z_iadd hx dX9_addSheriff_18 ?_
  refine z_iastQ hx dX9_addSheriff_19 hs_2 (by decide) (by decide) (fun h_5 hs_6 hf_7 => ?_)
  have fr_8 := fr_4.tr (hf_7.wd (by omega) (by omega))
  refine z_iload_n hx dX9_addSheriff_20 rfl 2 rfl ?_
  refine z_iret hx hr dX9_addSheriff_21 rfl rfl (q_j (by rfl) ⟨ar_e (by funext j; unfold ash; simp only [fup]; (repeat' split) <;> first | rfl | omega) hs_6, fr_8⟩)

set_option maxHeartbeats 4000000 in
set_option maxRecDepth 20000 in
theorem kX9_chooses_0 (g : Gt) {h : AH} {a : Nat} {f : Int → Int} {p : Int} (hA : h a = some (.inl (0, 267, f))) (hI : inv f) (hp : 0 ≤ p ∧ p < f 37) : CnJ g mX9_chooses 4 [.ref a, .int (iI p), .int (iI 0)] h (b2i (vld f p 0)) (QA h a 267 (if vld f p 0 then cho f p 0 else f)) := by
  refine Cn.mk (by decide +kernel) (Nat.le_of_ble_eq_true rfl) ?_
  intro x sz hx hr
  show Zj g x (sz, 0, 0) h 0 [(0, .ref a), (1, .int (iI p)), (2, .int (iI 0))] []
  have hn := hI.n
  have hp1 := hI.p p (by omega)
  have hgr := gol_rg (f := f) (p := p) (n := f 26) (by omega)
  have hge : goal f p = itI (f 26) (golG f p) (-1) := rfl
  refine z_aload_n hx dX9_chooses_0 rfl 0 rfl ?_
  refine z_bipush hx dX9_chooses_1 (by decide) ?_
  refine z_iload_n hx dX9_chooses_3 rfl 1 rfl ?_
  refine z_iadd hx dX9_chooses_4 ?_
  refine z_iald hx dX9_chooses_5 hA (by omega) (by decide) ?_
  have rg_1 := hI.rg ((11 + p)) (by omega)
  refine z_istore_n hx dX9_chooses_6 rfl (by decide) [1, 2, 3, 0] (lv' := [(0, .ref a), (1, .int (iI p)), (2, .int (iI 0)), (3, .int (iI (f (11 + p))))]) rfl ?_
  refine z_iload_n hx dX9_chooses_7 rfl 3 rfl ?_
  refine z_bipush hx dX9_chooses_8 (by decide) ?_
  refine z_idiv hx dX9_chooses_10 (by omega) (by decide) ?_
  refine z_iload_n hx dX9_chooses_11 rfl 2 rfl ?_
  refine z_iconst hx dX9_chooses_12 ?_
  refine z_icmp_ne (tgt := 20) hx dX9_chooses_13 (by decide) (by decide) (by decide) (fun _ => ?_) (fun q => absurd q (by decide))
  refine z_iload_n hx dX9_chooses_20 rfl 2 rfl ?_
  refine z_iconst hx dX9_chooses_21 ?_
  refine z_icmp_ne (tgt := 29) hx dX9_chooses_22 (by decide) (by decide) (by decide) (fun _ => ?_) (fun q => absurd q (by decide))
  refine z_iconst hx dX9_chooses_29 ?_
  refine z_iadd hx dX9_chooses_30 ?_
  refine z_istore hx dX9_chooses_31 (by decide) [1, 2, 3, 4, 0] (lv' := [(0, .ref a), (1, .int (iI p)), (2, .int (iI 0)), (3, .int (iI (f (11 + p)))), (4, .int (iI (((f (11 + p)) / 6) + 0)))]) rfl ?_
  refine z_iload_n hx dX9_chooses_33 rfl 3 rfl ?_
  refine z_bipush hx dX9_chooses_34 (by decide) ?_
  refine z_irem hx dX9_chooses_36 (by omega) (by decide) ?_
  refine z_iload_n hx dX9_chooses_37 rfl 2 rfl ?_
  refine z_if_ne (tgt := 45) hx dX9_chooses_38 (by decide) (by decide) (fun q => absurd q (by decide)) (fun _ => ?_)
  refine z_iconst hx dX9_chooses_41 ?_
  refine z_goto (tgt := 55) hx dX9_chooses_42 (by decide) ?_
  refine z_iadd hx dX9_chooses_55 ?_
  refine z_istore hx dX9_chooses_56 (by decide) [1, 2, 3, 4, 5, 0] (lv' := [(0, .ref a), (1, .int (iI p)), (2, .int (iI 0)), (3, .int (iI (f (11 + p)))), (4, .int (iI (((f (11 + p)) / 6) + 0))), (5, .int (iI (((f (11 + p)) % 6) + 1)))]) rfl ?_
  refine z_iload hx dX9_chooses_58 4 rfl ?_
  refine z_iconst hx dX9_chooses_60 ?_
  refine z_iconst hx dX9_chooses_61 ?_
  refine z_cSI (as := [.int (iI (((f (11 + p)) / 6) + 0)), .int (iI 0), .int (iI 3)]) (rest := []) hx dX9_chooses_62 lk_X9_43 wt_X9_in mo_X9_in (kX9_in g (a := (((f (11 + p)) / 6) + 0)) (b := 0) (c := 3) (by omega) (by omega) (by omega)) (by decide) rfl rfl (Nat.le_of_ble_eq_true rfl) ?_
  refine z_ifeq_b (tgt := 78) hx dX9_chooses_65 (by decide)  (fun c_5 => ?_) (fun c_5 => ?_)
  ·
    refine z_iconst hx dX9_chooses_78 ?_
    refine z_iret hx hr dX9_chooses_79 rfl rfl (q_j (by unfold b2i; first | (rw [if_neg (by rw [vld_0 hp1.1.1]; omega)]) | (rw [if_pos (by rw [vld_0 hp1.1.1]; omega)])) ⟨ar_e (by first | (rw [if_neg (by rw [vld_0 hp1.1.1]; omega)]) | (rw [if_pos (by rw [vld_0 hp1.1.1]; omega)]; unfold cho; rw [if_neg (by decide)]; rw [bsd_0 (by omega)]; congr 1; omega)) hA, Fr.rf⟩)
  ·
    refine z_iload hx dX9_chooses_68 5 rfl ?_
    refine z_iconst hx dX9_chooses_70 ?_
    refine z_iconst hx dX9_chooses_71 ?_
    refine z_cSI (as := [.int (iI (((f (11 + p)) % 6) + 1)), .int (iI 0), .int (iI 5)]) (rest := []) hx dX9_chooses_72 lk_X9_43 wt_X9_in mo_X9_in (kX9_in g (a := (((f (11 + p)) % 6) + 1)) (b := 0) (c := 5) (by omega) (by omega) (by omega)) (by decide) rfl rfl (Nat.le_of_ble_eq_true rfl) ?_
    refine z_ifne_b (tgt := 80) hx dX9_chooses_75 (by decide)  (fun c_6 => ?_) (fun c_6 => ?_)
    ·
      refine z_iload_n hx dX9_chooses_80 rfl 2 rfl ?_
      refine z_iconst hx dX9_chooses_81 ?_
      refine z_icmp_ne (tgt := 127) hx dX9_chooses_82 (by decide) (by decide) (by decide) (fun _ => ?_) (fun q => absurd q (by decide))
      refine z_aload_n hx dX9_chooses_127 rfl 0 rfl ?_
      refine z_bipush hx dX9_chooses_128 (by decide) ?_
      refine z_iload_n hx dX9_chooses_130 rfl 1 rfl ?_
      refine z_iadd hx dX9_chooses_131 ?_
      refine z_bipush hx dX9_chooses_132 (by decide) ?_
      refine z_iload hx dX9_chooses_134 4 rfl ?_
      refine z_imul hx dX9_chooses_136 ?_
      refine z_iload hx dX9_chooses_137 5 rfl ?_
      refine z_iadd hx dX9_chooses_139 ?_
      refine z_iastQ hx dX9_chooses_140 hA (by omega) (by decide) (fun h_8 hs_9 hf_10 => ?_)
      have fr_11 : Fr h h_8 a 1 := hf_10.wd (by omega) (by omega)
      refine z_iconst hx dX9_chooses_141 ?_
      refine z_iret hx hr dX9_chooses_142 rfl rfl (q_j (by unfold b2i; first | (rw [if_neg (by rw [vld_0 hp1.1.1]; omega)]) | (rw [if_pos (by rw [vld_0 hp1.1.1]; omega)])) ⟨ar_e (by first | (rw [if_neg (by rw [vld_0 hp1.1.1]; omega)]) | (rw [if_pos (by rw [vld_0 hp1.1.1]; omega)]; unfold cho; rw [if_neg (by decide)]; rw [bsd_0 (by omega)]; congr 1; omega)) hs_9, fr_11⟩)
    ·
      refine z_iconst hx dX9_chooses_78 ?_
      refine z_iret hx hr dX9_chooses_79 rfl rfl (q_j (by unfold b2i; first | (rw [if_neg (by rw [vld_0 hp1.1.1]; omega)]) | (rw [if_pos (by rw [vld_0 hp1.1.1]; omega)])) ⟨ar_e (by first | (rw [if_neg (by rw [vld_0 hp1.1.1]; omega)]) | (rw [if_pos (by rw [vld_0 hp1.1.1]; omega)]; unfold cho; rw [if_neg (by decide)]; rw [bsd_0 (by omega)]; congr 1; omega)) hA, Fr.rf⟩)

set_option maxHeartbeats 4000000 in
set_option maxRecDepth 20000 in
theorem kX9_chooses_1 (g : Gt) {h : AH} {a : Nat} {f : Int → Int} {p : Int} (hA : h a = some (.inl (0, 267, f))) (hI : inv f) (hp : 0 ≤ p ∧ p < f 37) : CnJ g mX9_chooses 4 [.ref a, .int (iI p), .int (iI 1)] h (b2i (vld f p 1)) (QA h a 267 (if vld f p 1 then cho f p 1 else f)) := by
  refine Cn.mk (by decide +kernel) (Nat.le_of_ble_eq_true rfl) ?_
  intro x sz hx hr
  show Zj g x (sz, 0, 0) h 0 [(0, .ref a), (1, .int (iI p)), (2, .int (iI 1))] []
  have hn := hI.n
  have hp1 := hI.p p (by omega)
  have hgr := gol_rg (f := f) (p := p) (n := f 26) (by omega)
  have hge : goal f p = itI (f 26) (golG f p) (-1) := rfl
  refine z_aload_n hx dX9_chooses_0 rfl 0 rfl ?_
  refine z_bipush hx dX9_chooses_1 (by decide) ?_
  refine z_iload_n hx dX9_chooses_3 rfl 1 rfl ?_
  refine z_iadd hx dX9_chooses_4 ?_
  refine z_iald hx dX9_chooses_5 hA (by omega) (by decide) ?_
  have rg_1 := hI.rg ((11 + p)) (by omega)
  refine z_istore_n hx dX9_chooses_6 rfl (by decide) [1, 2, 3, 0] (lv' := [(0, .ref a), (1, .int (iI p)), (2, .int (iI 1)), (3, .int (iI (f (11 + p))))]) rfl ?_
  refine z_iload_n hx dX9_chooses_7 rfl 3 rfl ?_
  refine z_bipush hx dX9_chooses_8 (by decide) ?_
  refine z_idiv hx dX9_chooses_10 (by omega) (by decide) ?_
  refine z_iload_n hx dX9_chooses_11 rfl 2 rfl ?_
  refine z_iconst hx dX9_chooses_12 ?_
  refine z_icmp_ne (tgt := 20) hx dX9_chooses_13 (by decide) (by decide) (by decide) (fun q => absurd q (by decide)) (fun _ => ?_)
  refine z_iconst hx dX9_chooses_16 ?_
  refine z_goto (tgt := 30) hx dX9_chooses_17 (by decide) ?_
  refine z_iadd hx dX9_chooses_30 ?_
  refine z_istore hx dX9_chooses_31 (by decide) [1, 2, 3, 4, 0] (lv' := [(0, .ref a), (1, .int (iI p)), (2, .int (iI 1)), (3, .int (iI (f (11 + p)))), (4, .int (iI (((f (11 + p)) / 6) + 1)))]) rfl ?_
  refine z_iload_n hx dX9_chooses_33 rfl 3 rfl ?_
  refine z_bipush hx dX9_chooses_34 (by decide) ?_
  refine z_irem hx dX9_chooses_36 (by omega) (by decide) ?_
  refine z_iload_n hx dX9_chooses_37 rfl 2 rfl ?_
  refine z_if_ne (tgt := 45) hx dX9_chooses_38 (by decide) (by decide) (fun _ => ?_) (fun q => absurd q (by decide))
  refine z_iload_n hx dX9_chooses_45 rfl 2 rfl ?_
  refine z_iconst hx dX9_chooses_46 ?_
  refine z_icmp_ne (tgt := 54) hx dX9_chooses_47 (by decide) (by decide) (by decide) (fun _ => ?_) (fun q => absurd q (by decide))
  refine z_iconst hx dX9_chooses_54 ?_
  refine z_iadd hx dX9_chooses_55 ?_
  refine z_istore hx dX9_chooses_56 (by decide) [1, 2, 3, 4, 5, 0] (lv' := [(0, .ref a), (1, .int (iI p)), (2, .int (iI 1)), (3, .int (iI (f (11 + p)))), (4, .int (iI (((f (11 + p)) / 6) + 1))), (5, .int (iI (((f (11 + p)) % 6) + 0)))]) rfl ?_
  refine z_iload hx dX9_chooses_58 4 rfl ?_
  refine z_iconst hx dX9_chooses_60 ?_
  refine z_iconst hx dX9_chooses_61 ?_
  refine z_cSI (as := [.int (iI (((f (11 + p)) / 6) + 1)), .int (iI 0), .int (iI 3)]) (rest := []) hx dX9_chooses_62 lk_X9_43 wt_X9_in mo_X9_in (kX9_in g (a := (((f (11 + p)) / 6) + 1)) (b := 0) (c := 3) (by omega) (by omega) (by omega)) (by decide) rfl rfl (Nat.le_of_ble_eq_true rfl) ?_
  refine z_ifeq_b (tgt := 78) hx dX9_chooses_65 (by decide)  (fun c_5 => ?_) (fun c_5 => ?_)
  ·
    refine z_iconst hx dX9_chooses_78 ?_
    refine z_iret hx hr dX9_chooses_79 rfl rfl (q_j (by unfold b2i; first | (rw [if_neg (by rw [vld_1 hp1.1.1]; omega)]) | (rw [if_pos (by rw [vld_1 hp1.1.1]; omega)])) ⟨ar_e (by first | (rw [if_neg (by rw [vld_1 hp1.1.1]; omega)]) | (rw [if_pos (by rw [vld_1 hp1.1.1]; omega)]; unfold cho; rw [if_neg (by decide)]; rw [bsd_1 (by omega)]; congr 1; omega)) hA, Fr.rf⟩)
  ·
    refine z_iload hx dX9_chooses_68 5 rfl ?_
    refine z_iconst hx dX9_chooses_70 ?_
    refine z_iconst hx dX9_chooses_71 ?_
    refine z_cSI (as := [.int (iI (((f (11 + p)) % 6) + 0)), .int (iI 0), .int (iI 5)]) (rest := []) hx dX9_chooses_72 lk_X9_43 wt_X9_in mo_X9_in (kX9_in g (a := (((f (11 + p)) % 6) + 0)) (b := 0) (c := 5) (by omega) (by omega) (by omega)) (by decide) rfl rfl (Nat.le_of_ble_eq_true rfl) ?_
    refine z_ifne_b (tgt := 80) hx dX9_chooses_75 (by decide)  (fun c_6 => ?_) (fun c_6 => ?_)
    ·
      refine z_iload_n hx dX9_chooses_80 rfl 2 rfl ?_
      refine z_iconst hx dX9_chooses_81 ?_
      refine z_icmp_ne (tgt := 127) hx dX9_chooses_82 (by decide) (by decide) (by decide) (fun _ => ?_) (fun q => absurd q (by decide))
      refine z_aload_n hx dX9_chooses_127 rfl 0 rfl ?_
      refine z_bipush hx dX9_chooses_128 (by decide) ?_
      refine z_iload_n hx dX9_chooses_130 rfl 1 rfl ?_
      refine z_iadd hx dX9_chooses_131 ?_
      refine z_bipush hx dX9_chooses_132 (by decide) ?_
      refine z_iload hx dX9_chooses_134 4 rfl ?_
      refine z_imul hx dX9_chooses_136 ?_
      refine z_iload hx dX9_chooses_137 5 rfl ?_
      refine z_iadd hx dX9_chooses_139 ?_
      refine z_iastQ hx dX9_chooses_140 hA (by omega) (by decide) (fun h_8 hs_9 hf_10 => ?_)
      have fr_11 : Fr h h_8 a 1 := hf_10.wd (by omega) (by omega)
      refine z_iconst hx dX9_chooses_141 ?_
      refine z_iret hx hr dX9_chooses_142 rfl rfl (q_j (by unfold b2i; first | (rw [if_neg (by rw [vld_1 hp1.1.1]; omega)]) | (rw [if_pos (by rw [vld_1 hp1.1.1]; omega)])) ⟨ar_e (by first | (rw [if_neg (by rw [vld_1 hp1.1.1]; omega)]) | (rw [if_pos (by rw [vld_1 hp1.1.1]; omega)]; unfold cho; rw [if_neg (by decide)]; rw [bsd_1 (by omega)]; congr 1; omega)) hs_9, fr_11⟩)
    ·
      refine z_iconst hx dX9_chooses_78 ?_
      refine z_iret hx hr dX9_chooses_79 rfl rfl (q_j (by unfold b2i; first | (rw [if_neg (by rw [vld_1 hp1.1.1]; omega)]) | (rw [if_pos (by rw [vld_1 hp1.1.1]; omega)])) ⟨ar_e (by first | (rw [if_neg (by rw [vld_1 hp1.1.1]; omega)]) | (rw [if_pos (by rw [vld_1 hp1.1.1]; omega)]; unfold cho; rw [if_neg (by decide)]; rw [bsd_1 (by omega)]; congr 1; omega)) hA, Fr.rf⟩)

set_option maxHeartbeats 4000000 in
set_option maxRecDepth 20000 in
theorem kX9_chooses_2 (g : Gt) {h : AH} {a : Nat} {f : Int → Int} {p : Int} (hA : h a = some (.inl (0, 267, f))) (hI : inv f) (hp : 0 ≤ p ∧ p < f 37) : CnJ g mX9_chooses 4 [.ref a, .int (iI p), .int (iI 2)] h (b2i (vld f p 2)) (QA h a 267 (if vld f p 2 then cho f p 2 else f)) := by
  refine Cn.mk (by decide +kernel) (Nat.le_of_ble_eq_true rfl) ?_
  intro x sz hx hr
  show Zj g x (sz, 0, 0) h 0 [(0, .ref a), (1, .int (iI p)), (2, .int (iI 2))] []
  have hn := hI.n
  have hp1 := hI.p p (by omega)
  have hgr := gol_rg (f := f) (p := p) (n := f 26) (by omega)
  have hge : goal f p = itI (f 26) (golG f p) (-1) := rfl
  refine z_aload_n hx dX9_chooses_0 rfl 0 rfl ?_
  refine z_bipush hx dX9_chooses_1 (by decide) ?_
  refine z_iload_n hx dX9_chooses_3 rfl 1 rfl ?_
  refine z_iadd hx dX9_chooses_4 ?_
  refine z_iald hx dX9_chooses_5 hA (by omega) (by decide) ?_
  have rg_1 := hI.rg ((11 + p)) (by omega)
  refine z_istore_n hx dX9_chooses_6 rfl (by decide) [1, 2, 3, 0] (lv' := [(0, .ref a), (1, .int (iI p)), (2, .int (iI 2)), (3, .int (iI (f (11 + p))))]) rfl ?_
  refine z_iload_n hx dX9_chooses_7 rfl 3 rfl ?_
  refine z_bipush hx dX9_chooses_8 (by decide) ?_
  refine z_idiv hx dX9_chooses_10 (by omega) (by decide) ?_
  refine z_iload_n hx dX9_chooses_11 rfl 2 rfl ?_
  refine z_iconst hx dX9_chooses_12 ?_
  refine z_icmp_ne (tgt := 20) hx dX9_chooses_13 (by decide) (by decide) (by decide) (fun _ => ?_) (fun q => absurd q (by decide))
  refine z_iload_n hx dX9_chooses_20 rfl 2 rfl ?_
  refine z_iconst hx dX9_chooses_21 ?_
  refine z_icmp_ne (tgt := 29) hx dX9_chooses_22 (by decide) (by decide) (by decide) (fun _ => ?_) (fun q => absurd q (by decide))
  refine z_iconst hx dX9_chooses_29 ?_
  refine z_iadd hx dX9_chooses_30 ?_
  refine z_istore hx dX9_chooses_31 (by decide) [1, 2, 3, 4, 0] (lv' := [(0, .ref a), (1, .int (iI p)), (2, .int (iI 2)), (3, .int (iI (f (11 + p)))), (4, .int (iI (((f (11 + p)) / 6) + 0)))]) rfl ?_
  refine z_iload_n hx dX9_chooses_33 rfl 3 rfl ?_
  refine z_bipush hx dX9_chooses_34 (by decide) ?_
  refine z_irem hx dX9_chooses_36 (by omega) (by decide) ?_
  refine z_iload_n hx dX9_chooses_37 rfl 2 rfl ?_
  refine z_if_ne (tgt := 45) hx dX9_chooses_38 (by decide) (by decide) (fun _ => ?_) (fun q => absurd q (by decide))
  refine z_iload_n hx dX9_chooses_45 rfl 2 rfl ?_
  refine z_iconst hx dX9_chooses_46 ?_
  refine z_icmp_ne (tgt := 54) hx dX9_chooses_47 (by decide) (by decide) (by decide) (fun q => absurd q (by decide)) (fun _ => ?_)
  refine z_iconst hx dX9_chooses_50 ?_
  refine z_goto (tgt := 55) hx dX9_chooses_51 (by decide) ?_
  refine z_iadd hx dX9_chooses_55 ?_
  refine z_istore hx dX9_chooses_56 (by decide) [1, 2, 3, 4, 5, 0] (lv' := [(0, .ref a), (1, .int (iI p)), (2, .int (iI 2)), (3, .int (iI (f (11 + p)))), (4, .int (iI (((f (11 + p)) / 6) + 0))), (5, .int (iI (((f (11 + p)) % 6) + (-1))))]) rfl ?_
  refine z_iload hx dX9_chooses_58 4 rfl ?_
  refine z_iconst hx dX9_chooses_60 ?_
  refine z_iconst hx dX9_chooses_61 ?_
  refine z_cSI (as := [.int (iI (((f (11 + p)) / 6) + 0)), .int (iI 0), .int (iI 3)]) (rest := []) hx dX9_chooses_62 lk_X9_43 wt_X9_in mo_X9_in (kX9_in g (a := (((f (11 + p)) / 6) + 0)) (b := 0) (c := 3) (by omega) (by omega) (by omega)) (by decide) rfl rfl (Nat.le_of_ble_eq_true rfl) ?_
  refine z_ifeq_b (tgt := 78) hx dX9_chooses_65 (by decide)  (fun c_6 => ?_) (fun c_6 => ?_)
  ·
    refine z_iconst hx dX9_chooses_78 ?_
    refine z_iret hx hr dX9_chooses_79 rfl rfl (q_j (by unfold b2i; first | (rw [if_neg (by rw [vld_2 hp1.1.1]; omega)]) | (rw [if_pos (by rw [vld_2 hp1.1.1]; omega)])) ⟨ar_e (by first | (rw [if_neg (by rw [vld_2 hp1.1.1]; omega)]) | (rw [if_pos (by rw [vld_2 hp1.1.1]; omega)]; unfold cho; rw [if_neg (by decide)]; rw [bsd_2 (by omega)]; congr 1; omega)) hA, Fr.rf⟩)
  ·
    refine z_iload hx dX9_chooses_68 5 rfl ?_
    refine z_iconst hx dX9_chooses_70 ?_
    refine z_iconst hx dX9_chooses_71 ?_
    refine z_cSI (as := [.int (iI (((f (11 + p)) % 6) + (-1))), .int (iI 0), .int (iI 5)]) (rest := []) hx dX9_chooses_72 lk_X9_43 wt_X9_in mo_X9_in (kX9_in g (a := (((f (11 + p)) % 6) + (-1))) (b := 0) (c := 5) (by omega) (by omega) (by omega)) (by decide) rfl rfl (Nat.le_of_ble_eq_true rfl) ?_
    refine z_ifne_b (tgt := 80) hx dX9_chooses_75 (by decide)  (fun c_7 => ?_) (fun c_7 => ?_)
    ·
      refine z_iload_n hx dX9_chooses_80 rfl 2 rfl ?_
      refine z_iconst hx dX9_chooses_81 ?_
      refine z_icmp_ne (tgt := 127) hx dX9_chooses_82 (by decide) (by decide) (by decide) (fun _ => ?_) (fun q => absurd q (by decide))
      refine z_aload_n hx dX9_chooses_127 rfl 0 rfl ?_
      refine z_bipush hx dX9_chooses_128 (by decide) ?_
      refine z_iload_n hx dX9_chooses_130 rfl 1 rfl ?_
      refine z_iadd hx dX9_chooses_131 ?_
      refine z_bipush hx dX9_chooses_132 (by decide) ?_
      refine z_iload hx dX9_chooses_134 4 rfl ?_
      refine z_imul hx dX9_chooses_136 ?_
      refine z_iload hx dX9_chooses_137 5 rfl ?_
      refine z_iadd hx dX9_chooses_139 ?_
      refine z_iastQ hx dX9_chooses_140 hA (by omega) (by decide) (fun h_9 hs_10 hf_11 => ?_)
      have fr_12 : Fr h h_9 a 1 := hf_11.wd (by omega) (by omega)
      refine z_iconst hx dX9_chooses_141 ?_
      refine z_iret hx hr dX9_chooses_142 rfl rfl (q_j (by unfold b2i; first | (rw [if_neg (by rw [vld_2 hp1.1.1]; omega)]) | (rw [if_pos (by rw [vld_2 hp1.1.1]; omega)])) ⟨ar_e (by first | (rw [if_neg (by rw [vld_2 hp1.1.1]; omega)]) | (rw [if_pos (by rw [vld_2 hp1.1.1]; omega)]; unfold cho; rw [if_neg (by decide)]; rw [bsd_2 (by omega)]; congr 1; omega)) hs_10, fr_12⟩)
    ·
      refine z_iconst hx dX9_chooses_78 ?_
      refine z_iret hx hr dX9_chooses_79 rfl rfl (q_j (by unfold b2i; first | (rw [if_neg (by rw [vld_2 hp1.1.1]; omega)]) | (rw [if_pos (by rw [vld_2 hp1.1.1]; omega)])) ⟨ar_e (by first | (rw [if_neg (by rw [vld_2 hp1.1.1]; omega)]) | (rw [if_pos (by rw [vld_2 hp1.1.1]; omega)]; unfold cho; rw [if_neg (by decide)]; rw [bsd_2 (by omega)]; congr 1; omega)) hA, Fr.rf⟩)

set_option maxHeartbeats 4000000 in
set_option maxRecDepth 20000 in
theorem kX9_chooses_3 (g : Gt) {h : AH} {a : Nat} {f : Int → Int} {p : Int} (hA : h a = some (.inl (0, 267, f))) (hI : inv f) (hp : 0 ≤ p ∧ p < f 37) : CnJ g mX9_chooses 4 [.ref a, .int (iI p), .int (iI 3)] h (b2i (vld f p 3)) (QA h a 267 (if vld f p 3 then cho f p 3 else f)) := by
  refine Cn.mk (by decide +kernel) (Nat.le_of_ble_eq_true rfl) ?_
  intro x sz hx hr
  show Zj g x (sz, 0, 0) h 0 [(0, .ref a), (1, .int (iI p)), (2, .int (iI 3))] []
  have hn := hI.n
  have hp1 := hI.p p (by omega)
  have hgr := gol_rg (f := f) (p := p) (n := f 26) (by omega)
  have hge : goal f p = itI (f 26) (golG f p) (-1) := rfl
  refine z_aload_n hx dX9_chooses_0 rfl 0 rfl ?_
  refine z_bipush hx dX9_chooses_1 (by decide) ?_
  refine z_iload_n hx dX9_chooses_3 rfl 1 rfl ?_
  refine z_iadd hx dX9_chooses_4 ?_
  refine z_iald hx dX9_chooses_5 hA (by omega) (by decide) ?_
  have rg_1 := hI.rg ((11 + p)) (by omega)
  refine z_istore_n hx dX9_chooses_6 rfl (by decide) [1, 2, 3, 0] (lv' := [(0, .ref a), (1, .int (iI p)), (2, .int (iI 3)), (3, .int (iI (f (11 + p))))]) rfl ?_
  refine z_iload_n hx dX9_chooses_7 rfl 3 rfl ?_
  refine z_bipush hx dX9_chooses_8 (by decide) ?_
  refine z_idiv hx dX9_chooses_10 (by omega) (by decide) ?_
  refine z_iload_n hx dX9_chooses_11 rfl 2 rfl ?_
  refine z_iconst hx dX9_chooses_12 ?_
  refine z_icmp_ne (tgt := 20) hx dX9_chooses_13 (by decide) (by decide) (by decide) (fun _ => ?_) (fun q => absurd q (by decide))
  refine z_iload_n hx dX9_chooses_20 rfl 2 rfl ?_
  refine z_iconst hx dX9_chooses_21 ?_
  refine z_icmp_ne (tgt := 29) hx dX9_chooses_22 (by decide) (by decide) (by decide) (fun q => absurd q (by decide)) (fun _ => ?_)
  refine z_iconst hx dX9_chooses_25 ?_
  refine z_goto (tgt := 30) hx dX9_chooses_26 (by decide) ?_
  refine z_iadd hx dX9_chooses_30 ?_
  refine z_istore hx dX9_chooses_31 (by decide) [1, 2, 3, 4, 0] (lv' := [(0, .ref a), (1, .int (iI p)), (2, .int (iI 3)), (3, .int (iI (f (11 + p)))), (4, .int (iI (((f (11 + p)) / 6) + (-1))))]) rfl ?_
  refine z_iload_n hx dX9_chooses_33 rfl 3 rfl ?_
  refine z_bipush hx dX9_chooses_34 (by decide) ?_
  refine z_irem hx dX9_chooses_36 (by omega) (by decide) ?_
  refine z_iload_n hx dX9_chooses_37 rfl 2 rfl ?_
  refine z_if_ne (tgt := 45) hx dX9_chooses_38 (by decide) (by decide) (fun _ => ?_) (fun q => absurd q (by decide))
  refine z_iload_n hx dX9_chooses_45 rfl 2 rfl ?_
  refine z_iconst hx dX9_chooses_46 ?_
  refine z_icmp_ne (tgt := 54) hx dX9_chooses_47 (by decide) (by decide) (by decide) (fun _ => ?_) (fun q => absurd q (by decide))
  refine z_iconst hx dX9_chooses_54 ?_
  refine z_iadd hx dX9_chooses_55 ?_
  refine z_istore hx dX9_chooses_56 (by decide) [1, 2, 3, 4, 5, 0] (lv' := [(0, .ref a), (1, .int (iI p)), (2, .int (iI 3)), (3, .int (iI (f (11 + p)))), (4, .int (iI (((f (11 + p)) / 6) + (-1)))), (5, .int (iI (((f (11 + p)) % 6) + 0)))]) rfl ?_
  refine z_iload hx dX9_chooses_58 4 rfl ?_
  refine z_iconst hx dX9_chooses_60 ?_
  refine z_iconst hx dX9_chooses_61 ?_
  refine z_cSI (as := [.int (iI (((f (11 + p)) / 6) + (-1))), .int (iI 0), .int (iI 3)]) (rest := []) hx dX9_chooses_62 lk_X9_43 wt_X9_in mo_X9_in (kX9_in g (a := (((f (11 + p)) / 6) + (-1))) (b := 0) (c := 3) (by omega) (by omega) (by omega)) (by decide) rfl rfl (Nat.le_of_ble_eq_true rfl) ?_
  refine z_ifeq_b (tgt := 78) hx dX9_chooses_65 (by decide)  (fun c_6 => ?_) (fun c_6 => ?_)
  ·
    refine z_iconst hx dX9_chooses_78 ?_
    refine z_iret hx hr dX9_chooses_79 rfl rfl (q_j (by unfold b2i; first | (rw [if_neg (by rw [vld_3 hp1.1.1]; omega)]) | (rw [if_pos (by rw [vld_3 hp1.1.1]; omega)])) ⟨ar_e (by first | (rw [if_neg (by rw [vld_3 hp1.1.1]; omega)]) | (rw [if_pos (by rw [vld_3 hp1.1.1]; omega)]; unfold cho; rw [if_neg (by decide)]; rw [bsd_3 (by omega)]; congr 1; omega)) hA, Fr.rf⟩)
  ·
    refine z_iload hx dX9_chooses_68 5 rfl ?_
    refine z_iconst hx dX9_chooses_70 ?_
    refine z_iconst hx dX9_chooses_71 ?_
    refine z_cSI (as := [.int (iI (((f (11 + p)) % 6) + 0)), .int (iI 0), .int (iI 5)]) (rest := []) hx dX9_chooses_72 lk_X9_43 wt_X9_in mo_X9_in (kX9_in g (a := (((f (11 + p)) % 6) + 0)) (b := 0) (c := 5) (by omega) (by omega) (by omega)) (by decide) rfl rfl (Nat.le_of_ble_eq_true rfl) ?_
    refine z_ifne_b (tgt := 80) hx dX9_chooses_75 (by decide)  (fun c_7 => ?_) (fun c_7 => ?_)
    ·
      refine z_iload_n hx dX9_chooses_80 rfl 2 rfl ?_
      refine z_iconst hx dX9_chooses_81 ?_
      refine z_icmp_ne (tgt := 127) hx dX9_chooses_82 (by decide) (by decide) (by decide) (fun _ => ?_) (fun q => absurd q (by decide))
      refine z_aload_n hx dX9_chooses_127 rfl 0 rfl ?_
      refine z_bipush hx dX9_chooses_128 (by decide) ?_
      refine z_iload_n hx dX9_chooses_130 rfl 1 rfl ?_
      refine z_iadd hx dX9_chooses_131 ?_
      refine z_bipush hx dX9_chooses_132 (by decide) ?_
      refine z_iload hx dX9_chooses_134 4 rfl ?_
      refine z_imul hx dX9_chooses_136 ?_
      refine z_iload hx dX9_chooses_137 5 rfl ?_
      refine z_iadd hx dX9_chooses_139 ?_
      refine z_iastQ hx dX9_chooses_140 hA (by omega) (by decide) (fun h_9 hs_10 hf_11 => ?_)
      have fr_12 : Fr h h_9 a 1 := hf_11.wd (by omega) (by omega)
      refine z_iconst hx dX9_chooses_141 ?_
      refine z_iret hx hr dX9_chooses_142 rfl rfl (q_j (by unfold b2i; first | (rw [if_neg (by rw [vld_3 hp1.1.1]; omega)]) | (rw [if_pos (by rw [vld_3 hp1.1.1]; omega)])) ⟨ar_e (by first | (rw [if_neg (by rw [vld_3 hp1.1.1]; omega)]) | (rw [if_pos (by rw [vld_3 hp1.1.1]; omega)]; unfold cho; rw [if_neg (by decide)]; rw [bsd_3 (by omega)]; congr 1; omega)) hs_10, fr_12⟩)
    ·
      refine z_iconst hx dX9_chooses_78 ?_
      refine z_iret hx hr dX9_chooses_79 rfl rfl (q_j (by unfold b2i; first | (rw [if_neg (by rw [vld_3 hp1.1.1]; omega)]) | (rw [if_pos (by rw [vld_3 hp1.1.1]; omega)])) ⟨ar_e (by first | (rw [if_neg (by rw [vld_3 hp1.1.1]; omega)]) | (rw [if_pos (by rw [vld_3 hp1.1.1]; omega)]; unfold cho; rw [if_neg (by decide)]; rw [bsd_3 (by omega)]; congr 1; omega)) hA, Fr.rf⟩)

set_option maxHeartbeats 4000000 in
set_option maxRecDepth 20000 in
theorem kX9_chooses_4 (g : Gt) {h : AH} {a : Nat} {f : Int → Int} {p : Int} (hA : h a = some (.inl (0, 267, f))) (hI : inv f) (hp : 0 ≤ p ∧ p < f 37) : CnJ g mX9_chooses 4 [.ref a, .int (iI p), .int (iI 4)] h (b2i (vld f p 4)) (QA h a 267 (if vld f p 4 then cho f p 4 else f)) := by
  refine Cn.mk (by decide +kernel) (Nat.le_of_ble_eq_true rfl) ?_
  intro x sz hx hr
  show Zj g x (sz, 0, 0) h 0 [(0, .ref a), (1, .int (iI p)), (2, .int (iI 4))] []
  have hn := hI.n
  have hp1 := hI.p p (by omega)
  have hgr := gol_rg (f := f) (p := p) (n := f 26) (by omega)
  have hge : goal f p = itI (f 26) (golG f p) (-1) := rfl
  refine z_aload_n hx dX9_chooses_0 rfl 0 rfl ?_
  refine z_bipush hx dX9_chooses_1 (by decide) ?_
  refine z_iload_n hx dX9_chooses_3 rfl 1 rfl ?_
  refine z_iadd hx dX9_chooses_4 ?_
  refine z_iald hx dX9_chooses_5 hA (by omega) (by decide) ?_
  have rg_1 := hI.rg ((11 + p)) (by omega)
  refine z_istore_n hx dX9_chooses_6 rfl (by decide) [1, 2, 3, 0] (lv' := [(0, .ref a), (1, .int (iI p)), (2, .int (iI 4)), (3, .int (iI (f (11 + p))))]) rfl ?_
  refine z_iload_n hx dX9_chooses_7 rfl 3 rfl ?_
  refine z_bipush hx dX9_chooses_8 (by decide) ?_
  refine z_idiv hx dX9_chooses_10 (by omega) (by decide) ?_
  refine z_iload_n hx dX9_chooses_11 rfl 2 rfl ?_
  refine z_iconst hx dX9_chooses_12 ?_
  refine z_icmp_ne (tgt := 20) hx dX9_chooses_13 (by decide) (by decide) (by decide) (fun _ => ?_) (fun q => absurd q (by decide))
  refine z_iload_n hx dX9_chooses_20 rfl 2 rfl ?_
  refine z_iconst hx dX9_chooses_21 ?_
  refine z_icmp_ne (tgt := 29) hx dX9_chooses_22 (by decide) (by decide) (by decide) (fun _ => ?_) (fun q => absurd q (by decide))
  refine z_iconst hx dX9_chooses_29 ?_
  refine z_iadd hx dX9_chooses_30 ?_
  refine z_istore hx dX9_chooses_31 (by decide) [1, 2, 3, 4, 0] (lv' := [(0, .ref a), (1, .int (iI p)), (2, .int (iI 4)), (3, .int (iI (f (11 + p)))), (4, .int (iI (((f (11 + p)) / 6) + 0)))]) rfl ?_
  refine z_iload_n hx dX9_chooses_33 rfl 3 rfl ?_
  refine z_bipush hx dX9_chooses_34 (by decide) ?_
  refine z_irem hx dX9_chooses_36 (by omega) (by decide) ?_
  refine z_iload_n hx dX9_chooses_37 rfl 2 rfl ?_
  refine z_if_ne (tgt := 45) hx dX9_chooses_38 (by decide) (by decide) (fun _ => ?_) (fun q => absurd q (by decide))
  refine z_iload_n hx dX9_chooses_45 rfl 2 rfl ?_
  refine z_iconst hx dX9_chooses_46 ?_
  refine z_icmp_ne (tgt := 54) hx dX9_chooses_47 (by decide) (by decide) (by decide) (fun _ => ?_) (fun q => absurd q (by decide))
  refine z_iconst hx dX9_chooses_54 ?_
  refine z_iadd hx dX9_chooses_55 ?_
  refine z_istore hx dX9_chooses_56 (by decide) [1, 2, 3, 4, 5, 0] (lv' := [(0, .ref a), (1, .int (iI p)), (2, .int (iI 4)), (3, .int (iI (f (11 + p)))), (4, .int (iI (((f (11 + p)) / 6) + 0))), (5, .int (iI (((f (11 + p)) % 6) + 0)))]) rfl ?_
  refine z_iload hx dX9_chooses_58 4 rfl ?_
  refine z_iconst hx dX9_chooses_60 ?_
  refine z_iconst hx dX9_chooses_61 ?_
  refine z_cSI (as := [.int (iI (((f (11 + p)) / 6) + 0)), .int (iI 0), .int (iI 3)]) (rest := []) hx dX9_chooses_62 lk_X9_43 wt_X9_in mo_X9_in (kX9_in g (a := (((f (11 + p)) / 6) + 0)) (b := 0) (c := 3) (by omega) (by omega) (by omega)) (by decide) rfl rfl (Nat.le_of_ble_eq_true rfl) ?_
  refine z_ifeq_b (tgt := 78) hx dX9_chooses_65 (by decide)  (fun c_6 => ?_) (fun c_6 => ?_)
  ·
    refine z_iconst hx dX9_chooses_78 ?_
    refine z_iret hx hr dX9_chooses_79 rfl rfl (q_j (by unfold b2i; first | (rw [if_neg (by rw [vld_4 hp1.1.1]; omega)]) | (rw [if_pos (by rw [vld_4 hp1.1.1]; omega)])) ⟨ar_e (by first | (rw [if_neg (by rw [vld_4 hp1.1.1]; omega)]) | (rw [if_pos (by rw [vld_4 hp1.1.1]; omega)]; unfold cho; rw [if_pos rfl]; (first | rw [if_pos ⟨by omega, by omega⟩] | rw [if_neg (by rintro ⟨q1, q2⟩; omega)]); funext j; simp only [fup]; (repeat' split) <;> (try subst_vars) <;> (first | rfl | omega))) hA, Fr.rf⟩)
  ·
    refine z_iload hx dX9_chooses_68 5 rfl ?_
    refine z_iconst hx dX9_chooses_70 ?_
    refine z_iconst hx dX9_chooses_71 ?_
    refine z_cSI (as := [.int (iI (((f (11 + p)) % 6) + 0)), .int (iI 0), .int (iI 5)]) (rest := []) hx dX9_chooses_72 lk_X9_43 wt_X9_in mo_X9_in (kX9_in g (a := (((f (11 + p)) % 6) + 0)) (b := 0) (c := 5) (by omega) (by omega) (by omega)) (by decide) rfl rfl (Nat.le_of_ble_eq_true rfl) ?_
    refine z_ifne_b (tgt := 80) hx dX9_chooses_75 (by decide)  (fun c_7 => ?_) (fun c_7 => ?_)
    ·
      refine z_iload_n hx dX9_chooses_80 rfl 2 rfl ?_
      refine z_iconst hx dX9_chooses_81 ?_
      refine z_icmp_ne (tgt := 127) hx dX9_chooses_82 (by decide) (by decide) (by decide) (fun q => absurd q (by decide)) (fun _ => ?_)
      refine z_aload_n hx dX9_chooses_85 rfl 0 rfl ?_
      refine z_iload_n hx dX9_chooses_86 rfl 1 rfl ?_
      refine z_cSI (as := [.ref a, .int (iI p)]) (rest := []) hx dX9_chooses_87 lk_X9_162 wt_X9_goal mo_X9_goal (kX9_goal g (p := p) hA hI (by omega)) (by decide) rfl rfl (Nat.le_of_ble_eq_true rfl) ?_
      have f_9 := gol_rg (f := f) (p := p) (n := f 26) (by have := hI.n; omega)
      have f_10 : goal f p = itI (f 26) (golG f p) (-1) := rfl
      refine z_istore hx dX9_chooses_90 (by decide) [1, 2, 3, 4, 5, 6, 0] (lv' := [(0, .ref a), (1, .int (iI p)), (2, .int (iI 4)), (3, .int (iI (f (11 + p)))), (4, .int (iI (((f (11 + p)) / 6) + 0))), (5, .int (iI (((f (11 + p)) % 6) + 0))), (6, .int (iI (goal f p)))]) rfl ?_
      refine z_aload_n hx dX9_chooses_92 rfl 0 rfl ?_
      refine z_bipush hx dX9_chooses_93 (by decide) ?_
      refine z_iload_n hx dX9_chooses_95 rfl 1 rfl ?_
      refine z_iadd hx dX9_chooses_96 ?_
      refine z_iload hx dX9_chooses_97 6 rfl ?_
      refine z_iconst hx dX9_chooses_99 ?_
      refine z_icmp_eq (tgt := 120) hx dX9_chooses_100 (by decide) (by omega) (by decide) (fun c_11 => ?_) (fun c_11 => ?_)
      ·
        refine z_aload_n hx dX9_chooses_120 rfl 0 rfl ?_
        refine z_bipush hx dX9_chooses_121 (by decide) ?_
        refine z_iload_n hx dX9_chooses_123 rfl 1 rfl ?_
        refine z_iadd hx dX9_chooses_124 ?_
        refine z_iald hx dX9_chooses_125 hA (by omega) (by decide) ?_
        have rg_12 := hI.rg ((17 + p)) (by omega)
        refine z_iastQ hx dX9_chooses_126 hA (by omega) (by decide) (fun h_13 hs_14 hf_15 => ?_)
        have fr_16 : Fr h h_13 a 1 := hf_15.wd (by omega) (by omega)
        refine z_aload_n hx dX9_chooses_127 rfl 0 rfl ?_
        refine z_bipush hx dX9_chooses_128 (by decide) ?_
        refine z_iload_n hx dX9_chooses_130 rfl 1 rfl ?_
        refine z_iadd hx dX9_chooses_131 ?_
        refine z_bipush hx dX9_chooses_132 (by decide) ?_
        refine z_iload hx dX9_chooses_134 4 rfl ?_
        refine z_imul hx dX9_chooses_136 ?_
        refine z_iload hx dX9_chooses_137 5 rfl ?_
        refine z_iadd hx dX9_chooses_139 ?_
        refine z_iastQ hx dX9_chooses_140 hs_14 (by omega) (by decide) (fun h_17 hs_18 hf_19 => ?_)
        have fr_20 := fr_16.tr (hf_19.wd (by omega) (by omega))
        refine z_iconst hx dX9_chooses_141 ?_
        refine z_iret hx hr dX9_chooses_142 rfl rfl (q_j (by unfold b2i; first | (rw [if_neg (by rw [vld_4 hp1.1.1]; omega)]) | (rw [if_pos (by rw [vld_4 hp1.1.1]; omega)])) ⟨ar_e (by first | (rw [if_neg (by rw [vld_4 hp1.1.1]; omega)]) | (rw [if_pos (by rw [vld_4 hp1.1.1]; omega)]; unfold cho; rw [if_pos rfl]; (first | rw [if_pos ⟨by omega, by omega⟩] | rw [if_neg (by rintro ⟨q1, q2⟩; omega)]); funext j; simp only [fup]; (repeat' split) <;> (try subst_vars) <;> (first | rfl | omega))) hs_18, fr_20⟩)
      ·
        have hk2 := hI.k (goal f p) (by omega)
        refine z_aload_n hx dX9_chooses_103 rfl 0 rfl ?_
        refine z_iconst hx dX9_chooses_104 ?_
        refine z_iload hx dX9_chooses_105 6 rfl ?_
        refine z_iadd hx dX9_chooses_107 ?_
        refine z_iald hx dX9_chooses_108 hA (by omega) (by decide) ?_
        have rg_21 := hI.rg ((1 + (goal f p))) (by omega)
        refine z_iload_n hx dX9_chooses_109 rfl 3 rfl ?_
        refine z_icmp_ne (tgt := 120) hx dX9_chooses_110 (by decide) (by omega) (by omega) (fun c_22 => ?_) (fun c_22 => ?_)
        ·
          refine z_aload_n hx dX9_chooses_120 rfl 0 rfl ?_
          refine z_bipush hx dX9_chooses_121 (by decide) ?_
          refine z_iload_n hx dX9_chooses_123 rfl 1 rfl ?_
          refine z_iadd hx dX9_chooses_124 ?_
          refine z_iald hx dX9_chooses_125 hA (by omega) (by decide) ?_
          have rg_23 := hI.rg ((17 + p)) (by omega)
          refine z_iastQ hx dX9_chooses_126 hA (by omega) (by decide) (fun h_24 hs_25 hf_26 => ?_)
          have fr_27 : Fr h h_24 a 1 := hf_26.wd (by omega) (by omega)
          refine z_aload_n hx dX9_chooses_127 rfl 0 rfl ?_
          refine z_bipush hx dX9_chooses_128 (by decide) ?_
          refine z_iload_n hx dX9_chooses_130 rfl 1 rfl ?_
          refine z_iadd hx dX9_chooses_131 ?_
          refine z_bipush hx dX9_chooses_132 (by decide) ?_
          refine z_iload hx dX9_chooses_134 4 rfl ?_
          refine z_imul hx dX9_chooses_136 ?_
          refine z_iload hx dX9_chooses_137 5 rfl ?_
          refine z_iadd hx dX9_chooses_139 ?_
          refine z_iastQ hx dX9_chooses_140 hs_25 (by omega) (by decide) (fun h_28 hs_29 hf_30 => ?_)
          have fr_31 := fr_27.tr (hf_30.wd (by omega) (by omega))
          refine z_iconst hx dX9_chooses_141 ?_
          refine z_iret hx hr dX9_chooses_142 rfl rfl (q_j (by unfold b2i; first | (rw [if_neg (by rw [vld_4 hp1.1.1]; omega)]) | (rw [if_pos (by rw [vld_4 hp1.1.1]; omega)])) ⟨ar_e (by first | (rw [if_neg (by rw [vld_4 hp1.1.1]; omega)]) | (rw [if_pos (by rw [vld_4 hp1.1.1]; omega)]; unfold cho; rw [if_pos rfl]; (first | rw [if_pos ⟨by omega, by omega⟩] | rw [if_neg (by rintro ⟨q1, q2⟩; omega)]); funext j; simp only [fup]; (repeat' split) <;> (try subst_vars) <;> (first | rfl | omega))) hs_29, fr_31⟩)
        ·
          refine z_iconst hx dX9_chooses_113 ?_
          refine z_iload hx dX9_chooses_114 6 rfl ?_
          refine z_iadd hx dX9_chooses_116 ?_
          refine z_goto (tgt := 126) hx dX9_chooses_117 (by decide) ?_
          refine z_iastQ hx dX9_chooses_126 hA (by omega) (by decide) (fun h_32 hs_33 hf_34 => ?_)
          have fr_35 : Fr h h_32 a 1 := hf_34.wd (by omega) (by omega)
          refine z_aload_n hx dX9_chooses_127 rfl 0 rfl ?_
          refine z_bipush hx dX9_chooses_128 (by decide) ?_
          refine z_iload_n hx dX9_chooses_130 rfl 1 rfl ?_
          refine z_iadd hx dX9_chooses_131 ?_
          refine z_bipush hx dX9_chooses_132 (by decide) ?_
          refine z_iload hx dX9_chooses_134 4 rfl ?_
          refine z_imul hx dX9_chooses_136 ?_
          refine z_iload hx dX9_chooses_137 5 rfl ?_
          refine z_iadd hx dX9_chooses_139 ?_
          refine z_iastQ hx dX9_chooses_140 hs_33 (by omega) (by decide) (fun h_36 hs_37 hf_38 => ?_)
          have fr_39 := fr_35.tr (hf_38.wd (by omega) (by omega))
          refine z_iconst hx dX9_chooses_141 ?_
          refine z_iret hx hr dX9_chooses_142 rfl rfl (q_j (by unfold b2i; first | (rw [if_neg (by rw [vld_4 hp1.1.1]; omega)]) | (rw [if_pos (by rw [vld_4 hp1.1.1]; omega)])) ⟨ar_e (by first | (rw [if_neg (by rw [vld_4 hp1.1.1]; omega)]) | (rw [if_pos (by rw [vld_4 hp1.1.1]; omega)]; unfold cho; rw [if_pos rfl]; (first | rw [if_pos ⟨by omega, by omega⟩] | rw [if_neg (by rintro ⟨q1, q2⟩; omega)]); funext j; simp only [fup]; (repeat' split) <;> (try subst_vars) <;> (first | rfl | omega))) hs_37, fr_39⟩)
    ·
      refine z_iconst hx dX9_chooses_78 ?_
      refine z_iret hx hr dX9_chooses_79 rfl rfl (q_j (by unfold b2i; first | (rw [if_neg (by rw [vld_4 hp1.1.1]; omega)]) | (rw [if_pos (by rw [vld_4 hp1.1.1]; omega)])) ⟨ar_e (by first | (rw [if_neg (by rw [vld_4 hp1.1.1]; omega)]) | (rw [if_pos (by rw [vld_4 hp1.1.1]; omega)]; unfold cho; rw [if_pos rfl]; (first | rw [if_pos ⟨by omega, by omega⟩] | rw [if_neg (by rintro ⟨q1, q2⟩; omega)]); funext j; simp only [fup]; (repeat' split) <;> (try subst_vars) <;> (first | rfl | omega))) hA, Fr.rf⟩)

theorem kX9_chooses (g : Gt) {h : AH} {a : Nat} {f : Int → Int} {p w : Int} (hA : h a = some (.inl (0, 267, f))) (hI : inv f) (hp : 0 ≤ p ∧ p < f 37) (hw : 0 ≤ w ∧ w ≤ 4) : CnJ g mX9_chooses 4 [.ref a, .int (iI p), .int (iI w)] h (b2i (vld f p w)) (QA h a 267 (if vld f p w then cho f p w else f)) := by
  have : w = 0 ∨ w = 1 ∨ w = 2 ∨ w = 3 ∨ w = 4 := by omega
  rcases this with rfl | rfl | rfl | rfl | rfl
  · exact kX9_chooses_0 g hA hI hp
  · exact kX9_chooses_1 g hA hI hp
  · exact kX9_chooses_2 g hA hI hp
  · exact kX9_chooses_3 g hA hI hp
  · exact kX9_chooses_4 g hA hI hp

set_option maxHeartbeats 4000000 in
set_option maxRecDepth 20000 in
theorem kX9_bring_ne (g9 : Gt) {h : AH} {a b : Nat} {na nb : Nat} {f g : Int → Int} {i j n : Int} (hA : h a = some (.inl (0, na, f))) (hB : h b = some (.inl (0, nb, g))) (hab : a ≠ b) (hi : 0 ≤ i ∧ i + n ≤ na) (hj : 0 ≤ j ∧ j + n ≤ nb) (hn : 0 ≤ n) (hN : na < 100000 ∧ nb < 100000) : CnV g9 mX9_bring 1 [.ref a, .int (iI i), .ref b, .int (iI j), .int (iI n)] h (QA h b nb (fcp f g i j n)) := by
  refine Cn.mk (by decide +kernel) (Nat.le_of_ble_eq_true rfl) ?_
  intro x sz hx hr
  show Zj g9 x (sz, 0, 0) h 0 [(0, .ref a), (1, .int (iI i)), (2, .ref b), (3, .int (iI j)), (4, .int (iI n))] []
  refine z_iconst hx dX9_bring_0 ?_
  refine z_istore hx dX9_bring_1 (by decide) [1, 2, 3, 4, 5, 0] (lv' := [(0, .ref a), (1, .int (iI i)), (2, .ref b), (3, .int (iI j)), (4, .int (iI n)), (5, .int (iI 0))]) rfl ?_
  have hL_1 : ∀ (mm : Nat) (v5 : Int) (g1 : Int → Int) (h_2 : AH), (0 ≤ v5 ∧ v5 ≤ n) → (g1 = fcp f g i j v5) → (h_2 a = some (.inl (0, na, f))) → (h_2 b = some (.inl (0, nb, g1))) → (Fr h h_2 b 1) → n - v5 < (mm : Int) → Zj g9 x (sz, 0, 0) h_2 3 [(0, .ref a), (1, .int (iI i)), (2, .ref b), (3, .int (iI j)), (4, .int (iI n)), (5, .int (iI v5))] [] := by
    intro mm
    induction mm with
    | zero => intro v5 g1 h_2 kv eg hk_4 hg_3 fr_5 hm; exfalso; omega
    | succ mm ih =>
      intro v5 g1 h_2 kv eg hk_4 hg_3 fr_5 hm
      have ih_6 := ih; clear ih
      refine z_iload hx dX9_bring_3 5 rfl ?_
      refine z_iload hx dX9_bring_5 4 rfl ?_
      refine z_icmp_ge (tgt := 28) hx dX9_bring_7 (by decide) (by omega) (by omega) (fun c_7 => ?_) (fun c_7 => ?_)
      ·
        refine z_vret hx hr dX9_bring_28 rfl (q_v ⟨ar_e (by rw [eg, show v5 = n by omega]) hg_3, fr_5⟩)
      ·
        refine z_aload_n hx dX9_bring_10 rfl 2 rfl ?_
        refine z_iload_n hx dX9_bring_11 rfl 3 rfl ?_
        refine z_iload hx dX9_bring_12 5 rfl ?_
        refine z_iadd hx dX9_bring_14 ?_
        refine z_aload_n hx dX9_bring_15 rfl 0 rfl ?_
        refine z_iload_n hx dX9_bring_16 rfl 1 rfl ?_
        refine z_iload hx dX9_bring_17 5 rfl ?_
        refine z_iadd hx dX9_bring_19 ?_
        refine z_iald hx dX9_bring_20 hk_4 (by omega) (by omega) ?_
        refine z_iastQ hx dX9_bring_21 hg_3 (by omega) (by omega) (fun h_8 hs_9 hf_10 => ?_)
        have h_11 := hf_10.at (by omega) hk_4
        have fr_12 := fr_5.tr (hf_10.wd (by omega) (by omega))
        refine z_iinc hx dX9_bring_22 (by decide) 5 rfl [1, 2, 3, 4, 5, 0] (lv' := [(0, .ref a), (1, .int (iI i)), (2, .ref b), (3, .int (iI j)), (4, .int (iI n)), (5, .int (iI (v5 + 1)))]) rfl ?_
        refine z_goto (tgt := 3) hx dX9_bring_25 (by decide) ?_
        have ec : (fup g1 (j + v5) (f (i + v5))) = fcp f g i j (v5 + 1) := by rw [eg]; exact fcp_s (by omega)
        exact ih_6 _ (fup g1 (j + v5) (f (i + v5))) _ (by omega) (by exact ec) h_11 hs_9 fr_12 (by omega)
  exact hL_1 ((n - 0) + 1).toNat _ g _ (by omega) (by rw [fcp_0]) hA hB Fr.rf (by omega)

set_option maxHeartbeats 4000000 in
set_option maxRecDepth 20000 in
theorem kX9_bring_eq (g9 : Gt) {h : AH} {a : Nat} {na : Nat} {f : Int → Int} {i j n : Int} (hA : h a = some (.inl (0, na, f))) (hij : j ≤ i ∨ i + n ≤ j) (hi : 0 ≤ i ∧ i + n ≤ na) (hj : 0 ≤ j ∧ j + n ≤ na) (hn : 0 ≤ n) (hN : na < 100000) : CnV g9 mX9_bring 1 [.ref a, .int (iI i), .ref a, .int (iI j), .int (iI n)] h (QA h a na (fcp f f i j n)) := by
  refine Cn.mk (by decide +kernel) (Nat.le_of_ble_eq_true rfl) ?_
  intro x sz hx hr
  show Zj g9 x (sz, 0, 0) h 0 [(0, .ref a), (1, .int (iI i)), (2, .ref a), (3, .int (iI j)), (4, .int (iI n))] []
  refine z_iconst hx dX9_bring_0 ?_
  refine z_istore hx dX9_bring_1 (by decide) [1, 2, 3, 4, 5, 0] (lv' := [(0, .ref a), (1, .int (iI i)), (2, .ref a), (3, .int (iI j)), (4, .int (iI n)), (5, .int (iI 0))]) rfl ?_
  have hL_1 : ∀ (mm : Nat) (v5 : Int) (g1 : Int → Int) (h_2 : AH), (0 ≤ v5 ∧ v5 ≤ n) → (g1 = fcp f f i j v5) → (h_2 a = some (.inl (0, na, g1))) → (Fr h h_2 a 1) → n - v5 < (mm : Int) → Zj g9 x (sz, 0, 0) h_2 3 [(0, .ref a), (1, .int (iI i)), (2, .ref a), (3, .int (iI j)), (4, .int (iI n)), (5, .int (iI v5))] [] := by
    intro mm
    induction mm with
    | zero => intro v5 g1 h_2 kv eg hg_3 fr_4 hm; exfalso; omega
    | succ mm ih =>
      intro v5 g1 h_2 kv eg hg_3 fr_4 hm
      have ih_5 := ih; clear ih
      refine z_iload hx dX9_bring_3 5 rfl ?_
      refine z_iload hx dX9_bring_5 4 rfl ?_
      refine z_icmp_ge (tgt := 28) hx dX9_bring_7 (by decide) (by omega) (by omega) (fun c_6 => ?_) (fun c_6 => ?_)
      ·
        refine z_vret hx hr dX9_bring_28 rfl (q_v ⟨ar_e (by rw [eg, show v5 = n by omega]) hg_3, fr_4⟩)
      ·
        have e7 : g1 (i + v5) = f (i + v5) := by rw [eg]; unfold fcp; rw [if_neg (by omega)]
        refine z_aload_n hx dX9_bring_10 rfl 2 rfl ?_
        refine z_iload_n hx dX9_bring_11 rfl 3 rfl ?_
        refine z_iload hx dX9_bring_12 5 rfl ?_
        refine z_iadd hx dX9_bring_14 ?_
        refine z_aload_n hx dX9_bring_15 rfl 0 rfl ?_
        refine z_iload_n hx dX9_bring_16 rfl 1 rfl ?_
        refine z_iload hx dX9_bring_17 5 rfl ?_
        refine z_iadd hx dX9_bring_19 ?_
        refine z_iald hx dX9_bring_20 hg_3 (by omega) (by omega) ?_
        refine z_iastQ hx dX9_bring_21 hg_3 (by omega) (by omega) (fun h_7 hs_8 hf_9 => ?_)
        have fr_10 := fr_4.tr (hf_9.wd (by omega) (by omega))
        refine z_iinc hx dX9_bring_22 (by decide) 5 rfl [1, 2, 3, 4, 5, 0] (lv' := [(0, .ref a), (1, .int (iI i)), (2, .ref a), (3, .int (iI j)), (4, .int (iI n)), (5, .int (iI (v5 + 1)))]) rfl ?_
        refine z_goto (tgt := 3) hx dX9_bring_25 (by decide) ?_
        have ec : (fup g1 (j + v5) (g1 (i + v5))) = fcp f f i j (v5 + 1) := by rw [e7, eg]; exact fcp_s (by omega)
        exact ih_5 _ (fup g1 (j + v5) (g1 (i + v5))) _ (by omega) (by exact ec) hs_8 fr_10 (by omega)
  exact hL_1 ((n - 0) + 1).toNat _ f _ (by omega) (by rw [fcp_0]) hA Fr.rf (by omega)

