/-! the reference's row of numbers: static methods over it -/
set_option maxHeartbeats 4000000 in
set_option maxRecDepth 20000 in
theorem kX9_bits (g : Gt) {v : Int} {h : AH} (hv : 0 ≤ v ∧ v < 256) : CnI g mX9_bits 1 [.int (iI v)] h (popc v) := by
  refine Cn.mk (by decide +kernel) (Nat.le_of_ble_eq_true rfl) ?_
  intro x sz hx hr
  show Zj g x (sz, 0, 0) h 0 [(0, .int (iI v))] []
  refine z_iconst hx dX9_bits_0 ?_
  refine z_istore_n hx dX9_bits_1 rfl (by decide) [1, 0] (lv' := [(0, .int (iI v)), (1, .int (iI 0))]) rfl ?_
  refine z_iconst hx dX9_bits_2 ?_
  refine z_istore_n hx dX9_bits_3 rfl (by decide) [1, 2, 0] (lv' := [(0, .int (iI v)), (1, .int (iI 0)), (2, .int (iI 0))]) rfl ?_
  refine z_iload_n hx dX9_bits_4 rfl 2 rfl ?_
  refine z_bipush hx dX9_bits_5 (by decide) ?_
  refine z_icmp_ge (tgt := 24) hx dX9_bits_7 (by decide) (by decide) (by decide) (fun q => absurd q (by decide)) (fun _ => ?_)
  refine z_iload_n hx dX9_bits_10 rfl 1 rfl ?_
  refine z_iload_n hx dX9_bits_11 rfl 0 rfl ?_
  refine z_iload_n hx dX9_bits_12 rfl 2 rfl ?_
  refine z_ishr hx dX9_bits_13 ?_
  rw [show shrI v 0 = (v / 1) from by rw [shrI_' (by omega) (by decide)]; rfl]
  refine z_iconst hx dX9_bits_14 ?_
  refine z_iand hx dX9_bits_15 ?_
  rw [show andI (v / 1) 1 = ((v / 1) % 2) from by exact andI_1' (by omega)]
  refine z_iadd hx dX9_bits_16 ?_
  refine z_istore_n hx dX9_bits_17 rfl (by decide) [1, 0, 2] (lv' := [(0, .int (iI v)), (1, .int (iI (0 + ((v / 1) % 2)))), (2, .int (iI 0))]) rfl ?_
  refine z_iinc hx dX9_bits_18 (by decide) 2 rfl [1, 2, 0] (lv' := [(0, .int (iI v)), (1, .int (iI (0 + ((v / 1) % 2)))), (2, .int (iI 1))]) rfl ?_
  refine z_goto (tgt := 4) hx dX9_bits_21 (by decide) ?_
  refine z_iload_n hx dX9_bits_4 rfl 2 rfl ?_
  refine z_bipush hx dX9_bits_5 (by decide) ?_
  refine z_icmp_ge (tgt := 24) hx dX9_bits_7 (by decide) (by decide) (by decide) (fun q => absurd q (by decide)) (fun _ => ?_)
  refine z_iload_n hx dX9_bits_10 rfl 1 rfl ?_
  refine z_iload_n hx dX9_bits_11 rfl 0 rfl ?_
  refine z_iload_n hx dX9_bits_12 rfl 2 rfl ?_
  refine z_ishr hx dX9_bits_13 ?_
  rw [show shrI v 1 = (v / 2) from by rw [shrI_' (by omega) (by decide)]; rfl]
  refine z_iconst hx dX9_bits_14 ?_
  refine z_iand hx dX9_bits_15 ?_
  rw [show andI (v / 2) 1 = ((v / 2) % 2) from by exact andI_1' (by omega)]
  refine z_iadd hx dX9_bits_16 ?_
  refine z_istore_n hx dX9_bits_17 rfl (by decide) [1, 0, 2] (lv' := [(0, .int (iI v)), (1, .int (iI ((0 + ((v / 1) % 2)) + ((v / 2) % 2)))), (2, .int (iI 1))]) rfl ?_
  refine z_iinc hx dX9_bits_18 (by decide) 2 rfl [1, 2, 0] (lv' := [(0, .int (iI v)), (1, .int (iI ((0 + ((v / 1) % 2)) + ((v / 2) % 2)))), (2, .int (iI 2))]) rfl ?_
  refine z_goto (tgt := 4) hx dX9_bits_21 (by decide) ?_
  refine z_iload_n hx dX9_bits_4 rfl 2 rfl ?_
  refine z_bipush hx dX9_bits_5 (by decide) ?_
  refine z_icmp_ge (tgt := 24) hx dX9_bits_7 (by decide) (by decide) (by decide) (fun q => absurd q (by decide)) (fun _ => ?_)
  refine z_iload_n hx dX9_bits_10 rfl 1 rfl ?_
  refine z_iload_n hx dX9_bits_11 rfl 0 rfl ?_
  refine z_iload_n hx dX9_bits_12 rfl 2 rfl ?_
  refine z_ishr hx dX9_bits_13 ?_
  rw [show shrI v 2 = (v / 4) from by rw [shrI_' (by omega) (by decide)]; rfl]
  refine z_iconst hx dX9_bits_14 ?_
  refine z_iand hx dX9_bits_15 ?_
  rw [show andI (v / 4) 1 = ((v / 4) % 2) from by exact andI_1' (by omega)]
  refine z_iadd hx dX9_bits_16 ?_
  refine z_istore_n hx dX9_bits_17 rfl (by decide) [1, 0, 2] (lv' := [(0, .int (iI v)), (1, .int (iI (((0 + ((v / 1) % 2)) + ((v / 2) % 2)) + ((v / 4) % 2)))), (2, .int (iI 2))]) rfl ?_
  refine z_iinc hx dX9_bits_18 (by decide) 2 rfl [1, 2, 0] (lv' := [(0, .int (iI v)), (1, .int (iI (((0 + ((v / 1) % 2)) + ((v / 2) % 2)) + ((v / 4) % 2)))), (2, .int (iI 3))]) rfl ?_
  refine z_goto (tgt := 4) hx dX9_bits_21 (by decide) ?_
  refine z_iload_n hx dX9_bits_4 rfl 2 rfl ?_
  refine z_bipush hx dX9_bits_5 (by decide) ?_
  refine z_icmp_ge (tgt := 24) hx dX9_bits_7 (by decide) (by decide) (by decide) (fun q => absurd q (by decide)) (fun _ => ?_)
  refine z_iload_n hx dX9_bits_10 rfl 1 rfl ?_
  refine z_iload_n hx dX9_bits_11 rfl 0 rfl ?_
  refine z_iload_n hx dX9_bits_12 rfl 2 rfl ?_
  refine z_ishr hx dX9_bits_13 ?_
  rw [show shrI v 3 = (v / 8) from by rw [shrI_' (by omega) (by decide)]; rfl]
  refine z_iconst hx dX9_bits_14 ?_
  refine z_iand hx dX9_bits_15 ?_
  rw [show andI (v / 8) 1 = ((v / 8) % 2) from by exact andI_1' (by omega)]
  refine z_iadd hx dX9_bits_16 ?_
  refine z_istore_n hx dX9_bits_17 rfl (by decide) [1, 0, 2] (lv' := [(0, .int (iI v)), (1, .int (iI ((((0 + ((v / 1) % 2)) + ((v / 2) % 2)) + ((v / 4) % 2)) + ((v / 8) % 2)))), (2, .int (iI 3))]) rfl ?_
  refine z_iinc hx dX9_bits_18 (by decide) 2 rfl [1, 2, 0] (lv' := [(0, .int (iI v)), (1, .int (iI ((((0 + ((v / 1) % 2)) + ((v / 2) % 2)) + ((v / 4) % 2)) + ((v / 8) % 2)))), (2, .int (iI 4))]) rfl ?_
  refine z_goto (tgt := 4) hx dX9_bits_21 (by decide) ?_
  refine z_iload_n hx dX9_bits_4 rfl 2 rfl ?_
  refine z_bipush hx dX9_bits_5 (by decide) ?_
  refine z_icmp_ge (tgt := 24) hx dX9_bits_7 (by decide) (by decide) (by decide) (fun q => absurd q (by decide)) (fun _ => ?_)
  refine z_iload_n hx dX9_bits_10 rfl 1 rfl ?_
  refine z_iload_n hx dX9_bits_11 rfl 0 rfl ?_
  refine z_iload_n hx dX9_bits_12 rfl 2 rfl ?_
  refine z_ishr hx dX9_bits_13 ?_
  rw [show shrI v 4 = (v / 16) from by rw [shrI_' (by omega) (by decide)]; rfl]
  refine z_iconst hx dX9_bits_14 ?_
  refine z_iand hx dX9_bits_15 ?_
  rw [show andI (v / 16) 1 = ((v / 16) % 2) from by exact andI_1' (by omega)]
  refine z_iadd hx dX9_bits_16 ?_
  refine z_istore_n hx dX9_bits_17 rfl (by decide) [1, 0, 2] (lv' := [(0, .int (iI v)), (1, .int (iI (((((0 + ((v / 1) % 2)) + ((v / 2) % 2)) + ((v / 4) % 2)) + ((v / 8) % 2)) + ((v / 16) % 2)))), (2, .int (iI 4))]) rfl ?_
  refine z_iinc hx dX9_bits_18 (by decide) 2 rfl [1, 2, 0] (lv' := [(0, .int (iI v)), (1, .int (iI (((((0 + ((v / 1) % 2)) + ((v / 2) % 2)) + ((v / 4) % 2)) + ((v / 8) % 2)) + ((v / 16) % 2)))), (2, .int (iI 5))]) rfl ?_
  refine z_goto (tgt := 4) hx dX9_bits_21 (by decide) ?_
  refine z_iload_n hx dX9_bits_4 rfl 2 rfl ?_
  refine z_bipush hx dX9_bits_5 (by decide) ?_
  refine z_icmp_ge (tgt := 24) hx dX9_bits_7 (by decide) (by decide) (by decide) (fun q => absurd q (by decide)) (fun _ => ?_)
  refine z_iload_n hx dX9_bits_10 rfl 1 rfl ?_
  refine z_iload_n hx dX9_bits_11 rfl 0 rfl ?_
  refine z_iload_n hx dX9_bits_12 rfl 2 rfl ?_
  refine z_ishr hx dX9_bits_13 ?_
  rw [show shrI v 5 = (v / 32) from by rw [shrI_' (by omega) (by decide)]; rfl]
  refine z_iconst hx dX9_bits_14 ?_
  refine z_iand hx dX9_bits_15 ?_
  rw [show andI (v / 32) 1 = ((v / 32) % 2) from by exact andI_1' (by omega)]
  refine z_iadd hx dX9_bits_16 ?_
  refine z_istore_n hx dX9_bits_17 rfl (by decide) [1, 0, 2] (lv' := [(0, .int (iI v)), (1, .int (iI ((((((0 + ((v / 1) % 2)) + ((v / 2) % 2)) + ((v / 4) % 2)) + ((v / 8) % 2)) + ((v / 16) % 2)) + ((v / 32) % 2)))), (2, .int (iI 5))]) rfl ?_
  refine z_iinc hx dX9_bits_18 (by decide) 2 rfl [1, 2, 0] (lv' := [(0, .int (iI v)), (1, .int (iI ((((((0 + ((v / 1) % 2)) + ((v / 2) % 2)) + ((v / 4) % 2)) + ((v / 8) % 2)) + ((v / 16) % 2)) + ((v / 32) % 2)))), (2, .int (iI 6))]) rfl ?_
  refine z_goto (tgt := 4) hx dX9_bits_21 (by decide) ?_
  refine z_iload_n hx dX9_bits_4 rfl 2 rfl ?_
  refine z_bipush hx dX9_bits_5 (by decide) ?_
  refine z_icmp_ge (tgt := 24) hx dX9_bits_7 (by decide) (by decide) (by decide) (fun q => absurd q (by decide)) (fun _ => ?_)
  refine z_iload_n hx dX9_bits_10 rfl 1 rfl ?_
  refine z_iload_n hx dX9_bits_11 rfl 0 rfl ?_
  refine z_iload_n hx dX9_bits_12 rfl 2 rfl ?_
  refine z_ishr hx dX9_bits_13 ?_
  rw [show shrI v 6 = (v / 64) from by rw [shrI_' (by omega) (by decide)]; rfl]
  refine z_iconst hx dX9_bits_14 ?_
  refine z_iand hx dX9_bits_15 ?_
  rw [show andI (v / 64) 1 = ((v / 64) % 2) from by exact andI_1' (by omega)]
  refine z_iadd hx dX9_bits_16 ?_
  refine z_istore_n hx dX9_bits_17 rfl (by decide) [1, 0, 2] (lv' := [(0, .int (iI v)), (1, .int (iI (((((((0 + ((v / 1) % 2)) + ((v / 2) % 2)) + ((v / 4) % 2)) + ((v / 8) % 2)) + ((v / 16) % 2)) + ((v / 32) % 2)) + ((v / 64) % 2)))), (2, .int (iI 6))]) rfl ?_
  refine z_iinc hx dX9_bits_18 (by decide) 2 rfl [1, 2, 0] (lv' := [(0, .int (iI v)), (1, .int (iI (((((((0 + ((v / 1) % 2)) + ((v / 2) % 2)) + ((v / 4) % 2)) + ((v / 8) % 2)) + ((v / 16) % 2)) + ((v / 32) % 2)) + ((v / 64) % 2)))), (2, .int (iI 7))]) rfl ?_
  refine z_goto (tgt := 4) hx dX9_bits_21 (by decide) ?_
  refine z_iload_n hx dX9_bits_4 rfl 2 rfl ?_
  refine z_bipush hx dX9_bits_5 (by decide) ?_
  refine z_icmp_ge (tgt := 24) hx dX9_bits_7 (by decide) (by decide) (by decide) (fun q => absurd q (by decide)) (fun _ => ?_)
  refine z_iload_n hx dX9_bits_10 rfl 1 rfl ?_
  refine z_iload_n hx dX9_bits_11 rfl 0 rfl ?_
  refine z_iload_n hx dX9_bits_12 rfl 2 rfl ?_
  refine z_ishr hx dX9_bits_13 ?_
  rw [show shrI v 7 = (v / 128) from by rw [shrI_' (by omega) (by decide)]; rfl]
  refine z_iconst hx dX9_bits_14 ?_
  refine z_iand hx dX9_bits_15 ?_
  rw [show andI (v / 128) 1 = ((v / 128) % 2) from by exact andI_1' (by omega)]
  refine z_iadd hx dX9_bits_16 ?_
  refine z_istore_n hx dX9_bits_17 rfl (by decide) [1, 0, 2] (lv' := [(0, .int (iI v)), (1, .int (iI ((((((((0 + ((v / 1) % 2)) + ((v / 2) % 2)) + ((v / 4) % 2)) + ((v / 8) % 2)) + ((v / 16) % 2)) + ((v / 32) % 2)) + ((v / 64) % 2)) + ((v / 128) % 2)))), (2, .int (iI 7))]) rfl ?_
  refine z_iinc hx dX9_bits_18 (by decide) 2 rfl [1, 2, 0] (lv' := [(0, .int (iI v)), (1, .int (iI ((((((((0 + ((v / 1) % 2)) + ((v / 2) % 2)) + ((v / 4) % 2)) + ((v / 8) % 2)) + ((v / 16) % 2)) + ((v / 32) % 2)) + ((v / 64) % 2)) + ((v / 128) % 2)))), (2, .int (iI 8))]) rfl ?_
  refine z_goto (tgt := 4) hx dX9_bits_21 (by decide) ?_
  refine z_iload_n hx dX9_bits_4 rfl 2 rfl ?_
  refine z_bipush hx dX9_bits_5 (by decide) ?_
  refine z_icmp_ge (tgt := 24) hx dX9_bits_7 (by decide) (by decide) (by decide) (fun _ => ?_) (fun q => absurd q (by decide))
  refine z_iload_n hx dX9_bits_24 rfl 1 rfl ?_
  refine z_iret hx hr dX9_bits_25 rfl rfl (q_i (by unfold popc; omega))

set_option maxHeartbeats 4000000 in
set_option maxRecDepth 20000 in
theorem kX9_holds (g : Gt) {h : AH} {a : Nat} {f : Int → Int} {k : Int} (hA : h a = some (.inl (0, 267, f))) (hI : inv f) (hk : 0 ≤ k ∧ k < 5) : CnI g mX9_holds 2 [.ref a, .int (iI k)] h (hlf f k) := by
  refine Cn.mk (by decide +kernel) (Nat.le_of_ble_eq_true rfl) ?_
  intro x sz hx hr
  show Zj g x (sz, 0, 0) h 0 [(0, .ref a), (1, .int (iI k))] []
  have hn := hI.n
  have hk1 := hI.k k hk
  refine z_aload_n hx dX9_holds_0 rfl 0 rfl ?_
  refine z_bipush hx dX9_holds_1 (by decide) ?_
  refine z_iload_n hx dX9_holds_3 rfl 1 rfl ?_
  refine z_iadd hx dX9_holds_4 ?_
  refine z_iald hx dX9_holds_5 hA (by omega) (by decide) ?_
  have rg_1 := hI.rg ((27 + k)) (by omega)
  refine z_aload_n hx dX9_holds_6 rfl 0 rfl ?_
  refine z_bipush hx dX9_holds_7 (by decide) ?_
  refine z_iload_n hx dX9_holds_9 rfl 1 rfl ?_
  refine z_iadd hx dX9_holds_10 ?_
  refine z_iald hx dX9_holds_11 hA (by omega) (by decide) ?_
  have rg_2 := hI.rg ((32 + k)) (by omega)
  refine z_aload_n hx dX9_holds_12 rfl 0 rfl ?_
  refine z_bipush hx dX9_holds_13 (by decide) ?_
  refine z_iload_n hx dX9_holds_15 rfl 1 rfl ?_
  refine z_iadd hx dX9_holds_16 ?_
  refine z_iald hx dX9_holds_17 hA (by omega) (by decide) ?_
  have rg_3 := hI.rg ((6 + k)) (by omega)
  refine z_cSI (as := [.int (iI (f (27 + k))), .int (iI (f (32 + k))), .int (iI (f (6 + k)))]) (rest := []) hx dX9_holds_18 lk_X9_142 wt_X9_holdsBy mo_X9_holdsBy (kX9_holdsBy g (k := (f (27 + k))) (s := (f (32 + k))) (w := (f (6 + k))) (by omega) (by omega) (by omega)) (by decide) rfl rfl (Nat.le_of_ble_eq_true rfl) ?_
  refine z_iret hx hr dX9_holds_21 rfl rfl (q_i (by rfl))

set_option maxHeartbeats 4000000 in
set_option maxRecDepth 20000 in
theorem kX9_underIn (g : Gt) {h : AH} {a : Nat} {f : Int → Int} {k : Int} (hA : h a = some (.inl (0, 267, f))) (hI : inv f) (hk : 0 ≤ k ∧ k < 5) : CnI g mX9_underIn 1 [.ref a, .int (iI k)] h (und f k) := by
  refine Cn.mk (by decide +kernel) (Nat.le_of_ble_eq_true rfl) ?_
  intro x sz hx hr
  show Zj g x (sz, 0, 0) h 0 [(0, .ref a), (1, .int (iI k))] []
  have hn := hI.n
  refine z_iconst hx dX9_underIn_0 ?_
  refine z_istore_n hx dX9_underIn_1 rfl (by decide) [1, 2, 0] (lv' := [(0, .ref a), (1, .int (iI k)), (2, .int (iI 0))]) rfl ?_
  refine z_iconst hx dX9_underIn_2 ?_
  refine z_istore_n hx dX9_underIn_3 rfl (by decide) [1, 2, 3, 0] (lv' := [(0, .ref a), (1, .int (iI k)), (2, .int (iI 0)), (3, .int (iI 0))]) rfl ?_
  have hL_1 : ∀ (mm : Nat) (v2 : Int) (v3 : Int), (0 ≤ v3 ∧ v3 ≤ f 37) → (v2 = msk (fun p => f (17 + p) = 1 + k) v3) → f 37 - v3 < (mm : Int) → Zj g x (sz, 0, 0) h 4 [(0, .ref a), (1, .int (iI k)), (2, .int (iI v2)), (3, .int (iI v3))] [] := by
    intro mm
    induction mm with
    | zero => intro v2 v3 e3 e2 hm; exfalso; omega
    | succ mm ih =>
      intro v2 v3 e3 e2 hm
      have ih_2 := ih; clear ih
      have hm := msk_rg (fun p => f (17 + p) = 1 + k) (n := v3) (by omega)
      have hm2 := msk_64 (fun p => f (17 + p) = 1 + k) (n := v3) (by omega)
      refine z_iload_n hx dX9_underIn_4 rfl 3 rfl ?_
      refine z_aload_n hx dX9_underIn_5 rfl 0 rfl ?_
      refine z_bipush hx dX9_underIn_6 (by decide) ?_
      refine z_iald hx dX9_underIn_8 hA (by decide) (by decide) ?_
      have rg_3 := hI.rg (37) (by decide)
      refine z_icmp_ge (tgt := 40) hx dX9_underIn_9 (by decide) (by omega) (by omega) (fun c_4 => ?_) (fun c_4 => ?_)
      ·
        have e9 : v3 = f 37 := by omega
        rw [e9] at e2
        refine z_iload_n hx dX9_underIn_40 rfl 2 rfl ?_
        refine z_iret hx hr dX9_underIn_41 rfl rfl (q_i (by simpa [und] using e2))
      ·
        have hp := hI.p v3 (by omega)
        have hpw := pw_rg (p := v3) (by omega)
        refine z_iload_n hx dX9_underIn_12 rfl 2 rfl ?_
        refine z_aload_n hx dX9_underIn_13 rfl 0 rfl ?_
        refine z_bipush hx dX9_underIn_14 (by decide) ?_
        refine z_iload_n hx dX9_underIn_16 rfl 3 rfl ?_
        refine z_iadd hx dX9_underIn_17 ?_
        refine z_iald hx dX9_underIn_18 hA (by omega) (by decide) ?_
        have rg_5 := hI.rg ((17 + v3)) (by omega)
        refine z_iconst hx dX9_underIn_19 ?_
        refine z_iload_n hx dX9_underIn_20 rfl 1 rfl ?_
        refine z_iadd hx dX9_underIn_21 ?_
        refine z_icmp_ne (tgt := 31) hx dX9_underIn_22 (by decide) (by omega) (by omega) (fun c_6 => ?_) (fun c_6 => ?_)
        ·
          refine z_iconst hx dX9_underIn_31 ?_
          refine z_ior hx dX9_underIn_32 ?_
          rw [show orI v2 0 = v2 from by exact orI_0 (by omega)]
          refine z_istore_n hx dX9_underIn_33 rfl (by decide) [1, 2, 0, 3] (lv' := [(0, .ref a), (1, .int (iI k)), (2, .int (iI v2)), (3, .int (iI v3))]) rfl ?_
          refine z_iinc hx dX9_underIn_34 (by decide) 3 rfl [1, 2, 3, 0] (lv' := [(0, .ref a), (1, .int (iI k)), (2, .int (iI v2)), (3, .int (iI (v3 + 1)))]) rfl ?_
          refine z_goto (tgt := 4) hx dX9_underIn_37 (by decide) ?_
          exact ih_2 _ _ (by omega) (by rw [msk_s _ (by omega), e2]; simp [*])  (by omega)
        ·
          refine z_iconst hx dX9_underIn_25 ?_
          refine z_iload_n hx dX9_underIn_26 rfl 3 rfl ?_
          refine z_ishl hx dX9_underIn_27 ?_
          rw [show shlI 1 v3 = (pw v3) from by exact shlI_' (by omega)]
          refine z_goto (tgt := 32) hx dX9_underIn_28 (by decide) ?_
          refine z_ior hx dX9_underIn_32 ?_
          rw [show orI v2 (pw v3) = (v2 + (pw v3)) from by exact orI_pw (by omega) (by omega)]
          refine z_istore_n hx dX9_underIn_33 rfl (by decide) [1, 2, 0, 3] (lv' := [(0, .ref a), (1, .int (iI k)), (2, .int (iI (v2 + (pw v3)))), (3, .int (iI v3))]) rfl ?_
          refine z_iinc hx dX9_underIn_34 (by decide) 3 rfl [1, 2, 3, 0] (lv' := [(0, .ref a), (1, .int (iI k)), (2, .int (iI (v2 + (pw v3)))), (3, .int (iI (v3 + 1)))]) rfl ?_
          refine z_goto (tgt := 4) hx dX9_underIn_37 (by decide) ?_
          exact ih_2 _ _ (by omega) (by rw [msk_s _ (by omega), e2]; simp [*])  (by omega)
  exact hL_1 ((f 37 - 0) + 1).toNat _ _ (by omega) (by rfl)  (by omega)

set_option maxHeartbeats 4000000 in
set_option maxRecDepth 20000 in
theorem kX9_goal (g : Gt) {h : AH} {a : Nat} {f : Int → Int} {p : Int} (hA : h a = some (.inl (0, 267, f))) (hI : inv f) (hp : 0 ≤ p ∧ p < f 37) : CnI g mX9_goal 3 [.ref a, .int (iI p)] h (goal f p) := by
  refine Cn.mk (by decide +kernel) (Nat.le_of_ble_eq_true rfl) ?_
  intro x sz hx hr
  show Zj g x (sz, 0, 0) h 0 [(0, .ref a), (1, .int (iI p))] []
  have hn := hI.n
  have hp1 := hI.p p (by omega)
  refine z_iconst hx dX9_goal_0 ?_
  refine z_istore_n hx dX9_goal_1 rfl (by decide) [1, 2, 0] (lv' := [(0, .ref a), (1, .int (iI p)), (2, .int (iI (-1)))]) rfl ?_
  refine z_iconst hx dX9_goal_2 ?_
  refine z_istore_n hx dX9_goal_3 rfl (by decide) [1, 2, 3, 0] (lv' := [(0, .ref a), (1, .int (iI p)), (2, .int (iI (-1))), (3, .int (iI 0))]) rfl ?_
  have hL_1 : ∀ (mm : Nat) (v2 : Int) (v3 : Int), (0 ≤ v3 ∧ v3 ≤ f 26) → (v2 = itI v3 (golG f p) (-1)) → f 26 - v3 < (mm : Int) → Zj g x (sz, 0, 0) h 4 [(0, .ref a), (1, .int (iI p)), (2, .int (iI v2)), (3, .int (iI v3))] [] := by
    intro mm
    induction mm with
    | zero => intro v2 v3 e3 e2 hm; exfalso; omega
    | succ mm ih =>
      intro v2 v3 e3 e2 hm
      have ih_2 := ih; clear ih
      have hg := gol_rg (f := f) (p := p) (n := v3) (by omega)
      rw [← e2] at hg
      refine z_iload_n hx dX9_goal_4 rfl 3 rfl ?_
      refine z_aload_n hx dX9_goal_5 rfl 0 rfl ?_
      refine z_bipush hx dX9_goal_6 (by decide) ?_
      refine z_iald hx dX9_goal_8 hA (by decide) (by decide) ?_
      have rg_3 := hI.rg (26) (by decide)
      refine z_icmp_ge (tgt := 100) hx dX9_goal_9 (by decide) (by omega) (by omega) (fun c_4 => ?_) (fun c_4 => ?_)
      ·
        have e9 : v3 = f 26 := by omega
        refine z_iload_n hx dX9_goal_100 rfl 2 rfl ?_
        refine z_iret hx hr dX9_goal_101 rfl rfl (q_i (by subst_vars; rfl))
      ·
        have hk3 := hI.k v3 (by omega)
        refine z_aload_n hx dX9_goal_12 rfl 0 rfl ?_
        refine z_iload_n hx dX9_goal_13 rfl 3 rfl ?_
        refine z_cSI (as := [.ref a, .int (iI v3)]) (rest := []) hx dX9_goal_14 lk_X9_149 wt_X9_holds mo_X9_holds (kX9_holds g (k := v3) hA hI (by omega)) (by decide) rfl rfl (Nat.le_of_ble_eq_true rfl) ?_
        have f_5 := hlf_rg hI (k := v3) (by omega)
        refine z_aload_n hx dX9_goal_17 rfl 0 rfl ?_
        refine z_iload_n hx dX9_goal_18 rfl 3 rfl ?_
        refine z_cSI (as := [.ref a, .int (iI v3)]) (rest := [.int (iI (hlf f v3))]) hx dX9_goal_19 lk_X9_152 wt_X9_underIn mo_X9_underIn (kX9_underIn g (k := v3) hA hI (by omega)) (by decide) rfl rfl (Nat.le_of_ble_eq_true rfl) ?_
        have f_6 := und_rg hI v3
        refine z_cSI (as := [.int (iI (und f v3))]) (rest := [.int (iI (hlf f v3))]) hx dX9_goal_22 lk_X9_155 wt_X9_bits mo_X9_bits (kX9_bits g (v := (und f v3)) (by omega)) (by decide) rfl rfl (Nat.le_of_ble_eq_true rfl) ?_
        have f_7 := popc_rg (v := (und f v3))
        refine z_icmp_le (tgt := 32) hx dX9_goal_25 (by decide) (by omega) (by omega) (fun c_8 => ?_) (fun c_8 => ?_)
        ·
          refine z_iconst hx dX9_goal_32 ?_
          refine z_istore hx dX9_goal_33 (by decide) [1, 2, 3, 4, 0] (lv' := [(0, .ref a), (1, .int (iI p)), (2, .int (iI v2)), (3, .int (iI v3)), (4, .int (iI 0))]) rfl ?_
          refine z_iload_n hx dX9_goal_35 rfl 2 rfl ?_
          refine z_iconst hx dX9_goal_36 ?_
          refine z_icmp_eq (tgt := 71) hx dX9_goal_37 (by decide) (by omega) (by decide) (fun c_9 => ?_) (fun c_9 => ?_)
          ·
            refine z_iconst hx dX9_goal_71 ?_
            refine z_goto (tgt := 76) hx dX9_goal_72 (by decide) ?_
            refine z_istore hx dX9_goal_76 (by decide) [1, 2, 3, 4, 5, 0] (lv' := [(0, .ref a), (1, .int (iI p)), (2, .int (iI v2)), (3, .int (iI v3)), (4, .int (iI 0)), (5, .int (iI 1))]) rfl ?_
            refine z_iload hx dX9_goal_78 4 rfl ?_
            refine z_if_eq (tgt := 92) hx dX9_goal_80 (by decide) (by decide) (fun _ => ?_) (fun q => absurd q (by decide))
            refine z_iload_n hx dX9_goal_92 rfl 2 rfl ?_
            refine z_istore_n hx dX9_goal_93 rfl (by decide) [1, 2, 0, 3, 4, 5] (lv' := [(0, .ref a), (1, .int (iI p)), (2, .int (iI v2)), (3, .int (iI v3)), (4, .int (iI 0)), (5, .int (iI 1))]) rfl ?_
            refine z_iinc hx dX9_goal_94 (by decide) 3 rfl [1, 2, 3, 0, 4, 5] (lv' := [(0, .ref a), (1, .int (iI p)), (2, .int (iI v2)), (3, .int (iI (v3 + 1))), (4, .int (iI 0)), (5, .int (iI 1))]) rfl ?_
            refine z_goto (tgt := 4) hx dX9_goal_97 (by decide) ?_
            refine z_sub [0, 1, 2, 3] (lv' := [(0, .ref a), (1, .int (iI p)), (2, .int (iI v2)), (3, .int (iI (v3 + 1)))]) rfl ?_
            exact ih_2 _ _ (by omega) (by rw [itI_s _ _ (by omega), ← e2]; unfold golG; (first | rw [if_pos (by refine ⟨by omega, ?_⟩; first | (left; omega) | (right; omega))] | rw [if_neg (by intro w; omega)]))  (by omega)
          ·
            refine z_aload_n hx dX9_goal_40 rfl 0 rfl ?_
            refine z_iconst hx dX9_goal_41 ?_
            refine z_iload_n hx dX9_goal_42 rfl 3 rfl ?_
            refine z_iadd hx dX9_goal_43 ?_
            refine z_iald hx dX9_goal_44 hA (by omega) (by decide) ?_
            have rg_11 := hI.rg ((1 + v3)) (by omega)
            refine z_aload_n hx dX9_goal_45 rfl 0 rfl ?_
            refine z_bipush hx dX9_goal_46 (by decide) ?_
            refine z_iload_n hx dX9_goal_48 rfl 1 rfl ?_
            refine z_iadd hx dX9_goal_49 ?_
            refine z_iald hx dX9_goal_50 hA (by omega) (by decide) ?_
            have rg_12 := hI.rg ((11 + p)) (by omega)
            have fr1 := far_rg hk3.1 hp1.1
            refine z_cSI (as := [.int (iI (f (1 + v3))), .int (iI (f (11 + p)))]) (rest := []) hx dX9_goal_51 lk_X9_158 wt_X9_far mo_X9_far (kX9_far g (a := (f (1 + v3))) (b := (f (11 + p))) (by omega) (by omega)) (by decide) rfl rfl (Nat.le_of_ble_eq_true rfl) ?_
            have hk2 := hI.k v2 (by omega)
            refine z_aload_n hx dX9_goal_54 rfl 0 rfl ?_
            refine z_iconst hx dX9_goal_55 ?_
            refine z_iload_n hx dX9_goal_56 rfl 2 rfl ?_
            refine z_iadd hx dX9_goal_57 ?_
            refine z_iald hx dX9_goal_58 hA (by omega) (by decide) ?_
            have rg_13 := hI.rg ((1 + v2)) (by omega)
            refine z_aload_n hx dX9_goal_59 rfl 0 rfl ?_
            refine z_bipush hx dX9_goal_60 (by decide) ?_
            refine z_iload_n hx dX9_goal_62 rfl 1 rfl ?_
            refine z_iadd hx dX9_goal_63 ?_
            refine z_iald hx dX9_goal_64 hA (by omega) (by decide) ?_
            have rg_14 := hI.rg ((11 + p)) (by omega)
            have hk2 := hI.k v2 (by omega)
            have fr2 := far_rg hk2.1 hp1.1
            refine z_cSI (as := [.int (iI (f (1 + v2))), .int (iI (f (11 + p)))]) (rest := [.int (iI (far (f (1 + v3)) (f (11 + p))))]) hx dX9_goal_65 lk_X9_158 wt_X9_far mo_X9_far (kX9_far g (a := (f (1 + v2))) (b := (f (11 + p))) (by omega) (by omega)) (by decide) rfl rfl (Nat.le_of_ble_eq_true rfl) ?_
            refine z_icmp_ge (tgt := 75) hx dX9_goal_68 (by decide) (by omega) (by omega) (fun c_15 => ?_) (fun c_15 => ?_)
            ·
              refine z_iconst hx dX9_goal_75 ?_
              refine z_istore hx dX9_goal_76 (by decide) [1, 2, 3, 4, 5, 0] (lv' := [(0, .ref a), (1, .int (iI p)), (2, .int (iI v2)), (3, .int (iI v3)), (4, .int (iI 0)), (5, .int (iI 0))]) rfl ?_
              refine z_iload hx dX9_goal_78 4 rfl ?_
              refine z_if_eq (tgt := 92) hx dX9_goal_80 (by decide) (by decide) (fun _ => ?_) (fun q => absurd q (by decide))
              refine z_iload_n hx dX9_goal_92 rfl 2 rfl ?_
              refine z_istore_n hx dX9_goal_93 rfl (by decide) [1, 2, 0, 3, 4, 5] (lv' := [(0, .ref a), (1, .int (iI p)), (2, .int (iI v2)), (3, .int (iI v3)), (4, .int (iI 0)), (5, .int (iI 0))]) rfl ?_
              refine z_iinc hx dX9_goal_94 (by decide) 3 rfl [1, 2, 3, 0, 4, 5] (lv' := [(0, .ref a), (1, .int (iI p)), (2, .int (iI v2)), (3, .int (iI (v3 + 1))), (4, .int (iI 0)), (5, .int (iI 0))]) rfl ?_
              refine z_goto (tgt := 4) hx dX9_goal_97 (by decide) ?_
              refine z_sub [0, 1, 2, 3] (lv' := [(0, .ref a), (1, .int (iI p)), (2, .int (iI v2)), (3, .int (iI (v3 + 1)))]) rfl ?_
              exact ih_2 _ _ (by omega) (by rw [itI_s _ _ (by omega), ← e2]; unfold golG; (first | rw [if_pos (by refine ⟨by omega, ?_⟩; first | (left; omega) | (right; omega))] | rw [if_neg (by intro w; omega)]))  (by omega)
            ·
              refine z_iconst hx dX9_goal_71 ?_
              refine z_goto (tgt := 76) hx dX9_goal_72 (by decide) ?_
              refine z_istore hx dX9_goal_76 (by decide) [1, 2, 3, 4, 5, 0] (lv' := [(0, .ref a), (1, .int (iI p)), (2, .int (iI v2)), (3, .int (iI v3)), (4, .int (iI 0)), (5, .int (iI 1))]) rfl ?_
              refine z_iload hx dX9_goal_78 4 rfl ?_
              refine z_if_eq (tgt := 92) hx dX9_goal_80 (by decide) (by decide) (fun _ => ?_) (fun q => absurd q (by decide))
              refine z_iload_n hx dX9_goal_92 rfl 2 rfl ?_
              refine z_istore_n hx dX9_goal_93 rfl (by decide) [1, 2, 0, 3, 4, 5] (lv' := [(0, .ref a), (1, .int (iI p)), (2, .int (iI v2)), (3, .int (iI v3)), (4, .int (iI 0)), (5, .int (iI 1))]) rfl ?_
              refine z_iinc hx dX9_goal_94 (by decide) 3 rfl [1, 2, 3, 0, 4, 5] (lv' := [(0, .ref a), (1, .int (iI p)), (2, .int (iI v2)), (3, .int (iI (v3 + 1))), (4, .int (iI 0)), (5, .int (iI 1))]) rfl ?_
              refine z_goto (tgt := 4) hx dX9_goal_97 (by decide) ?_
              refine z_sub [0, 1, 2, 3] (lv' := [(0, .ref a), (1, .int (iI p)), (2, .int (iI v2)), (3, .int (iI (v3 + 1)))]) rfl ?_
              exact ih_2 _ _ (by omega) (by rw [itI_s _ _ (by omega), ← e2]; unfold golG; (first | rw [if_pos (by refine ⟨by omega, ?_⟩; first | (left; omega) | (right; omega))] | rw [if_neg (by intro w; omega)]))  (by omega)
        ·
          refine z_iconst hx dX9_goal_28 ?_
          refine z_goto (tgt := 33) hx dX9_goal_29 (by decide) ?_
          refine z_istore hx dX9_goal_33 (by decide) [1, 2, 3, 4, 0] (lv' := [(0, .ref a), (1, .int (iI p)), (2, .int (iI v2)), (3, .int (iI v3)), (4, .int (iI 1))]) rfl ?_
          refine z_iload_n hx dX9_goal_35 rfl 2 rfl ?_
          refine z_iconst hx dX9_goal_36 ?_
          refine z_icmp_eq (tgt := 71) hx dX9_goal_37 (by decide) (by omega) (by decide) (fun c_18 => ?_) (fun c_18 => ?_)
          ·
            refine z_iconst hx dX9_goal_71 ?_
            refine z_goto (tgt := 76) hx dX9_goal_72 (by decide) ?_
            refine z_istore hx dX9_goal_76 (by decide) [1, 2, 3, 4, 5, 0] (lv' := [(0, .ref a), (1, .int (iI p)), (2, .int (iI v2)), (3, .int (iI v3)), (4, .int (iI 1)), (5, .int (iI 1))]) rfl ?_
            refine z_iload hx dX9_goal_78 4 rfl ?_
            refine z_if_eq (tgt := 92) hx dX9_goal_80 (by decide) (by decide) (fun q => absurd q (by decide)) (fun _ => ?_)
            refine z_iload hx dX9_goal_83 5 rfl ?_
            refine z_if_eq (tgt := 92) hx dX9_goal_85 (by decide) (by decide) (fun q => absurd q (by decide)) (fun _ => ?_)
            refine z_iload_n hx dX9_goal_88 rfl 3 rfl ?_
            refine z_goto (tgt := 93) hx dX9_goal_89 (by decide) ?_
            refine z_istore_n hx dX9_goal_93 rfl (by decide) [1, 2, 0, 3, 4, 5] (lv' := [(0, .ref a), (1, .int (iI p)), (2, .int (iI v3)), (3, .int (iI v3)), (4, .int (iI 1)), (5, .int (iI 1))]) rfl ?_
            refine z_iinc hx dX9_goal_94 (by decide) 3 rfl [1, 2, 3, 0, 4, 5] (lv' := [(0, .ref a), (1, .int (iI p)), (2, .int (iI v3)), (3, .int (iI (v3 + 1))), (4, .int (iI 1)), (5, .int (iI 1))]) rfl ?_
            refine z_goto (tgt := 4) hx dX9_goal_97 (by decide) ?_
            refine z_sub [0, 1, 2, 3] (lv' := [(0, .ref a), (1, .int (iI p)), (2, .int (iI v3)), (3, .int (iI (v3 + 1)))]) rfl ?_
            exact ih_2 _ _ (by omega) (by rw [itI_s _ _ (by omega), ← e2]; unfold golG; (first | rw [if_pos (by refine ⟨by omega, ?_⟩; first | (left; omega) | (right; omega))] | rw [if_neg (by intro w; omega)]))  (by omega)
          ·
            refine z_aload_n hx dX9_goal_40 rfl 0 rfl ?_
            refine z_iconst hx dX9_goal_41 ?_
            refine z_iload_n hx dX9_goal_42 rfl 3 rfl ?_
            refine z_iadd hx dX9_goal_43 ?_
            refine z_iald hx dX9_goal_44 hA (by omega) (by decide) ?_
            have rg_21 := hI.rg ((1 + v3)) (by omega)
            refine z_aload_n hx dX9_goal_45 rfl 0 rfl ?_
            refine z_bipush hx dX9_goal_46 (by decide) ?_
            refine z_iload_n hx dX9_goal_48 rfl 1 rfl ?_
            refine z_iadd hx dX9_goal_49 ?_
            refine z_iald hx dX9_goal_50 hA (by omega) (by decide) ?_
            have rg_22 := hI.rg ((11 + p)) (by omega)
            have fr1 := far_rg hk3.1 hp1.1
            refine z_cSI (as := [.int (iI (f (1 + v3))), .int (iI (f (11 + p)))]) (rest := []) hx dX9_goal_51 lk_X9_158 wt_X9_far mo_X9_far (kX9_far g (a := (f (1 + v3))) (b := (f (11 + p))) (by omega) (by omega)) (by decide) rfl rfl (Nat.le_of_ble_eq_true rfl) ?_
            have hk2 := hI.k v2 (by omega)
            refine z_aload_n hx dX9_goal_54 rfl 0 rfl ?_
            refine z_iconst hx dX9_goal_55 ?_
            refine z_iload_n hx dX9_goal_56 rfl 2 rfl ?_
            refine z_iadd hx dX9_goal_57 ?_
            refine z_iald hx dX9_goal_58 hA (by omega) (by decide) ?_
            have rg_23 := hI.rg ((1 + v2)) (by omega)
            refine z_aload_n hx dX9_goal_59 rfl 0 rfl ?_
            refine z_bipush hx dX9_goal_60 (by decide) ?_
            refine z_iload_n hx dX9_goal_62 rfl 1 rfl ?_
            refine z_iadd hx dX9_goal_63 ?_
            refine z_iald hx dX9_goal_64 hA (by omega) (by decide) ?_
            have rg_24 := hI.rg ((11 + p)) (by omega)
            have hk2 := hI.k v2 (by omega)
            have fr2 := far_rg hk2.1 hp1.1
            refine z_cSI (as := [.int (iI (f (1 + v2))), .int (iI (f (11 + p)))]) (rest := [.int (iI (far (f (1 + v3)) (f (11 + p))))]) hx dX9_goal_65 lk_X9_158 wt_X9_far mo_X9_far (kX9_far g (a := (f (1 + v2))) (b := (f (11 + p))) (by omega) (by omega)) (by decide) rfl rfl (Nat.le_of_ble_eq_true rfl) ?_
            refine z_icmp_ge (tgt := 75) hx dX9_goal_68 (by decide) (by omega) (by omega) (fun c_25 => ?_) (fun c_25 => ?_)
            ·
              refine z_iconst hx dX9_goal_75 ?_
              refine z_istore hx dX9_goal_76 (by decide) [1, 2, 3, 4, 5, 0] (lv' := [(0, .ref a), (1, .int (iI p)), (2, .int (iI v2)), (3, .int (iI v3)), (4, .int (iI 1)), (5, .int (iI 0))]) rfl ?_
              refine z_iload hx dX9_goal_78 4 rfl ?_
              refine z_if_eq (tgt := 92) hx dX9_goal_80 (by decide) (by decide) (fun q => absurd q (by decide)) (fun _ => ?_)
              refine z_iload hx dX9_goal_83 5 rfl ?_
              refine z_if_eq (tgt := 92) hx dX9_goal_85 (by decide) (by decide) (fun _ => ?_) (fun q => absurd q (by decide))
              refine z_iload_n hx dX9_goal_92 rfl 2 rfl ?_
              refine z_istore_n hx dX9_goal_93 rfl (by decide) [1, 2, 0, 3, 4, 5] (lv' := [(0, .ref a), (1, .int (iI p)), (2, .int (iI v2)), (3, .int (iI v3)), (4, .int (iI 1)), (5, .int (iI 0))]) rfl ?_
              refine z_iinc hx dX9_goal_94 (by decide) 3 rfl [1, 2, 3, 0, 4, 5] (lv' := [(0, .ref a), (1, .int (iI p)), (2, .int (iI v2)), (3, .int (iI (v3 + 1))), (4, .int (iI 1)), (5, .int (iI 0))]) rfl ?_
              refine z_goto (tgt := 4) hx dX9_goal_97 (by decide) ?_
              refine z_sub [0, 1, 2, 3] (lv' := [(0, .ref a), (1, .int (iI p)), (2, .int (iI v2)), (3, .int (iI (v3 + 1)))]) rfl ?_
              exact ih_2 _ _ (by omega) (by rw [itI_s _ _ (by omega), ← e2]; unfold golG; (first | rw [if_pos (by refine ⟨by omega, ?_⟩; first | (left; omega) | (right; omega))] | rw [if_neg (by intro w; omega)]))  (by omega)
            ·
              refine z_iconst hx dX9_goal_71 ?_
              refine z_goto (tgt := 76) hx dX9_goal_72 (by decide) ?_
              refine z_istore hx dX9_goal_76 (by decide) [1, 2, 3, 4, 5, 0] (lv' := [(0, .ref a), (1, .int (iI p)), (2, .int (iI v2)), (3, .int (iI v3)), (4, .int (iI 1)), (5, .int (iI 1))]) rfl ?_
              refine z_iload hx dX9_goal_78 4 rfl ?_
              refine z_if_eq (tgt := 92) hx dX9_goal_80 (by decide) (by decide) (fun q => absurd q (by decide)) (fun _ => ?_)
              refine z_iload hx dX9_goal_83 5 rfl ?_
              refine z_if_eq (tgt := 92) hx dX9_goal_85 (by decide) (by decide) (fun q => absurd q (by decide)) (fun _ => ?_)
              refine z_iload_n hx dX9_goal_88 rfl 3 rfl ?_
              refine z_goto (tgt := 93) hx dX9_goal_89 (by decide) ?_
              refine z_istore_n hx dX9_goal_93 rfl (by decide) [1, 2, 0, 3, 4, 5] (lv' := [(0, .ref a), (1, .int (iI p)), (2, .int (iI v3)), (3, .int (iI v3)), (4, .int (iI 1)), (5, .int (iI 1))]) rfl ?_
              refine z_iinc hx dX9_goal_94 (by decide) 3 rfl [1, 2, 3, 0, 4, 5] (lv' := [(0, .ref a), (1, .int (iI p)), (2, .int (iI v3)), (3, .int (iI (v3 + 1))), (4, .int (iI 1)), (5, .int (iI 1))]) rfl ?_
              refine z_goto (tgt := 4) hx dX9_goal_97 (by decide) ?_
              refine z_sub [0, 1, 2, 3] (lv' := [(0, .ref a), (1, .int (iI p)), (2, .int (iI v3)), (3, .int (iI (v3 + 1)))]) rfl ?_
              exact ih_2 _ _ (by omega) (by rw [itI_s _ _ (by omega), ← e2]; unfold golG; (first | rw [if_pos (by refine ⟨by omega, ?_⟩; first | (left; omega) | (right; omega))] | rw [if_neg (by intro w; omega)]))  (by omega)
  exact hL_1 ((f 26 - 0) + 1).toNat _ _ (by omega) (by rfl)  (by omega)

set_option maxHeartbeats 4000000 in
set_option maxRecDepth 20000 in
theorem kX9_goes (g : Gt) {h : AH} {a : Nat} {f : Int → Int} {p : Int} (hA : h a = some (.inl (0, 267, f))) (hI : inv f) (hp : 0 ≤ p ∧ p < f 37) (h0 : f (17 + p) = 0) : CnV g mX9_goes 4 [.ref a, .int (iI p)] h (QA h a 267 (goes f p)) := by
  refine Cn.mk (by decide +kernel) (Nat.le_of_ble_eq_true rfl) ?_
  intro x sz hx hr
  show Zj g x (sz, 0, 0) h 0 [(0, .ref a), (1, .int (iI p))] []
  have hn := hI.n
  have hp1 := hI.p p (by omega)
  refine z_aload_n hx dX9_goes_0 rfl 0 rfl ?_
  refine z_iload_n hx dX9_goes_1 rfl 1 rfl ?_
  refine z_cSI (as := [.ref a, .int (iI p)]) (rest := []) hx dX9_goes_2 lk_X9_162 wt_X9_goal mo_X9_goal (kX9_goal g (p := p) hA hI (by omega)) (by decide) rfl rfl (Nat.le_of_ble_eq_true rfl) ?_
  have f_1 := gol_rg (f := f) (p := p) (n := f 26) (by have := hI.n; omega)
  have f_2 : goal f p = itI (f 26) (golG f p) (-1) := rfl
  refine z_istore_n hx dX9_goes_5 rfl (by decide) [1, 2, 0] (lv' := [(0, .ref a), (1, .int (iI p)), (2, .int (iI (goal f p)))]) rfl ?_
  refine z_iload_n hx dX9_goes_6 rfl 2 rfl ?_
  refine z_iconst hx dX9_goes_7 ?_
  refine z_icmp_eq (tgt := 57) hx dX9_goes_8 (by decide) (by omega) (by decide) (fun c_3 => ?_) (fun c_3 => ?_)
  ·
    refine z_vret hx hr dX9_goes_57 rfl (q_v ⟨ar_e (by unfold goes; (first | rw [if_pos (by omega)] | (rw [if_neg (by omega)]; first | rw [if_pos (by omega)] | rw [if_neg (by omega)]))) hA, Fr.rf⟩)
  ·
    have hk2 := hI.k (goal f p) (by omega)
    refine z_aload_n hx dX9_goes_11 rfl 0 rfl ?_
    refine z_iconst hx dX9_goes_12 ?_
    refine z_iload_n hx dX9_goes_13 rfl 2 rfl ?_
    refine z_iadd hx dX9_goes_14 ?_
    refine z_iald hx dX9_goes_15 hA (by omega) (by decide) ?_
    have rg_4 := hI.rg ((1 + (goal f p))) (by omega)
    refine z_aload_n hx dX9_goes_16 rfl 0 rfl ?_
    refine z_bipush hx dX9_goes_17 (by decide) ?_
    refine z_iload_n hx dX9_goes_19 rfl 1 rfl ?_
    refine z_iadd hx dX9_goes_20 ?_
    refine z_iald hx dX9_goes_21 hA (by omega) (by decide) ?_
    have rg_5 := hI.rg ((11 + p)) (by omega)
    refine z_icmp_ne (tgt := 37) hx dX9_goes_22 (by decide) (by omega) (by omega) (fun c_6 => ?_) (fun c_6 => ?_)
    ·
      refine z_aload_n hx dX9_goes_37 rfl 0 rfl ?_
      refine z_bipush hx dX9_goes_38 (by decide) ?_
      refine z_iload_n hx dX9_goes_40 rfl 1 rfl ?_
      refine z_iadd hx dX9_goes_41 ?_
      refine z_aload_n hx dX9_goes_42 rfl 0 rfl ?_
      refine z_bipush hx dX9_goes_43 (by decide) ?_
      refine z_iload_n hx dX9_goes_45 rfl 1 rfl ?_
      refine z_iadd hx dX9_goes_46 ?_
      refine z_iald hx dX9_goes_47 hA (by omega) (by decide) ?_
      have rg_7 := hI.rg ((11 + p)) (by omega)
      refine z_aload_n hx dX9_goes_48 rfl 0 rfl ?_
      refine z_iconst hx dX9_goes_49 ?_
      refine z_iload_n hx dX9_goes_50 rfl 2 rfl ?_
      refine z_iadd hx dX9_goes_51 ?_
      refine z_iald hx dX9_goes_52 hA (by omega) (by decide) ?_
      have rg_8 := hI.rg ((1 + (goal f p))) (by omega)
      refine z_cSI (as := [.int (iI (f (11 + p))), .int (iI (f (1 + (goal f p))))]) (rest := [.int (iI (11 + p)), .ref a]) hx dX9_goes_53 lk_X9_165 wt_X9_step mo_X9_step (kX9_step g (a := (f (11 + p))) (b := (f (1 + (goal f p)))) (by omega) (by omega)) (by decide) rfl rfl (Nat.le_of_ble_eq_true rfl) ?_
      refine z_iastQ hx dX9_goes_56 hA (by omega) (by decide) (fun h_9 hs_10 hf_11 => ?_)
      have fr_12 : Fr h h_9 a 1 := hf_11.wd (by omega) (by omega)
      refine z_vret hx hr dX9_goes_57 rfl (q_v ⟨ar_e (by unfold goes; (first | rw [if_pos (by omega)] | (rw [if_neg (by omega)]; first | rw [if_pos (by omega)] | rw [if_neg (by omega)]))) hs_10, fr_12⟩)
    ·
      refine z_aload_n hx dX9_goes_25 rfl 0 rfl ?_
      refine z_bipush hx dX9_goes_26 (by decide) ?_
      refine z_iload_n hx dX9_goes_28 rfl 1 rfl ?_
      refine z_iadd hx dX9_goes_29 ?_
      refine z_iconst hx dX9_goes_30 ?_
      refine z_iload_n hx dX9_goes_31 rfl 2 rfl ?_
      refine z_iadd hx dX9_goes_32 ?_
      refine z_iastQ hx dX9_goes_33 hA (by omega) (by decide) (fun h_13 hs_14 hf_15 => ?_)
      have fr_16 : Fr h h_13 a 1 := hf_15.wd (by omega) (by omega)
      refine z_goto (tgt := 57) hx dX9_goes_34 (by decide) ?_
      refine z_vret hx hr dX9_goes_57 rfl (q_v ⟨ar_e (by unfold goes; (first | rw [if_pos (by omega)] | (rw [if_neg (by omega)]; first | rw [if_pos (by omega)] | rw [if_neg (by omega)]))) hs_14, fr_16⟩)

set_option maxHeartbeats 4000000 in
set_option maxRecDepth 20000 in
theorem kX9_hunts (g : Gt) {h : AH} {a : Nat} {f : Int → Int} {s : Int} (hA : h a = some (.inl (0, 267, f))) (hI : inv f) (hs : 0 ≤ s ∧ s < f 38) : CnV g mX9_hunts 3 [.ref a, .int (iI s)] h (QA h a 267 (hunts f s)) := by
  refine Cn.mk (by decide +kernel) (Nat.le_of_ble_eq_true rfl) ?_
  intro x sz hx hr
  show Zj g x (sz, 0, 0) h 0 [(0, .ref a), (1, .int (iI s))] []
  have hn := hI.n
  have hs1 := hI.s s (by omega)
  refine z_iconst hx dX9_hunts_0 ?_
  refine z_istore_n hx dX9_hunts_1 rfl (by decide) [1, 2, 0] (lv' := [(0, .ref a), (1, .int (iI s)), (2, .int (iI (-1)))]) rfl ?_
  refine z_iconst hx dX9_hunts_2 ?_
  refine z_istore_n hx dX9_hunts_3 rfl (by decide) [1, 2, 3, 0] (lv' := [(0, .ref a), (1, .int (iI s)), (2, .int (iI (-1))), (3, .int (iI 0))]) rfl ?_
  have hL_1 : ∀ (mm : Nat) (v2 : Int) (v3 : Int), (0 ≤ v3 ∧ v3 ≤ f 37) → (v2 = itI v3 (hbeG f s) (-1)) → f 37 - v3 < (mm : Int) → Zj g x (sz, 0, 0) h 4 [(0, .ref a), (1, .int (iI s)), (2, .int (iI v2)), (3, .int (iI v3))] [] := by
    intro mm
    induction mm with
    | zero => intro v2 v3 e3 e2 hm; exfalso; omega
    | succ mm ih =>
      intro v2 v3 e3 e2 hm
      have ih_2 := ih; clear ih
      have hg := hbe_rg (f := f) (s := s) (n := v3) (by omega)
      rw [← e2] at hg
      refine z_iload_n hx dX9_hunts_4 rfl 3 rfl ?_
      refine z_aload_n hx dX9_hunts_5 rfl 0 rfl ?_
      refine z_bipush hx dX9_hunts_6 (by decide) ?_
      refine z_iald hx dX9_hunts_8 hA (by decide) (by decide) ?_
      have rg_3 := hI.rg (37) (by decide)
      refine z_icmp_ge (tgt := 83) hx dX9_hunts_9 (by decide) (by omega) (by omega) (fun c_4 => ?_) (fun c_4 => ?_)
      ·
        have e99 : v2 = itI (f 37) (hbeG f s) (-1) := by rw [e2]; congr 1; omega
        refine z_iload_n hx dX9_hunts_83 rfl 2 rfl ?_
        refine z_iconst hx dX9_hunts_84 ?_
        refine z_icmp_eq (tgt := 109) hx dX9_hunts_85 (by decide) (by omega) (by decide) (fun c_5 => ?_) (fun c_5 => ?_)
        ·
          refine z_iconst hx dX9_hunts_109 ?_
          refine z_istore_n hx dX9_hunts_110 rfl (by decide) [1, 2, 3, 0] (lv' := [(0, .ref a), (1, .int (iI s)), (2, .int (iI v2)), (3, .int (iI 0))]) rfl ?_
          have hL_6 : ∀ (mm : Nat) (w3 : Int) (g1 : Int → Int) (h_7 : AH), (0 ≤ w3 ∧ w3 ≤ f 37) → (g1 = itI w3 (takG s) (hun1 f s)) → (inv g1 ∧ cfx f g1) → (h_7 a = some (.inl (0, 267, g1))) → (Fr h h_7 a 1) → f 37 - w3 < (mm : Int) → Zj g x (sz, 0, 0) h_7 111 [(0, .ref a), (1, .int (iI s)), (3, .int (iI w3))] [] := by
            intro mm
            induction mm with
            | zero => intro w3 g1 h_7 kv eg ig hg_8 fr_9 hm; exfalso; omega
            | succ mm ih =>
              intro w3 g1 h_7 kv eg ig hg_8 fr_9 hm
              have ih_10 := ih; clear ih
              have c26 := ig.2 26 (by decide)
              have c37 := ig.2 37 (by decide)
              have c38 := ig.2 38 (by decide)
              have hng := ig.1.n
              have hit : w3 < f 37 → inv (takG s w3 g1) ∧ cfx g1 (takG s w3 g1) := fun hlt => inv_tak ig.1 (by omega)
              refine z_iload_n hx dX9_hunts_111 rfl 2 rfl ?_
              refine z_aload_n hx dX9_hunts_112 rfl 0 rfl ?_
              refine z_bipush hx dX9_hunts_113 (by decide) ?_
              refine z_iald hx dX9_hunts_115 hg_8 (by decide) (by decide) ?_
              have rg_11 := ig.1.rg (37) (by decide)
              refine z_icmp_ge (tgt := 166) hx dX9_hunts_116 (by decide) (by omega) (by omega) (fun c_12 => ?_) (fun c_12 => ?_)
              ·
                refine z_vret hx hr dX9_hunts_166 rfl (q_v ⟨ar_e (by rw [eg, show w3 = f 37 by omega]; rfl) hg_8, fr_9⟩)
              ·
                have hp4 := ig.1.p w3 (by omega)
                refine z_aload_n hx dX9_hunts_119 rfl 0 rfl ?_
                refine z_bipush hx dX9_hunts_120 (by decide) ?_
                refine z_iload_n hx dX9_hunts_122 rfl 2 rfl ?_
                refine z_iadd hx dX9_hunts_123 ?_
                refine z_aload_n hx dX9_hunts_124 rfl 0 rfl ?_
                refine z_bipush hx dX9_hunts_125 (by decide) ?_
                refine z_iload_n hx dX9_hunts_127 rfl 2 rfl ?_
                refine z_iadd hx dX9_hunts_128 ?_
                refine z_iald hx dX9_hunts_129 hg_8 (by omega) (by decide) ?_
                have rg_13 := ig.1.rg ((17 + w3)) (by omega)
                refine z_if_ne (tgt := 153) hx dX9_hunts_130 (by decide) (by omega) (fun c_14 => ?_) (fun c_14 => ?_)
                ·
                  refine z_aload_n hx dX9_hunts_153 rfl 0 rfl ?_
                  refine z_bipush hx dX9_hunts_154 (by decide) ?_
                  refine z_iload_n hx dX9_hunts_156 rfl 2 rfl ?_
                  refine z_iadd hx dX9_hunts_157 ?_
                  refine z_iald hx dX9_hunts_158 hg_8 (by omega) (by decide) ?_
                  have rg_15 := ig.1.rg ((17 + w3)) (by omega)
                  refine z_iastQ hx dX9_hunts_159 hg_8 (by omega) (by decide) (fun h_16 hs_17 hf_18 => ?_)
                  have fr_19 := fr_9.tr (hf_18.wd (by omega) (by omega))
                  refine z_iinc hx dX9_hunts_160 (by decide) 2 rfl [1, 2, 0] (lv' := [(0, .ref a), (1, .int (iI s)), (3, .int (iI (w3 + 1)))]) rfl ?_
                  refine z_goto (tgt := 111) hx dX9_hunts_163 (by decide) ?_
                  have ec : (fup g1 (17 + w3) (g1 (17 + w3))) = takG s w3 g1 := by unfold takG; first | rw [if_pos (by omega)] | rw [if_neg (by intro w; omega)]
                  exact ih_10 _ (fup g1 (17 + w3) (g1 (17 + w3))) _ (by omega) (by rw [itI_s _ _ (by omega), ← eg]; exact ec) (by rw [ec]; exact ⟨(hit (by omega)).1, ig.2.tr (hit (by omega)).2⟩) hs_17 fr_19 (by omega)
                ·
                  refine z_aload_n hx dX9_hunts_133 rfl 0 rfl ?_
                  refine z_bipush hx dX9_hunts_134 (by decide) ?_
                  refine z_iload_n hx dX9_hunts_136 rfl 2 rfl ?_
                  refine z_iadd hx dX9_hunts_137 ?_
                  refine z_iald hx dX9_hunts_138 hg_8 (by omega) (by decide) ?_
                  have rg_20 := ig.1.rg ((11 + w3)) (by omega)
                  refine z_aload_n hx dX9_hunts_139 rfl 0 rfl ?_
                  refine z_bipush hx dX9_hunts_140 (by decide) ?_
                  refine z_iload_n hx dX9_hunts_142 rfl 1 rfl ?_
                  refine z_iadd hx dX9_hunts_143 ?_
                  refine z_iald hx dX9_hunts_144 hg_8 (by omega) (by decide) ?_
                  have rg_21 := ig.1.rg ((23 + s)) (by omega)
                  refine z_icmp_ne (tgt := 153) hx dX9_hunts_145 (by decide) (by omega) (by omega) (fun c_22 => ?_) (fun c_22 => ?_)
                  ·
                    refine z_aload_n hx dX9_hunts_153 rfl 0 rfl ?_
                    refine z_bipush hx dX9_hunts_154 (by decide) ?_
                    refine z_iload_n hx dX9_hunts_156 rfl 2 rfl ?_
                    refine z_iadd hx dX9_hunts_157 ?_
                    refine z_iald hx dX9_hunts_158 hg_8 (by omega) (by decide) ?_
                    have rg_23 := ig.1.rg ((17 + w3)) (by omega)
                    refine z_iastQ hx dX9_hunts_159 hg_8 (by omega) (by decide) (fun h_24 hs_25 hf_26 => ?_)
                    have fr_27 := fr_9.tr (hf_26.wd (by omega) (by omega))
                    refine z_iinc hx dX9_hunts_160 (by decide) 2 rfl [1, 2, 0] (lv' := [(0, .ref a), (1, .int (iI s)), (3, .int (iI (w3 + 1)))]) rfl ?_
                    refine z_goto (tgt := 111) hx dX9_hunts_163 (by decide) ?_
                    have ec : (fup g1 (17 + w3) (g1 (17 + w3))) = takG s w3 g1 := by unfold takG; first | rw [if_pos (by omega)] | rw [if_neg (by intro w; omega)]
                    exact ih_10 _ (fup g1 (17 + w3) (g1 (17 + w3))) _ (by omega) (by rw [itI_s _ _ (by omega), ← eg]; exact ec) (by rw [ec]; exact ⟨(hit (by omega)).1, ig.2.tr (hit (by omega)).2⟩) hs_25 fr_27 (by omega)
                  ·
                    refine z_bipush hx dX9_hunts_148 (by decide) ?_
                    refine z_goto (tgt := 159) hx dX9_hunts_150 (by decide) ?_
                    refine z_iastQ hx dX9_hunts_159 hg_8 (by omega) (by decide) (fun h_28 hs_29 hf_30 => ?_)
                    have fr_31 := fr_9.tr (hf_30.wd (by omega) (by omega))
                    refine z_iinc hx dX9_hunts_160 (by decide) 2 rfl [1, 2, 0] (lv' := [(0, .ref a), (1, .int (iI s)), (3, .int (iI (w3 + 1)))]) rfl ?_
                    refine z_goto (tgt := 111) hx dX9_hunts_163 (by decide) ?_
                    have ec : (fup g1 (17 + w3) 6) = takG s w3 g1 := by unfold takG; first | rw [if_pos (by omega)] | rw [if_neg (by intro w; omega)]
                    exact ih_10 _ (fup g1 (17 + w3) 6) _ (by omega) (by rw [itI_s _ _ (by omega), ← eg]; exact ec) (by rw [ec]; exact ⟨(hit (by omega)).1, ig.2.tr (hit (by omega)).2⟩) hs_29 fr_31 (by omega)
          refine z_sub [0, 1, 3] (lv' := [(0, .ref a), (1, .int (iI s)), (3, .int (iI 0))]) rfl ?_
          exact hL_6 ((f 37 - 0) + 1).toNat _ f _ (by omega) (by rw [itI_0 _ _ rfl]; unfold hun1 hbe; rw [← e99]; first | rw [if_pos (by omega)] | rw [if_neg (by omega)]) (by first | exact ⟨hI, cfx.rf⟩ | exact ⟨inv_sh hI (by omega) (stp_rg hs1 hp2.1), cfx_fup (by omega)⟩) hA Fr.rf (by omega)
        ·
          have hp2 := hI.p v2 (by omega)
          refine z_aload_n hx dX9_hunts_88 rfl 0 rfl ?_
          refine z_bipush hx dX9_hunts_89 (by decide) ?_
          refine z_iload_n hx dX9_hunts_91 rfl 1 rfl ?_
          refine z_iadd hx dX9_hunts_92 ?_
          refine z_aload_n hx dX9_hunts_93 rfl 0 rfl ?_
          refine z_bipush hx dX9_hunts_94 (by decide) ?_
          refine z_iload_n hx dX9_hunts_96 rfl 1 rfl ?_
          refine z_iadd hx dX9_hunts_97 ?_
          refine z_iald hx dX9_hunts_98 hA (by omega) (by decide) ?_
          have rg_32 := hI.rg ((23 + s)) (by omega)
          refine z_aload_n hx dX9_hunts_99 rfl 0 rfl ?_
          refine z_bipush hx dX9_hunts_100 (by decide) ?_
          refine z_iload_n hx dX9_hunts_102 rfl 2 rfl ?_
          refine z_iadd hx dX9_hunts_103 ?_
          refine z_iald hx dX9_hunts_104 hA (by omega) (by decide) ?_
          have rg_33 := hI.rg ((11 + v2)) (by omega)
          refine z_cSI (as := [.int (iI (f (23 + s))), .int (iI (f (11 + v2)))]) (rest := [.int (iI (23 + s)), .ref a]) hx dX9_hunts_105 lk_X9_165 wt_X9_step mo_X9_step (kX9_step g (a := (f (23 + s))) (b := (f (11 + v2))) (by omega) (by omega)) (by decide) rfl rfl (Nat.le_of_ble_eq_true rfl) ?_
          refine z_iastQ hx dX9_hunts_108 hA (by omega) (by decide) (fun h_34 hs_35 hf_36 => ?_)
          have fr_37 : Fr h h_34 a 1 := hf_36.wd (by omega) (by omega)
          refine z_iconst hx dX9_hunts_109 ?_
          refine z_istore_n hx dX9_hunts_110 rfl (by decide) [1, 2, 3, 0] (lv' := [(0, .ref a), (1, .int (iI s)), (2, .int (iI v2)), (3, .int (iI 0))]) rfl ?_
          have hL_38 : ∀ (mm : Nat) (w3 : Int) (g1 : Int → Int) (h_39 : AH), (0 ≤ w3 ∧ w3 ≤ f 37) → (g1 = itI w3 (takG s) (hun1 f s)) → (inv g1 ∧ cfx f g1) → (h_39 a = some (.inl (0, 267, g1))) → (Fr h h_39 a 1) → f 37 - w3 < (mm : Int) → Zj g x (sz, 0, 0) h_39 111 [(0, .ref a), (1, .int (iI s)), (3, .int (iI w3))] [] := by
            intro mm
            induction mm with
            | zero => intro w3 g1 h_39 kv eg ig hg_40 fr_41 hm; exfalso; omega
            | succ mm ih =>
              intro w3 g1 h_39 kv eg ig hg_40 fr_41 hm
              have ih_42 := ih; clear ih
              have c26 := ig.2 26 (by decide)
              have c37 := ig.2 37 (by decide)
              have c38 := ig.2 38 (by decide)
              have hng := ig.1.n
              have hit : w3 < f 37 → inv (takG s w3 g1) ∧ cfx g1 (takG s w3 g1) := fun hlt => inv_tak ig.1 (by omega)
              refine z_iload_n hx dX9_hunts_111 rfl 2 rfl ?_
              refine z_aload_n hx dX9_hunts_112 rfl 0 rfl ?_
              refine z_bipush hx dX9_hunts_113 (by decide) ?_
              refine z_iald hx dX9_hunts_115 hg_40 (by decide) (by decide) ?_
              have rg_43 := ig.1.rg (37) (by decide)
              refine z_icmp_ge (tgt := 166) hx dX9_hunts_116 (by decide) (by omega) (by omega) (fun c_44 => ?_) (fun c_44 => ?_)
              ·
                refine z_vret hx hr dX9_hunts_166 rfl (q_v ⟨ar_e (by rw [eg, show w3 = f 37 by omega]; rfl) hg_40, fr_41⟩)
              ·
                have hp4 := ig.1.p w3 (by omega)
                refine z_aload_n hx dX9_hunts_119 rfl 0 rfl ?_
                refine z_bipush hx dX9_hunts_120 (by decide) ?_
                refine z_iload_n hx dX9_hunts_122 rfl 2 rfl ?_
                refine z_iadd hx dX9_hunts_123 ?_
                refine z_aload_n hx dX9_hunts_124 rfl 0 rfl ?_
                refine z_bipush hx dX9_hunts_125 (by decide) ?_
                refine z_iload_n hx dX9_hunts_127 rfl 2 rfl ?_
                refine z_iadd hx dX9_hunts_128 ?_
                refine z_iald hx dX9_hunts_129 hg_40 (by omega) (by decide) ?_
                have rg_45 := ig.1.rg ((17 + w3)) (by omega)
                refine z_if_ne (tgt := 153) hx dX9_hunts_130 (by decide) (by omega) (fun c_46 => ?_) (fun c_46 => ?_)
                ·
                  refine z_aload_n hx dX9_hunts_153 rfl 0 rfl ?_
                  refine z_bipush hx dX9_hunts_154 (by decide) ?_
                  refine z_iload_n hx dX9_hunts_156 rfl 2 rfl ?_
                  refine z_iadd hx dX9_hunts_157 ?_
                  refine z_iald hx dX9_hunts_158 hg_40 (by omega) (by decide) ?_
                  have rg_47 := ig.1.rg ((17 + w3)) (by omega)
                  refine z_iastQ hx dX9_hunts_159 hg_40 (by omega) (by decide) (fun h_48 hs_49 hf_50 => ?_)
                  have fr_51 := fr_41.tr (hf_50.wd (by omega) (by omega))
                  refine z_iinc hx dX9_hunts_160 (by decide) 2 rfl [1, 2, 0] (lv' := [(0, .ref a), (1, .int (iI s)), (3, .int (iI (w3 + 1)))]) rfl ?_
                  refine z_goto (tgt := 111) hx dX9_hunts_163 (by decide) ?_
                  have ec : (fup g1 (17 + w3) (g1 (17 + w3))) = takG s w3 g1 := by unfold takG; first | rw [if_pos (by omega)] | rw [if_neg (by intro w; omega)]
                  exact ih_42 _ (fup g1 (17 + w3) (g1 (17 + w3))) _ (by omega) (by rw [itI_s _ _ (by omega), ← eg]; exact ec) (by rw [ec]; exact ⟨(hit (by omega)).1, ig.2.tr (hit (by omega)).2⟩) hs_49 fr_51 (by omega)
                ·
                  refine z_aload_n hx dX9_hunts_133 rfl 0 rfl ?_
                  refine z_bipush hx dX9_hunts_134 (by decide) ?_
                  refine z_iload_n hx dX9_hunts_136 rfl 2 rfl ?_
                  refine z_iadd hx dX9_hunts_137 ?_
                  refine z_iald hx dX9_hunts_138 hg_40 (by omega) (by decide) ?_
                  have rg_52 := ig.1.rg ((11 + w3)) (by omega)
                  refine z_aload_n hx dX9_hunts_139 rfl 0 rfl ?_
                  refine z_bipush hx dX9_hunts_140 (by decide) ?_
                  refine z_iload_n hx dX9_hunts_142 rfl 1 rfl ?_
                  refine z_iadd hx dX9_hunts_143 ?_
                  refine z_iald hx dX9_hunts_144 hg_40 (by omega) (by decide) ?_
                  have rg_53 := ig.1.rg ((23 + s)) (by omega)
                  refine z_icmp_ne (tgt := 153) hx dX9_hunts_145 (by decide) (by omega) (by omega) (fun c_54 => ?_) (fun c_54 => ?_)
                  ·
                    refine z_aload_n hx dX9_hunts_153 rfl 0 rfl ?_
                    refine z_bipush hx dX9_hunts_154 (by decide) ?_
                    refine z_iload_n hx dX9_hunts_156 rfl 2 rfl ?_
                    refine z_iadd hx dX9_hunts_157 ?_
                    refine z_iald hx dX9_hunts_158 hg_40 (by omega) (by decide) ?_
                    have rg_55 := ig.1.rg ((17 + w3)) (by omega)
                    refine z_iastQ hx dX9_hunts_159 hg_40 (by omega) (by decide) (fun h_56 hs_57 hf_58 => ?_)
                    have fr_59 := fr_41.tr (hf_58.wd (by omega) (by omega))
                    refine z_iinc hx dX9_hunts_160 (by decide) 2 rfl [1, 2, 0] (lv' := [(0, .ref a), (1, .int (iI s)), (3, .int (iI (w3 + 1)))]) rfl ?_
                    refine z_goto (tgt := 111) hx dX9_hunts_163 (by decide) ?_
                    have ec : (fup g1 (17 + w3) (g1 (17 + w3))) = takG s w3 g1 := by unfold takG; first | rw [if_pos (by omega)] | rw [if_neg (by intro w; omega)]
                    exact ih_42 _ (fup g1 (17 + w3) (g1 (17 + w3))) _ (by omega) (by rw [itI_s _ _ (by omega), ← eg]; exact ec) (by rw [ec]; exact ⟨(hit (by omega)).1, ig.2.tr (hit (by omega)).2⟩) hs_57 fr_59 (by omega)
                  ·
                    refine z_bipush hx dX9_hunts_148 (by decide) ?_
                    refine z_goto (tgt := 159) hx dX9_hunts_150 (by decide) ?_
                    refine z_iastQ hx dX9_hunts_159 hg_40 (by omega) (by decide) (fun h_60 hs_61 hf_62 => ?_)
                    have fr_63 := fr_41.tr (hf_62.wd (by omega) (by omega))
                    refine z_iinc hx dX9_hunts_160 (by decide) 2 rfl [1, 2, 0] (lv' := [(0, .ref a), (1, .int (iI s)), (3, .int (iI (w3 + 1)))]) rfl ?_
                    refine z_goto (tgt := 111) hx dX9_hunts_163 (by decide) ?_
                    have ec : (fup g1 (17 + w3) 6) = takG s w3 g1 := by unfold takG; first | rw [if_pos (by omega)] | rw [if_neg (by intro w; omega)]
                    exact ih_42 _ (fup g1 (17 + w3) 6) _ (by omega) (by rw [itI_s _ _ (by omega), ← eg]; exact ec) (by rw [ec]; exact ⟨(hit (by omega)).1, ig.2.tr (hit (by omega)).2⟩) hs_61 fr_63 (by omega)
          refine z_sub [0, 1, 3] (lv' := [(0, .ref a), (1, .int (iI s)), (3, .int (iI 0))]) rfl ?_
          exact hL_38 ((f 37 - 0) + 1).toNat _ (fup f (23 + s) (stp (f (23 + s)) (f (11 + v2)))) _ (by omega) (by rw [itI_0 _ _ rfl]; unfold hun1 hbe; rw [← e99]; first | rw [if_pos (by omega)] | rw [if_neg (by omega)]) (by first | exact ⟨hI, cfx.rf⟩ | exact ⟨inv_sh hI (by omega) (stp_rg hs1 hp2.1), cfx_fup (by omega)⟩) hs_35 fr_37 (by omega)
      ·
        have hp3 := hI.p v3 (by omega)
        refine z_iload_n hx dX9_hunts_12 rfl 2 rfl ?_
        refine z_iconst hx dX9_hunts_13 ?_
        refine z_icmp_eq (tgt := 50) hx dX9_hunts_14 (by decide) (by omega) (by decide) (fun c_64 => ?_) (fun c_64 => ?_)
        ·
          refine z_iconst hx dX9_hunts_50 ?_
          refine z_goto (tgt := 55) hx dX9_hunts_51 (by decide) ?_
          refine z_istore hx dX9_hunts_55 (by decide) [1, 2, 3, 4, 0] (lv' := [(0, .ref a), (1, .int (iI s)), (2, .int (iI v2)), (3, .int (iI v3)), (4, .int (iI 1))]) rfl ?_
          refine z_aload_n hx dX9_hunts_57 rfl 0 rfl ?_
          refine z_bipush hx dX9_hunts_58 (by decide) ?_
          refine z_iload_n hx dX9_hunts_60 rfl 3 rfl ?_
          refine z_iadd hx dX9_hunts_61 ?_
          refine z_iald hx dX9_hunts_62 hA (by omega) (by decide) ?_
          have rg_65 := hI.rg ((17 + v3)) (by omega)
          refine z_if_ne (tgt := 75) hx dX9_hunts_63 (by decide) (by omega) (fun c_66 => ?_) (fun c_66 => ?_)
          ·
            refine z_iload_n hx dX9_hunts_75 rfl 2 rfl ?_
            refine z_istore_n hx dX9_hunts_76 rfl (by decide) [1, 2, 0, 3, 4] (lv' := [(0, .ref a), (1, .int (iI s)), (2, .int (iI v2)), (3, .int (iI v3)), (4, .int (iI 1))]) rfl ?_
            refine z_iinc hx dX9_hunts_77 (by decide) 3 rfl [1, 2, 3, 0, 4] (lv' := [(0, .ref a), (1, .int (iI s)), (2, .int (iI v2)), (3, .int (iI (v3 + 1))), (4, .int (iI 1))]) rfl ?_
            refine z_goto (tgt := 4) hx dX9_hunts_80 (by decide) ?_
            refine z_sub [0, 1, 2, 3] (lv' := [(0, .ref a), (1, .int (iI s)), (2, .int (iI v2)), (3, .int (iI (v3 + 1)))]) rfl ?_
            exact ih_2 _ _ (by omega) (by rw [itI_s _ _ (by omega), ← e2]; unfold hbeG; (first | rw [if_pos (by refine ⟨by omega, ?_⟩; first | (left; omega) | (right; omega))] | rw [if_neg (by intro w; omega)]))  (by omega)
          ·
            refine z_iload hx dX9_hunts_66 4 rfl ?_
            refine z_if_eq (tgt := 75) hx dX9_hunts_68 (by decide) (by decide) (fun q => absurd q (by decide)) (fun _ => ?_)
            refine z_iload_n hx dX9_hunts_71 rfl 3 rfl ?_
            refine z_goto (tgt := 76) hx dX9_hunts_72 (by decide) ?_
            refine z_istore_n hx dX9_hunts_76 rfl (by decide) [1, 2, 0, 3, 4] (lv' := [(0, .ref a), (1, .int (iI s)), (2, .int (iI v3)), (3, .int (iI v3)), (4, .int (iI 1))]) rfl ?_
            refine z_iinc hx dX9_hunts_77 (by decide) 3 rfl [1, 2, 3, 0, 4] (lv' := [(0, .ref a), (1, .int (iI s)), (2, .int (iI v3)), (3, .int (iI (v3 + 1))), (4, .int (iI 1))]) rfl ?_
            refine z_goto (tgt := 4) hx dX9_hunts_80 (by decide) ?_
            refine z_sub [0, 1, 2, 3] (lv' := [(0, .ref a), (1, .int (iI s)), (2, .int (iI v3)), (3, .int (iI (v3 + 1)))]) rfl ?_
            exact ih_2 _ _ (by omega) (by rw [itI_s _ _ (by omega), ← e2]; unfold hbeG; (first | rw [if_pos (by refine ⟨by omega, ?_⟩; first | (left; omega) | (right; omega))] | rw [if_neg (by intro w; omega)]))  (by omega)
        ·
          refine z_aload_n hx dX9_hunts_17 rfl 0 rfl ?_
          refine z_bipush hx dX9_hunts_18 (by decide) ?_
          refine z_iload_n hx dX9_hunts_20 rfl 3 rfl ?_
          refine z_iadd hx dX9_hunts_21 ?_
          refine z_iald hx dX9_hunts_22 hA (by omega) (by decide) ?_
          have rg_68 := hI.rg ((11 + v3)) (by omega)
          refine z_aload_n hx dX9_hunts_23 rfl 0 rfl ?_
          refine z_bipush hx dX9_hunts_24 (by decide) ?_
          refine z_iload_n hx dX9_hunts_26 rfl 1 rfl ?_
          refine z_iadd hx dX9_hunts_27 ?_
          refine z_iald hx dX9_hunts_28 hA (by omega) (by decide) ?_
          have rg_69 := hI.rg ((23 + s)) (by omega)
          have fr1 := far_rg hp3.1 hs1
          refine z_cSI (as := [.int (iI (f (11 + v3))), .int (iI (f (23 + s)))]) (rest := []) hx dX9_hunts_29 lk_X9_158 wt_X9_far mo_X9_far (kX9_far g (a := (f (11 + v3))) (b := (f (23 + s))) (by omega) (by omega)) (by decide) rfl rfl (Nat.le_of_ble_eq_true rfl) ?_
          refine z_aload_n hx dX9_hunts_32 rfl 0 rfl ?_
          refine z_bipush hx dX9_hunts_33 (by decide) ?_
          refine z_iload_n hx dX9_hunts_35 rfl 2 rfl ?_
          refine z_iadd hx dX9_hunts_36 ?_
          refine z_iald hx dX9_hunts_37 hA (by omega) (by decide) ?_
          have rg_70 := hI.rg ((11 + v2)) (by omega)
          refine z_aload_n hx dX9_hunts_38 rfl 0 rfl ?_
          refine z_bipush hx dX9_hunts_39 (by decide) ?_
          refine z_iload_n hx dX9_hunts_41 rfl 1 rfl ?_
          refine z_iadd hx dX9_hunts_42 ?_
          refine z_iald hx dX9_hunts_43 hA (by omega) (by decide) ?_
          have rg_71 := hI.rg ((23 + s)) (by omega)
          have hp2 := hI.p v2 (by omega)
          have fr2 := far_rg hp2.1 hs1
          refine z_cSI (as := [.int (iI (f (11 + v2))), .int (iI (f (23 + s)))]) (rest := [.int (iI (far (f (11 + v3)) (f (23 + s))))]) hx dX9_hunts_44 lk_X9_158 wt_X9_far mo_X9_far (kX9_far g (a := (f (11 + v2))) (b := (f (23 + s))) (by omega) (by omega)) (by decide) rfl rfl (Nat.le_of_ble_eq_true rfl) ?_
          refine z_icmp_ge (tgt := 54) hx dX9_hunts_47 (by decide) (by omega) (by omega) (fun c_72 => ?_) (fun c_72 => ?_)
          ·
            refine z_iconst hx dX9_hunts_54 ?_
            refine z_istore hx dX9_hunts_55 (by decide) [1, 2, 3, 4, 0] (lv' := [(0, .ref a), (1, .int (iI s)), (2, .int (iI v2)), (3, .int (iI v3)), (4, .int (iI 0))]) rfl ?_
            refine z_aload_n hx dX9_hunts_57 rfl 0 rfl ?_
            refine z_bipush hx dX9_hunts_58 (by decide) ?_
            refine z_iload_n hx dX9_hunts_60 rfl 3 rfl ?_
            refine z_iadd hx dX9_hunts_61 ?_
            refine z_iald hx dX9_hunts_62 hA (by omega) (by decide) ?_
            have rg_73 := hI.rg ((17 + v3)) (by omega)
            refine z_if_ne (tgt := 75) hx dX9_hunts_63 (by decide) (by omega) (fun c_74 => ?_) (fun c_74 => ?_)
            ·
              refine z_iload_n hx dX9_hunts_75 rfl 2 rfl ?_
              refine z_istore_n hx dX9_hunts_76 rfl (by decide) [1, 2, 0, 3, 4] (lv' := [(0, .ref a), (1, .int (iI s)), (2, .int (iI v2)), (3, .int (iI v3)), (4, .int (iI 0))]) rfl ?_
              refine z_iinc hx dX9_hunts_77 (by decide) 3 rfl [1, 2, 3, 0, 4] (lv' := [(0, .ref a), (1, .int (iI s)), (2, .int (iI v2)), (3, .int (iI (v3 + 1))), (4, .int (iI 0))]) rfl ?_
              refine z_goto (tgt := 4) hx dX9_hunts_80 (by decide) ?_
              refine z_sub [0, 1, 2, 3] (lv' := [(0, .ref a), (1, .int (iI s)), (2, .int (iI v2)), (3, .int (iI (v3 + 1)))]) rfl ?_
              exact ih_2 _ _ (by omega) (by rw [itI_s _ _ (by omega), ← e2]; unfold hbeG; (first | rw [if_pos (by refine ⟨by omega, ?_⟩; first | (left; omega) | (right; omega))] | rw [if_neg (by intro w; omega)]))  (by omega)
            ·
              refine z_iload hx dX9_hunts_66 4 rfl ?_
              refine z_if_eq (tgt := 75) hx dX9_hunts_68 (by decide) (by decide) (fun _ => ?_) (fun q => absurd q (by decide))
              refine z_iload_n hx dX9_hunts_75 rfl 2 rfl ?_
              refine z_istore_n hx dX9_hunts_76 rfl (by decide) [1, 2, 0, 3, 4] (lv' := [(0, .ref a), (1, .int (iI s)), (2, .int (iI v2)), (3, .int (iI v3)), (4, .int (iI 0))]) rfl ?_
              refine z_iinc hx dX9_hunts_77 (by decide) 3 rfl [1, 2, 3, 0, 4] (lv' := [(0, .ref a), (1, .int (iI s)), (2, .int (iI v2)), (3, .int (iI (v3 + 1))), (4, .int (iI 0))]) rfl ?_
              refine z_goto (tgt := 4) hx dX9_hunts_80 (by decide) ?_
              refine z_sub [0, 1, 2, 3] (lv' := [(0, .ref a), (1, .int (iI s)), (2, .int (iI v2)), (3, .int (iI (v3 + 1)))]) rfl ?_
              exact ih_2 _ _ (by omega) (by rw [itI_s _ _ (by omega), ← e2]; unfold hbeG; (first | rw [if_pos (by refine ⟨by omega, ?_⟩; first | (left; omega) | (right; omega))] | rw [if_neg (by intro w; omega)]))  (by omega)
          ·
            refine z_iconst hx dX9_hunts_50 ?_
            refine z_goto (tgt := 55) hx dX9_hunts_51 (by decide) ?_
            refine z_istore hx dX9_hunts_55 (by decide) [1, 2, 3, 4, 0] (lv' := [(0, .ref a), (1, .int (iI s)), (2, .int (iI v2)), (3, .int (iI v3)), (4, .int (iI 1))]) rfl ?_
            refine z_aload_n hx dX9_hunts_57 rfl 0 rfl ?_
            refine z_bipush hx dX9_hunts_58 (by decide) ?_
            refine z_iload_n hx dX9_hunts_60 rfl 3 rfl ?_
            refine z_iadd hx dX9_hunts_61 ?_
            refine z_iald hx dX9_hunts_62 hA (by omega) (by decide) ?_
            have rg_76 := hI.rg ((17 + v3)) (by omega)
            refine z_if_ne (tgt := 75) hx dX9_hunts_63 (by decide) (by omega) (fun c_77 => ?_) (fun c_77 => ?_)
            ·
              refine z_iload_n hx dX9_hunts_75 rfl 2 rfl ?_
              refine z_istore_n hx dX9_hunts_76 rfl (by decide) [1, 2, 0, 3, 4] (lv' := [(0, .ref a), (1, .int (iI s)), (2, .int (iI v2)), (3, .int (iI v3)), (4, .int (iI 1))]) rfl ?_
              refine z_iinc hx dX9_hunts_77 (by decide) 3 rfl [1, 2, 3, 0, 4] (lv' := [(0, .ref a), (1, .int (iI s)), (2, .int (iI v2)), (3, .int (iI (v3 + 1))), (4, .int (iI 1))]) rfl ?_
              refine z_goto (tgt := 4) hx dX9_hunts_80 (by decide) ?_
              refine z_sub [0, 1, 2, 3] (lv' := [(0, .ref a), (1, .int (iI s)), (2, .int (iI v2)), (3, .int (iI (v3 + 1)))]) rfl ?_
              exact ih_2 _ _ (by omega) (by rw [itI_s _ _ (by omega), ← e2]; unfold hbeG; (first | rw [if_pos (by refine ⟨by omega, ?_⟩; first | (left; omega) | (right; omega))] | rw [if_neg (by intro w; omega)]))  (by omega)
            ·
              refine z_iload hx dX9_hunts_66 4 rfl ?_
              refine z_if_eq (tgt := 75) hx dX9_hunts_68 (by decide) (by decide) (fun q => absurd q (by decide)) (fun _ => ?_)
              refine z_iload_n hx dX9_hunts_71 rfl 3 rfl ?_
              refine z_goto (tgt := 76) hx dX9_hunts_72 (by decide) ?_
              refine z_istore_n hx dX9_hunts_76 rfl (by decide) [1, 2, 0, 3, 4] (lv' := [(0, .ref a), (1, .int (iI s)), (2, .int (iI v3)), (3, .int (iI v3)), (4, .int (iI 1))]) rfl ?_
              refine z_iinc hx dX9_hunts_77 (by decide) 3 rfl [1, 2, 3, 0, 4] (lv' := [(0, .ref a), (1, .int (iI s)), (2, .int (iI v3)), (3, .int (iI (v3 + 1))), (4, .int (iI 1))]) rfl ?_
              refine z_goto (tgt := 4) hx dX9_hunts_80 (by decide) ?_
              refine z_sub [0, 1, 2, 3] (lv' := [(0, .ref a), (1, .int (iI s)), (2, .int (iI v3)), (3, .int (iI (v3 + 1)))]) rfl ?_
              exact ih_2 _ _ (by omega) (by rw [itI_s _ _ (by omega), ← e2]; unfold hbeG; (first | rw [if_pos (by refine ⟨by omega, ?_⟩; first | (left; omega) | (right; omega))] | rw [if_neg (by intro w; omega)]))  (by omega)
  exact hL_1 ((f 37 - 0) + 1).toNat _ _ (by omega) (by rfl)  (by omega)

