/-! new objects of both classes -/
def ZF : Nat → Int → Int := fun _ _ => 0
def S00 : Nat → Int → Int := fun j => if j = 0 then (fun i => if i = 7 then 1 else 0) else fun _ => 0
theorem wn_X8 : (.instantiable RX8 13 : Cond) ∈ lw_tbl := List.mem_of_getElem? (i := 76) (by decide +kernel)
theorem wn_X3 : (.instantiable RX3 7 : Cond) ∈ lw_tbl := List.mem_of_getElem? (i := 84) (by decide +kernel)
theorem wn_X1 : (.instantiable RX1 13 : Cond) ∈ lw_tbl := List.mem_of_getElem? (i := 90) (by decide +kernel)
theorem wn_X5 : (.instantiable RX5 2 : Cond) ∈ lw_tbl := List.mem_of_getElem? (i := 153) (by decide +kernel)
theorem wn_X7 : (.instantiable RX7 6 : Cond) ∈ lw_tbl := List.mem_of_getElem? (i := 200) (by decide +kernel)
theorem wn_X6 : (.instantiable RX6 5 : Cond) ∈ lw_tbl := List.mem_of_getElem? (i := 232) (by decide +kernel)
theorem wn_X2 : (.instantiable RX2 2 : Cond) ∈ lw_tbl := List.mem_of_getElem? (i := 258) (by decide +kernel)
theorem wn_X9 : (.instantiable RX9 17 : Cond) ∈ lw_tbl := List.mem_of_getElem? (i := 845) (by decide +kernel)

set_option maxHeartbeats 4000000 in
set_option maxRecDepth 20000 in
theorem kX1_init (g : Gt) {h : AH} {a : Nat} (h0 : h a = some (.inr (.inr (1, [.null, .null, .null, .null, .null, .null, .null, .null, .null, .int (iI 0), .int (iI 0), .int (iI 0), .int (iI 0)])))) : Cna g mX1_init 2 [.ref a] h (a + 1) 9 45 (fun v h' sz' => (v = none ∧ sz' = a + 10) ∧ CM h' a ZF ∧ Fr h h' a 10) := by
  refine Cna.mk (by decide +kernel) (Nat.le_of_ble_eq_true rfl) ?_
  intro x hx hr
  show Zj g x (a + 1, 0, 0) h 0 [(0, .ref a)] []
  refine z_aload_n hx dX1_init_0 rfl 0 rfl ?_
  refine z_objinit hx dX1_init_1 wk_X1_3 (by decide) (Nat.le_of_ble_eq_true rfl) ?_
  refine z_aload_n hx dX1_init_4 rfl 0 rfl ?_
  refine z_iconst hx dX1_init_5 ?_
  refine z_newai (n := 5) hx dX1_init_6 (by decide) rfl ⟨Nat.le_of_ble_eq_true rfl, Nat.le_of_ble_eq_true rfl⟩ ?_
  show Zj g x (a + 2, 1, 5) (hup h (a + 1) (.inl (0, 5, fun _ => 0))) 8 [(0, .ref a)] [.ref (a + 1), .ref a]
  obtain ⟨h_1, eh_1⟩ : ∃ hh, hh = hup h (a + 1) (.inl (0, 5, fun _ => 0)) := ⟨_, rfl⟩
  have hs_2 : h_1 (a + 1) = some (.inl (0, 5, fun _ => 0)) := by rw [eh_1]; exact hup_s _ _ _
  have hf_3 : Fr h h_1 (a + 1) 1 := by rw [eh_1]; exact hup_Fr _ _ _
  rw [← eh_1]
  have h_4 := hf_3.at (by omega) h0
  have fr_5 : Fr h h_1 a 10 := hf_3.wd (by omega) (by omega)
  refine z_putF hx dX1_init_8 ff_X1_9 rfl h_4 ⟨rfl, rfl⟩ (Nat.le_of_ble_eq_true rfl) ?_
  show Zj g x (a + 2, 1, 5) (hup h_1 a (.inr (.inr (1, [.ref (a + 1), .null, .null, .null, .null, .null, .null, .null, .null, .int (iI 0), .int (iI 0), .int (iI 0), .int (iI 0)])))) 11 [(0, .ref a)] []
  obtain ⟨h_6, eh_6⟩ : ∃ hh, hh = hup h_1 a (.inr (.inr (1, [.ref (a + 1), .null, .null, .null, .null, .null, .null, .null, .null, .int (iI 0), .int (iI 0), .int (iI 0), .int (iI 0)]))) := ⟨_, rfl⟩
  have hs_7 : h_6 a = some (.inr (.inr (1, [.ref (a + 1), .null, .null, .null, .null, .null, .null, .null, .null, .int (iI 0), .int (iI 0), .int (iI 0), .int (iI 0)]))) := by rw [eh_6]; exact hup_s _ _ _
  have hf_8 : Fr h_1 h_6 a 1 := by rw [eh_6]; exact hup_Fr _ _ _
  rw [← eh_6]
  have h_9 := hf_8.at (by omega) hs_2
  have fr_10 := fr_5.tr (hf_8.wd (by omega) (by omega))
  refine z_aload_n hx dX1_init_11 rfl 0 rfl ?_
  refine z_iconst hx dX1_init_12 ?_
  refine z_newai (n := 5) hx dX1_init_13 (by decide) rfl ⟨Nat.le_of_ble_eq_true rfl, Nat.le_of_ble_eq_true rfl⟩ ?_
  show Zj g x (a + 3, 2, 10) (hup h_6 (a + 2) (.inl (0, 5, fun _ => 0))) 15 [(0, .ref a)] [.ref (a + 2), .ref a]
  obtain ⟨h_11, eh_11⟩ : ∃ hh, hh = hup h_6 (a + 2) (.inl (0, 5, fun _ => 0)) := ⟨_, rfl⟩
  have hs_12 : h_11 (a + 2) = some (.inl (0, 5, fun _ => 0)) := by rw [eh_11]; exact hup_s _ _ _
  have hf_13 : Fr h_6 h_11 (a + 2) 1 := by rw [eh_11]; exact hup_Fr _ _ _
  rw [← eh_11]
  have h_14 := hf_13.at (by omega) hs_7
  have h_15 := hf_13.at (by omega) h_9
  have fr_16 := fr_10.tr (hf_13.wd (by omega) (by omega))
  refine z_putF hx dX1_init_15 ff_X1_15 rfl h_14 ⟨rfl, rfl⟩ (Nat.le_of_ble_eq_true rfl) ?_
  show Zj g x (a + 3, 2, 10) (hup h_11 a (.inr (.inr (1, [.ref (a + 1), .ref (a + 2), .null, .null, .null, .null, .null, .null, .null, .int (iI 0), .int (iI 0), .int (iI 0), .int (iI 0)])))) 18 [(0, .ref a)] []
  obtain ⟨h_17, eh_17⟩ : ∃ hh, hh = hup h_11 a (.inr (.inr (1, [.ref (a + 1), .ref (a + 2), .null, .null, .null, .null, .null, .null, .null, .int (iI 0), .int (iI 0), .int (iI 0), .int (iI 0)]))) := ⟨_, rfl⟩
  have hs_18 : h_17 a = some (.inr (.inr (1, [.ref (a + 1), .ref (a + 2), .null, .null, .null, .null, .null, .null, .null, .int (iI 0), .int (iI 0), .int (iI 0), .int (iI 0)]))) := by rw [eh_17]; exact hup_s _ _ _
  have hf_19 : Fr h_11 h_17 a 1 := by rw [eh_17]; exact hup_Fr _ _ _
  rw [← eh_17]
  have h_20 := hf_19.at (by omega) h_15
  have h_21 := hf_19.at (by omega) hs_12
  have fr_22 := fr_16.tr (hf_19.wd (by omega) (by omega))
  refine z_aload_n hx dX1_init_18 rfl 0 rfl ?_
  refine z_iconst hx dX1_init_19 ?_
  refine z_newai (n := 5) hx dX1_init_20 (by decide) rfl ⟨Nat.le_of_ble_eq_true rfl, Nat.le_of_ble_eq_true rfl⟩ ?_
  show Zj g x (a + 4, 3, 15) (hup h_17 (a + 3) (.inl (0, 5, fun _ => 0))) 22 [(0, .ref a)] [.ref (a + 3), .ref a]
  obtain ⟨h_23, eh_23⟩ : ∃ hh, hh = hup h_17 (a + 3) (.inl (0, 5, fun _ => 0)) := ⟨_, rfl⟩
  have hs_24 : h_23 (a + 3) = some (.inl (0, 5, fun _ => 0)) := by rw [eh_23]; exact hup_s _ _ _
  have hf_25 : Fr h_17 h_23 (a + 3) 1 := by rw [eh_23]; exact hup_Fr _ _ _
  rw [← eh_23]
  have h_26 := hf_25.at (by omega) hs_18
  have h_27 := hf_25.at (by omega) h_20
  have h_28 := hf_25.at (by omega) h_21
  have fr_29 := fr_22.tr (hf_25.wd (by omega) (by omega))
  refine z_putF hx dX1_init_22 ff_X1_18 rfl h_26 ⟨rfl, rfl⟩ (Nat.le_of_ble_eq_true rfl) ?_
  show Zj g x (a + 4, 3, 15) (hup h_23 a (.inr (.inr (1, [.ref (a + 1), .ref (a + 2), .ref (a + 3), .null, .null, .null, .null, .null, .null, .int (iI 0), .int (iI 0), .int (iI 0), .int (iI 0)])))) 25 [(0, .ref a)] []
  obtain ⟨h_30, eh_30⟩ : ∃ hh, hh = hup h_23 a (.inr (.inr (1, [.ref (a + 1), .ref (a + 2), .ref (a + 3), .null, .null, .null, .null, .null, .null, .int (iI 0), .int (iI 0), .int (iI 0), .int (iI 0)]))) := ⟨_, rfl⟩
  have hs_31 : h_30 a = some (.inr (.inr (1, [.ref (a + 1), .ref (a + 2), .ref (a + 3), .null, .null, .null, .null, .null, .null, .int (iI 0), .int (iI 0), .int (iI 0), .int (iI 0)]))) := by rw [eh_30]; exact hup_s _ _ _
  have hf_32 : Fr h_23 h_30 a 1 := by rw [eh_30]; exact hup_Fr _ _ _
  rw [← eh_30]
  have h_33 := hf_32.at (by omega) h_27
  have h_34 := hf_32.at (by omega) h_28
  have h_35 := hf_32.at (by omega) hs_24
  have fr_36 := fr_29.tr (hf_32.wd (by omega) (by omega))
  refine z_aload_n hx dX1_init_25 rfl 0 rfl ?_
  refine z_iconst hx dX1_init_26 ?_
  refine z_newai (n := 5) hx dX1_init_27 (by decide) rfl ⟨Nat.le_of_ble_eq_true rfl, Nat.le_of_ble_eq_true rfl⟩ ?_
  show Zj g x (a + 5, 4, 20) (hup h_30 (a + 4) (.inl (0, 5, fun _ => 0))) 29 [(0, .ref a)] [.ref (a + 4), .ref a]
  obtain ⟨h_37, eh_37⟩ : ∃ hh, hh = hup h_30 (a + 4) (.inl (0, 5, fun _ => 0)) := ⟨_, rfl⟩
  have hs_38 : h_37 (a + 4) = some (.inl (0, 5, fun _ => 0)) := by rw [eh_37]; exact hup_s _ _ _
  have hf_39 : Fr h_30 h_37 (a + 4) 1 := by rw [eh_37]; exact hup_Fr _ _ _
  rw [← eh_37]
  have h_40 := hf_39.at (by omega) hs_31
  have h_41 := hf_39.at (by omega) h_33
  have h_42 := hf_39.at (by omega) h_34
  have h_43 := hf_39.at (by omega) h_35
  have fr_44 := fr_36.tr (hf_39.wd (by omega) (by omega))
  refine z_putF hx dX1_init_29 ff_X1_21 rfl h_40 ⟨rfl, rfl⟩ (Nat.le_of_ble_eq_true rfl) ?_
  show Zj g x (a + 5, 4, 20) (hup h_37 a (.inr (.inr (1, [.ref (a + 1), .ref (a + 2), .ref (a + 3), .ref (a + 4), .null, .null, .null, .null, .null, .int (iI 0), .int (iI 0), .int (iI 0), .int (iI 0)])))) 32 [(0, .ref a)] []
  obtain ⟨h_45, eh_45⟩ : ∃ hh, hh = hup h_37 a (.inr (.inr (1, [.ref (a + 1), .ref (a + 2), .ref (a + 3), .ref (a + 4), .null, .null, .null, .null, .null, .int (iI 0), .int (iI 0), .int (iI 0), .int (iI 0)]))) := ⟨_, rfl⟩
  have hs_46 : h_45 a = some (.inr (.inr (1, [.ref (a + 1), .ref (a + 2), .ref (a + 3), .ref (a + 4), .null, .null, .null, .null, .null, .int (iI 0), .int (iI 0), .int (iI 0), .int (iI 0)]))) := by rw [eh_45]; exact hup_s _ _ _
  have hf_47 : Fr h_37 h_45 a 1 := by rw [eh_45]; exact hup_Fr _ _ _
  rw [← eh_45]
  have h_48 := hf_47.at (by omega) h_41
  have h_49 := hf_47.at (by omega) h_42
  have h_50 := hf_47.at (by omega) h_43
  have h_51 := hf_47.at (by omega) hs_38
  have fr_52 := fr_44.tr (hf_47.wd (by omega) (by omega))
  refine z_aload_n hx dX1_init_32 rfl 0 rfl ?_
  refine z_bipush hx dX1_init_33 (by decide) ?_
  refine z_newai (n := 6) hx dX1_init_35 (by decide) rfl ⟨Nat.le_of_ble_eq_true rfl, Nat.le_of_ble_eq_true rfl⟩ ?_
  show Zj g x (a + 6, 5, 26) (hup h_45 (a + 5) (.inl (0, 6, fun _ => 0))) 37 [(0, .ref a)] [.ref (a + 5), .ref a]
  obtain ⟨h_53, eh_53⟩ : ∃ hh, hh = hup h_45 (a + 5) (.inl (0, 6, fun _ => 0)) := ⟨_, rfl⟩
  have hs_54 : h_53 (a + 5) = some (.inl (0, 6, fun _ => 0)) := by rw [eh_53]; exact hup_s _ _ _
  have hf_55 : Fr h_45 h_53 (a + 5) 1 := by rw [eh_53]; exact hup_Fr _ _ _
  rw [← eh_53]
  have h_56 := hf_55.at (by omega) hs_46
  have h_57 := hf_55.at (by omega) h_48
  have h_58 := hf_55.at (by omega) h_49
  have h_59 := hf_55.at (by omega) h_50
  have h_60 := hf_55.at (by omega) h_51
  have fr_61 := fr_52.tr (hf_55.wd (by omega) (by omega))
  refine z_putF hx dX1_init_37 ff_X1_24 rfl h_56 ⟨rfl, rfl⟩ (Nat.le_of_ble_eq_true rfl) ?_
  show Zj g x (a + 6, 5, 26) (hup h_53 a (.inr (.inr (1, [.ref (a + 1), .ref (a + 2), .ref (a + 3), .ref (a + 4), .ref (a + 5), .null, .null, .null, .null, .int (iI 0), .int (iI 0), .int (iI 0), .int (iI 0)])))) 40 [(0, .ref a)] []
  obtain ⟨h_62, eh_62⟩ : ∃ hh, hh = hup h_53 a (.inr (.inr (1, [.ref (a + 1), .ref (a + 2), .ref (a + 3), .ref (a + 4), .ref (a + 5), .null, .null, .null, .null, .int (iI 0), .int (iI 0), .int (iI 0), .int (iI 0)]))) := ⟨_, rfl⟩
  have hs_63 : h_62 a = some (.inr (.inr (1, [.ref (a + 1), .ref (a + 2), .ref (a + 3), .ref (a + 4), .ref (a + 5), .null, .null, .null, .null, .int (iI 0), .int (iI 0), .int (iI 0), .int (iI 0)]))) := by rw [eh_62]; exact hup_s _ _ _
  have hf_64 : Fr h_53 h_62 a 1 := by rw [eh_62]; exact hup_Fr _ _ _
  rw [← eh_62]
  have h_65 := hf_64.at (by omega) h_57
  have h_66 := hf_64.at (by omega) h_58
  have h_67 := hf_64.at (by omega) h_59
  have h_68 := hf_64.at (by omega) h_60
  have h_69 := hf_64.at (by omega) hs_54
  have fr_70 := fr_61.tr (hf_64.wd (by omega) (by omega))
  refine z_aload_n hx dX1_init_40 rfl 0 rfl ?_
  refine z_bipush hx dX1_init_41 (by decide) ?_
  refine z_newai (n := 6) hx dX1_init_43 (by decide) rfl ⟨Nat.le_of_ble_eq_true rfl, Nat.le_of_ble_eq_true rfl⟩ ?_
  show Zj g x (a + 7, 6, 32) (hup h_62 (a + 6) (.inl (0, 6, fun _ => 0))) 45 [(0, .ref a)] [.ref (a + 6), .ref a]
  obtain ⟨h_71, eh_71⟩ : ∃ hh, hh = hup h_62 (a + 6) (.inl (0, 6, fun _ => 0)) := ⟨_, rfl⟩
  have hs_72 : h_71 (a + 6) = some (.inl (0, 6, fun _ => 0)) := by rw [eh_71]; exact hup_s _ _ _
  have hf_73 : Fr h_62 h_71 (a + 6) 1 := by rw [eh_71]; exact hup_Fr _ _ _
  rw [← eh_71]
  have h_74 := hf_73.at (by omega) hs_63
  have h_75 := hf_73.at (by omega) h_65
  have h_76 := hf_73.at (by omega) h_66
  have h_77 := hf_73.at (by omega) h_67
  have h_78 := hf_73.at (by omega) h_68
  have h_79 := hf_73.at (by omega) h_69
  have fr_80 := fr_70.tr (hf_73.wd (by omega) (by omega))
  refine z_putF hx dX1_init_45 ff_X1_27 rfl h_74 ⟨rfl, rfl⟩ (Nat.le_of_ble_eq_true rfl) ?_
  show Zj g x (a + 7, 6, 32) (hup h_71 a (.inr (.inr (1, [.ref (a + 1), .ref (a + 2), .ref (a + 3), .ref (a + 4), .ref (a + 5), .ref (a + 6), .null, .null, .null, .int (iI 0), .int (iI 0), .int (iI 0), .int (iI 0)])))) 48 [(0, .ref a)] []
  obtain ⟨h_81, eh_81⟩ : ∃ hh, hh = hup h_71 a (.inr (.inr (1, [.ref (a + 1), .ref (a + 2), .ref (a + 3), .ref (a + 4), .ref (a + 5), .ref (a + 6), .null, .null, .null, .int (iI 0), .int (iI 0), .int (iI 0), .int (iI 0)]))) := ⟨_, rfl⟩
  have hs_82 : h_81 a = some (.inr (.inr (1, [.ref (a + 1), .ref (a + 2), .ref (a + 3), .ref (a + 4), .ref (a + 5), .ref (a + 6), .null, .null, .null, .int (iI 0), .int (iI 0), .int (iI 0), .int (iI 0)]))) := by rw [eh_81]; exact hup_s _ _ _
  have hf_83 : Fr h_71 h_81 a 1 := by rw [eh_81]; exact hup_Fr _ _ _
  rw [← eh_81]
  have h_84 := hf_83.at (by omega) h_75
  have h_85 := hf_83.at (by omega) h_76
  have h_86 := hf_83.at (by omega) h_77
  have h_87 := hf_83.at (by omega) h_78
  have h_88 := hf_83.at (by omega) h_79
  have h_89 := hf_83.at (by omega) hs_72
  have fr_90 := fr_80.tr (hf_83.wd (by omega) (by omega))
  refine z_aload_n hx dX1_init_48 rfl 0 rfl ?_
  refine z_iconst hx dX1_init_49 ?_
  refine z_newai (n := 3) hx dX1_init_50 (by decide) rfl ⟨Nat.le_of_ble_eq_true rfl, Nat.le_of_ble_eq_true rfl⟩ ?_
  show Zj g x (a + 8, 7, 35) (hup h_81 (a + 7) (.inl (0, 3, fun _ => 0))) 52 [(0, .ref a)] [.ref (a + 7), .ref a]
  obtain ⟨h_91, eh_91⟩ : ∃ hh, hh = hup h_81 (a + 7) (.inl (0, 3, fun _ => 0)) := ⟨_, rfl⟩
  have hs_92 : h_91 (a + 7) = some (.inl (0, 3, fun _ => 0)) := by rw [eh_91]; exact hup_s _ _ _
  have hf_93 : Fr h_81 h_91 (a + 7) 1 := by rw [eh_91]; exact hup_Fr _ _ _
  rw [← eh_91]
  have h_94 := hf_93.at (by omega) hs_82
  have h_95 := hf_93.at (by omega) h_84
  have h_96 := hf_93.at (by omega) h_85
  have h_97 := hf_93.at (by omega) h_86
  have h_98 := hf_93.at (by omega) h_87
  have h_99 := hf_93.at (by omega) h_88
  have h_100 := hf_93.at (by omega) h_89
  have fr_101 := fr_90.tr (hf_93.wd (by omega) (by omega))
  refine z_putF hx dX1_init_52 ff_X1_30 rfl h_94 ⟨rfl, rfl⟩ (Nat.le_of_ble_eq_true rfl) ?_
  show Zj g x (a + 8, 7, 35) (hup h_91 a (.inr (.inr (1, [.ref (a + 1), .ref (a + 2), .ref (a + 3), .ref (a + 4), .ref (a + 5), .ref (a + 6), .ref (a + 7), .null, .null, .int (iI 0), .int (iI 0), .int (iI 0), .int (iI 0)])))) 55 [(0, .ref a)] []
  obtain ⟨h_102, eh_102⟩ : ∃ hh, hh = hup h_91 a (.inr (.inr (1, [.ref (a + 1), .ref (a + 2), .ref (a + 3), .ref (a + 4), .ref (a + 5), .ref (a + 6), .ref (a + 7), .null, .null, .int (iI 0), .int (iI 0), .int (iI 0), .int (iI 0)]))) := ⟨_, rfl⟩
  have hs_103 : h_102 a = some (.inr (.inr (1, [.ref (a + 1), .ref (a + 2), .ref (a + 3), .ref (a + 4), .ref (a + 5), .ref (a + 6), .ref (a + 7), .null, .null, .int (iI 0), .int (iI 0), .int (iI 0), .int (iI 0)]))) := by rw [eh_102]; exact hup_s _ _ _
  have hf_104 : Fr h_91 h_102 a 1 := by rw [eh_102]; exact hup_Fr _ _ _
  rw [← eh_102]
  have h_105 := hf_104.at (by omega) h_95
  have h_106 := hf_104.at (by omega) h_96
  have h_107 := hf_104.at (by omega) h_97
  have h_108 := hf_104.at (by omega) h_98
  have h_109 := hf_104.at (by omega) h_99
  have h_110 := hf_104.at (by omega) h_100
  have h_111 := hf_104.at (by omega) hs_92
  have fr_112 := fr_101.tr (hf_104.wd (by omega) (by omega))
  refine z_aload_n hx dX1_init_55 rfl 0 rfl ?_
  refine z_iconst hx dX1_init_56 ?_
  refine z_newai (n := 5) hx dX1_init_57 (by decide) rfl ⟨Nat.le_of_ble_eq_true rfl, Nat.le_of_ble_eq_true rfl⟩ ?_
  show Zj g x (a + 9, 8, 40) (hup h_102 (a + 8) (.inl (0, 5, fun _ => 0))) 59 [(0, .ref a)] [.ref (a + 8), .ref a]
  obtain ⟨h_113, eh_113⟩ : ∃ hh, hh = hup h_102 (a + 8) (.inl (0, 5, fun _ => 0)) := ⟨_, rfl⟩
  have hs_114 : h_113 (a + 8) = some (.inl (0, 5, fun _ => 0)) := by rw [eh_113]; exact hup_s _ _ _
  have hf_115 : Fr h_102 h_113 (a + 8) 1 := by rw [eh_113]; exact hup_Fr _ _ _
  rw [← eh_113]
  have h_116 := hf_115.at (by omega) hs_103
  have h_117 := hf_115.at (by omega) h_105
  have h_118 := hf_115.at (by omega) h_106
  have h_119 := hf_115.at (by omega) h_107
  have h_120 := hf_115.at (by omega) h_108
  have h_121 := hf_115.at (by omega) h_109
  have h_122 := hf_115.at (by omega) h_110
  have h_123 := hf_115.at (by omega) h_111
  have fr_124 := fr_112.tr (hf_115.wd (by omega) (by omega))
  refine z_putF hx dX1_init_59 ff_X1_33 rfl h_116 ⟨rfl, rfl⟩ (Nat.le_of_ble_eq_true rfl) ?_
  show Zj g x (a + 9, 8, 40) (hup h_113 a (.inr (.inr (1, [.ref (a + 1), .ref (a + 2), .ref (a + 3), .ref (a + 4), .ref (a + 5), .ref (a + 6), .ref (a + 7), .ref (a + 8), .null, .int (iI 0), .int (iI 0), .int (iI 0), .int (iI 0)])))) 62 [(0, .ref a)] []
  obtain ⟨h_125, eh_125⟩ : ∃ hh, hh = hup h_113 a (.inr (.inr (1, [.ref (a + 1), .ref (a + 2), .ref (a + 3), .ref (a + 4), .ref (a + 5), .ref (a + 6), .ref (a + 7), .ref (a + 8), .null, .int (iI 0), .int (iI 0), .int (iI 0), .int (iI 0)]))) := ⟨_, rfl⟩
  have hs_126 : h_125 a = some (.inr (.inr (1, [.ref (a + 1), .ref (a + 2), .ref (a + 3), .ref (a + 4), .ref (a + 5), .ref (a + 6), .ref (a + 7), .ref (a + 8), .null, .int (iI 0), .int (iI 0), .int (iI 0), .int (iI 0)]))) := by rw [eh_125]; exact hup_s _ _ _
  have hf_127 : Fr h_113 h_125 a 1 := by rw [eh_125]; exact hup_Fr _ _ _
  rw [← eh_125]
  have h_128 := hf_127.at (by omega) h_117
  have h_129 := hf_127.at (by omega) h_118
  have h_130 := hf_127.at (by omega) h_119
  have h_131 := hf_127.at (by omega) h_120
  have h_132 := hf_127.at (by omega) h_121
  have h_133 := hf_127.at (by omega) h_122
  have h_134 := hf_127.at (by omega) h_123
  have h_135 := hf_127.at (by omega) hs_114
  have fr_136 := fr_124.tr (hf_127.wd (by omega) (by omega))
  refine z_aload_n hx dX1_init_62 rfl 0 rfl ?_
  refine z_iconst hx dX1_init_63 ?_
  refine z_newai (n := 5) hx dX1_init_64 (by decide) rfl ⟨Nat.le_of_ble_eq_true rfl, Nat.le_of_ble_eq_true rfl⟩ ?_
  show Zj g x (a + 10, 9, 45) (hup h_125 (a + 9) (.inl (0, 5, fun _ => 0))) 66 [(0, .ref a)] [.ref (a + 9), .ref a]
  obtain ⟨h_137, eh_137⟩ : ∃ hh, hh = hup h_125 (a + 9) (.inl (0, 5, fun _ => 0)) := ⟨_, rfl⟩
  have hs_138 : h_137 (a + 9) = some (.inl (0, 5, fun _ => 0)) := by rw [eh_137]; exact hup_s _ _ _
  have hf_139 : Fr h_125 h_137 (a + 9) 1 := by rw [eh_137]; exact hup_Fr _ _ _
  rw [← eh_137]
  have h_140 := hf_139.at (by omega) hs_126
  have h_141 := hf_139.at (by omega) h_128
  have h_142 := hf_139.at (by omega) h_129
  have h_143 := hf_139.at (by omega) h_130
  have h_144 := hf_139.at (by omega) h_131
  have h_145 := hf_139.at (by omega) h_132
  have h_146 := hf_139.at (by omega) h_133
  have h_147 := hf_139.at (by omega) h_134
  have h_148 := hf_139.at (by omega) h_135
  have fr_149 := fr_136.tr (hf_139.wd (by omega) (by omega))
  refine z_putF hx dX1_init_66 ff_X1_36 rfl h_140 ⟨rfl, rfl⟩ (Nat.le_of_ble_eq_true rfl) ?_
  show Zj g x (a + 10, 9, 45) (hup h_137 a (.inr (.inr (1, [.ref (a + 1), .ref (a + 2), .ref (a + 3), .ref (a + 4), .ref (a + 5), .ref (a + 6), .ref (a + 7), .ref (a + 8), .ref (a + 9), .int (iI 0), .int (iI 0), .int (iI 0), .int (iI 0)])))) 69 [(0, .ref a)] []
  obtain ⟨h_150, eh_150⟩ : ∃ hh, hh = hup h_137 a (.inr (.inr (1, [.ref (a + 1), .ref (a + 2), .ref (a + 3), .ref (a + 4), .ref (a + 5), .ref (a + 6), .ref (a + 7), .ref (a + 8), .ref (a + 9), .int (iI 0), .int (iI 0), .int (iI 0), .int (iI 0)]))) := ⟨_, rfl⟩
  have hs_151 : h_150 a = some (.inr (.inr (1, [.ref (a + 1), .ref (a + 2), .ref (a + 3), .ref (a + 4), .ref (a + 5), .ref (a + 6), .ref (a + 7), .ref (a + 8), .ref (a + 9), .int (iI 0), .int (iI 0), .int (iI 0), .int (iI 0)]))) := by rw [eh_150]; exact hup_s _ _ _
  have hf_152 : Fr h_137 h_150 a 1 := by rw [eh_150]; exact hup_Fr _ _ _
  rw [← eh_150]
  have h_153 := hf_152.at (by omega) h_141
  have h_154 := hf_152.at (by omega) h_142
  have h_155 := hf_152.at (by omega) h_143
  have h_156 := hf_152.at (by omega) h_144
  have h_157 := hf_152.at (by omega) h_145
  have h_158 := hf_152.at (by omega) h_146
  have h_159 := hf_152.at (by omega) h_147
  have h_160 := hf_152.at (by omega) h_148
  have h_161 := hf_152.at (by omega) hs_138
  have fr_162 := fr_149.tr (hf_152.wd (by omega) (by omega))
  refine z_aload_n hx dX1_init_69 rfl 0 rfl ?_
  refine z_iconst hx dX1_init_70 ?_
  refine z_putQ hx dX1_init_71 fl_X1_39 hs_151 ⟨rfl, rfl⟩ (Nat.le_of_ble_eq_true rfl) (fun h_163 hs_164 hf_165 => ?_)
  have h_166 := hf_165.at (by omega) h_153
  have h_167 := hf_165.at (by omega) h_154
  have h_168 := hf_165.at (by omega) h_155
  have h_169 := hf_165.at (by omega) h_156
  have h_170 := hf_165.at (by omega) h_157
  have h_171 := hf_165.at (by omega) h_158
  have h_172 := hf_165.at (by omega) h_159
  have h_173 := hf_165.at (by omega) h_160
  have h_174 := hf_165.at (by omega) h_161
  have fr_175 := fr_162.tr (hf_165.wd (by omega) (by omega))
  refine z_aload_n hx dX1_init_74 rfl 0 rfl ?_
  refine z_iconst hx dX1_init_75 ?_
  refine z_putQ hx dX1_init_76 fl_X1_43 hs_164 ⟨rfl, rfl⟩ (Nat.le_of_ble_eq_true rfl) (fun h_176 hs_177 hf_178 => ?_)
  have h_179 := hf_178.at (by omega) h_166
  have h_180 := hf_178.at (by omega) h_167
  have h_181 := hf_178.at (by omega) h_168
  have h_182 := hf_178.at (by omega) h_169
  have h_183 := hf_178.at (by omega) h_170
  have h_184 := hf_178.at (by omega) h_171
  have h_185 := hf_178.at (by omega) h_172
  have h_186 := hf_178.at (by omega) h_173
  have h_187 := hf_178.at (by omega) h_174
  have fr_188 := fr_175.tr (hf_178.wd (by omega) (by omega))
  refine z_aload_n hx dX1_init_79 rfl 0 rfl ?_
  refine z_iconst hx dX1_init_80 ?_
  refine z_putQ hx dX1_init_81 fl_X1_46 hs_177 ⟨rfl, rfl⟩ (Nat.le_of_ble_eq_true rfl) (fun h_189 hs_190 hf_191 => ?_)
  have h_192 := hf_191.at (by omega) h_179
  have h_193 := hf_191.at (by omega) h_180
  have h_194 := hf_191.at (by omega) h_181
  have h_195 := hf_191.at (by omega) h_182
  have h_196 := hf_191.at (by omega) h_183
  have h_197 := hf_191.at (by omega) h_184
  have h_198 := hf_191.at (by omega) h_185
  have h_199 := hf_191.at (by omega) h_186
  have h_200 := hf_191.at (by omega) h_187
  have fr_201 := fr_188.tr (hf_191.wd (by omega) (by omega))
  refine z_aload_n hx dX1_init_84 rfl 0 rfl ?_
  refine z_iconst hx dX1_init_85 ?_
  refine z_putQ hx dX1_init_86 fl_X1_49 hs_190 ⟨rfl, rfl⟩ (Nat.le_of_ble_eq_true rfl) (fun h_202 hs_203 hf_204 => ?_)
  have h_205 := hf_204.at (by omega) h_192
  have h_206 := hf_204.at (by omega) h_193
  have h_207 := hf_204.at (by omega) h_194
  have h_208 := hf_204.at (by omega) h_195
  have h_209 := hf_204.at (by omega) h_196
  have h_210 := hf_204.at (by omega) h_197
  have h_211 := hf_204.at (by omega) h_198
  have h_212 := hf_204.at (by omega) h_199
  have h_213 := hf_204.at (by omega) h_200
  have fr_214 := fr_201.tr (hf_204.wd (by omega) (by omega))
  refine z_vret hx hr dX1_init_89 rfl ⟨⟨rfl, rfl⟩, ⟨hs_203, h_205, h_206, h_207, h_208, h_209, h_210, h_211, h_212, h_213⟩, fr_214⟩

set_option maxHeartbeats 4000000 in
set_option maxRecDepth 20000 in
theorem kX5_init (g : Gt) {h : AH} {a : Nat} (h0 : h a = some (.inr (.inr (4, [.null, .int (iI 0)])))) : Cna g mX5_init 3 [.ref a] h (a + 1) 81 472 (fun v h' sz' => (v = none ∧ sz' = a + 82) ∧ PM h' a (fun i => i) (fun _ => ZF) 0 ∧ Fr h h' a 82) := by
  refine Cna.mk (by decide +kernel) (Nat.le_of_ble_eq_true rfl) ?_
  intro x hx hr
  show Zj g x (a + 1, 0, 0) h 0 [(0, .ref a)] []
  refine z_aload_n hx dX5_init_0 rfl 0 rfl ?_
  refine z_objinit hx dX5_init_1 wk_X5_3 (by decide) (Nat.le_of_ble_eq_true rfl) ?_
  refine z_aload_n hx dX5_init_4 rfl 0 rfl ?_
  refine z_bipush hx dX5_init_5 (by decide) ?_
  refine z_newq (n := 8) hx dX5_init_7 wl_X5_9 (by decide) rfl ⟨Nat.le_of_ble_eq_true rfl, Nat.le_of_ble_eq_true rfl⟩ ?_
  show Zj g x (a + 2, 1, 8) (hup h (a + 1) (.inr (.inl (8, fun _ => none)))) 10 [(0, .ref a)] [.ref (a + 1), .ref a]
  obtain ⟨h_1, eh_1⟩ : ∃ hh, hh = hup h (a + 1) (.inr (.inl (8, fun _ => none))) := ⟨_, rfl⟩
  have hs_2 : h_1 (a + 1) = some (.inr (.inl (8, fun _ => none))) := by rw [eh_1]; exact hup_s _ _ _
  have hf_3 : Fr h h_1 (a + 1) 1 := by rw [eh_1]; exact hup_Fr _ _ _
  rw [← eh_1]
  have h_4 := hf_3.at (by omega) h0
  have fr_5 : Fr h h_1 a 82 := hf_3.wd (by omega) (by omega)
  refine z_putF hx dX5_init_10 ff_X5_11 rfl h_4 ⟨rfl, rfl⟩ (Nat.le_of_ble_eq_true rfl) ?_
  show Zj g x (a + 2, 1, 8) (hup h_1 a (.inr (.inr (4, [.ref (a + 1), .int (iI 0)])))) 13 [(0, .ref a)] []
  obtain ⟨h_6, eh_6⟩ : ∃ hh, hh = hup h_1 a (.inr (.inr (4, [.ref (a + 1), .int (iI 0)]))) := ⟨_, rfl⟩
  have hs_7 : h_6 a = some (.inr (.inr (4, [.ref (a + 1), .int (iI 0)]))) := by rw [eh_6]; exact hup_s _ _ _
  have hf_8 : Fr h_1 h_6 a 1 := by rw [eh_6]; exact hup_Fr _ _ _
  rw [← eh_6]
  have h_9 := hf_8.at (by omega) hs_2
  have fr_10 := fr_5.tr (hf_8.wd (by omega) (by omega))
  refine z_aload_n hx dX5_init_13 rfl 0 rfl ?_
  refine z_iconst hx dX5_init_14 ?_
  refine z_putQ hx dX5_init_15 fl_X5_17 hs_7 ⟨rfl, rfl⟩ (Nat.le_of_ble_eq_true rfl) (fun h_11 hs_12 hf_13 => ?_)
  have h_14 := hf_13.at (by omega) h_9
  have fr_15 := fr_10.tr (hf_13.wd (by omega) (by omega))
  refine z_iconst hx dX5_init_18 ?_
  refine z_istore_n hx dX5_init_19 rfl (by decide) [1, 0] (lv' := [(0, .ref a), (1, .int (iI 0))]) rfl ?_
  refine z_iload_n hx dX5_init_20 rfl 1 rfl ?_
  refine z_bipush hx dX5_init_21 (by decide) ?_
  refine z_icmp_ge (tgt := 45) hx dX5_init_23 (by decide) (by decide) (by decide) (fun q => absurd q (by decide)) (fun _ => ?_)
  refine z_aload_n hx dX5_init_26 rfl 0 rfl ?_
  refine z_get hx dX5_init_27 fl_X5_11 hs_12 rfl ?_
  refine z_iload_n hx dX5_init_30 rfl 1 rfl ?_
  refine z_new (ci := 1) (fs := [.null, .null, .null, .null, .null, .null, .null, .null, .null, .int (iI 0), .int (iI 0), .int (iI 0), .int (iI 0)]) hx dX5_init_31 wl_X5_9 wn_X1 wi_RX1 rfl wg_1 tyX1_ok (fun j hj => by rcases (show j = 0 ∨ j = 1 ∨ j = 2 ∨ j = 3 ∨ j = 4 ∨ j = 5 ∨ j = 6 ∨ j = 7 ∨ j = 8 ∨ j = 9 ∨ j = 10 ∨ j = 11 ∨ j = 12 by omega) with rfl | rfl | rfl | rfl | rfl | rfl | rfl | rfl | rfl | rfl | rfl | rfl | rfl <;> rfl) ⟨Nat.le_of_ble_eq_true rfl, Nat.le_of_ble_eq_true rfl⟩ ?_
  show Zj g x (a + 3, 2, 21) (hup h_11 (a + 2) (.inr (.inr (1, [.null, .null, .null, .null, .null, .null, .null, .null, .null, .int (iI 0), .int (iI 0), .int (iI 0), .int (iI 0)])))) 34 [(0, .ref a), (1, .int (iI 0))] [.ref (a + 2), .int (iI 0), .ref (a + 1)]
  obtain ⟨h_17, eh_17⟩ : ∃ hh, hh = hup h_11 (a + 2) (.inr (.inr (1, [.null, .null, .null, .null, .null, .null, .null, .null, .null, .int (iI 0), .int (iI 0), .int (iI 0), .int (iI 0)]))) := ⟨_, rfl⟩
  have hs_18 : h_17 (a + 2) = some (.inr (.inr (1, [.null, .null, .null, .null, .null, .null, .null, .null, .null, .int (iI 0), .int (iI 0), .int (iI 0), .int (iI 0)]))) := by rw [eh_17]; exact hup_s _ _ _
  have hf_19 : Fr h_11 h_17 (a + 2) 1 := by rw [eh_17]; exact hup_Fr _ _ _
  rw [← eh_17]
  have h_20 := hf_19.at (by omega) hs_12
  have h_21 := hf_19.at (by omega) h_14
  have fr_22 := fr_15.tr (hf_19.wd (by omega) (by omega))
  refine z_dup hx dX5_init_34 rfl ?_
  refine z_callI (as := []) (rest := [.ref (a + 2), .int (iI 0), .ref (a + 1)]) hx dX5_init_35 lk_X5_21 wm_X1_init ⟨rfl, rfl⟩ mo_X1_init (kX1_init g (a := (a + 2)) hs_18) (by decide) (Or.inr ⟨Nat.le_of_ble_eq_true rfl, Nat.le_of_ble_eq_true rfl⟩) rfl rfl (Nat.le_of_ble_eq_true rfl) (fun v_27 h_23 sz_28 q_24 => ?_)
  obtain ⟨⟨rfl, rfl⟩, hC_25, hf_26⟩ := q_24
  show Zj g x (a + 12, 11, 66) h_23 38 [(0, .ref a), (1, .int (iI 0))] [.ref (a + 2), .int (iI 0), .ref (a + 1)]
  have h_29 := hf_26.at (by omega) h_20
  have h_30 := hf_26.at (by omega) h_21
  have fr_31 := fr_22.tr (hf_26.wd (by omega) (by omega))
  refine z_aast (ci := 1) hx dX5_init_38 h_30 (by decide) (by decide) hC_25.1 ?_
  obtain ⟨h_32, eh_32⟩ : ∃ hh, hh = hup h_23 (a + 1) (.inr (.inl (8, fun q => if q = 0 then some (a + 2) else (fun _ => none) q))) := ⟨_, rfl⟩
  have hs_33 : h_32 (a + 1) = some (.inr (.inl (8, fun q => if q = 0 then some (a + 2) else (fun _ => none) q))) := by rw [eh_32]; exact hup_s _ _ _
  have hf_34 : Fr h_23 h_32 (a + 1) 1 := by rw [eh_32]; exact hup_Fr _ _ _
  rw [← eh_32]
  have h_35 := hf_34.at (by omega) h_29
  have h_36 := CM.fr hC_25 hf_34 (by omega)
  have fr_37 := fr_31.tr (hf_34.wd (by omega) (by omega))
  refine z_iinc hx dX5_init_39 (by decide) 1 rfl [1, 0] (lv' := [(0, .ref a), (1, .int (iI 1))]) rfl ?_
  refine z_goto (tgt := 20) hx dX5_init_42 (by decide) ?_
  refine z_iload_n hx dX5_init_20 rfl 1 rfl ?_
  refine z_bipush hx dX5_init_21 (by decide) ?_
  refine z_icmp_ge (tgt := 45) hx dX5_init_23 (by decide) (by decide) (by decide) (fun q => absurd q (by decide)) (fun _ => ?_)
  refine z_aload_n hx dX5_init_26 rfl 0 rfl ?_
  refine z_get hx dX5_init_27 fl_X5_11 h_35 rfl ?_
  refine z_iload_n hx dX5_init_30 rfl 1 rfl ?_
  refine z_new (ci := 1) (fs := [.null, .null, .null, .null, .null, .null, .null, .null, .null, .int (iI 0), .int (iI 0), .int (iI 0), .int (iI 0)]) hx dX5_init_31 wl_X5_9 wn_X1 wi_RX1 rfl wg_1 tyX1_ok (fun j hj => by rcases (show j = 0 ∨ j = 1 ∨ j = 2 ∨ j = 3 ∨ j = 4 ∨ j = 5 ∨ j = 6 ∨ j = 7 ∨ j = 8 ∨ j = 9 ∨ j = 10 ∨ j = 11 ∨ j = 12 by omega) with rfl | rfl | rfl | rfl | rfl | rfl | rfl | rfl | rfl | rfl | rfl | rfl | rfl <;> rfl) ⟨Nat.le_of_ble_eq_true rfl, Nat.le_of_ble_eq_true rfl⟩ ?_
  show Zj g x (a + 13, 12, 79) (hup h_32 (a + 12) (.inr (.inr (1, [.null, .null, .null, .null, .null, .null, .null, .null, .null, .int (iI 0), .int (iI 0), .int (iI 0), .int (iI 0)])))) 34 [(0, .ref a), (1, .int (iI 1))] [.ref (a + 12), .int (iI 1), .ref (a + 1)]
  obtain ⟨h_39, eh_39⟩ : ∃ hh, hh = hup h_32 (a + 12) (.inr (.inr (1, [.null, .null, .null, .null, .null, .null, .null, .null, .null, .int (iI 0), .int (iI 0), .int (iI 0), .int (iI 0)]))) := ⟨_, rfl⟩
  have hs_40 : h_39 (a + 12) = some (.inr (.inr (1, [.null, .null, .null, .null, .null, .null, .null, .null, .null, .int (iI 0), .int (iI 0), .int (iI 0), .int (iI 0)]))) := by rw [eh_39]; exact hup_s _ _ _
  have hf_41 : Fr h_32 h_39 (a + 12) 1 := by rw [eh_39]; exact hup_Fr _ _ _
  rw [← eh_39]
  have h_42 := hf_41.at (by omega) h_35
  have h_43 := hf_41.at (by omega) hs_33
  have h_44 := CM.fr h_36 hf_41 (by omega)
  have fr_45 := fr_37.tr (hf_41.wd (by omega) (by omega))
  refine z_dup hx dX5_init_34 rfl ?_
  refine z_callI (as := []) (rest := [.ref (a + 12), .int (iI 1), .ref (a + 1)]) hx dX5_init_35 lk_X5_21 wm_X1_init ⟨rfl, rfl⟩ mo_X1_init (kX1_init g (a := (a + 12)) hs_40) (by decide) (Or.inr ⟨Nat.le_of_ble_eq_true rfl, Nat.le_of_ble_eq_true rfl⟩) rfl rfl (Nat.le_of_ble_eq_true rfl) (fun v_50 h_46 sz_51 q_47 => ?_)
  obtain ⟨⟨rfl, rfl⟩, hC_48, hf_49⟩ := q_47
  show Zj g x (a + 22, 21, 124) h_46 38 [(0, .ref a), (1, .int (iI 1))] [.ref (a + 12), .int (iI 1), .ref (a + 1)]
  have h_52 := hf_49.at (by omega) h_42
  have h_53 := hf_49.at (by omega) h_43
  have h_54 := CM.fr h_44 hf_49 (by omega)
  have fr_55 := fr_45.tr (hf_49.wd (by omega) (by omega))
  refine z_aast (ci := 1) hx dX5_init_38 h_53 (by decide) (by decide) hC_48.1 ?_
  obtain ⟨h_56, eh_56⟩ : ∃ hh, hh = hup h_46 (a + 1) (.inr (.inl (8, fun q => if q = 1 then some (a + 12) else (fun q => if q = 0 then some (a + 2) else (fun _ => none) q) q))) := ⟨_, rfl⟩
  have hs_57 : h_56 (a + 1) = some (.inr (.inl (8, fun q => if q = 1 then some (a + 12) else (fun q => if q = 0 then some (a + 2) else (fun _ => none) q) q))) := by rw [eh_56]; exact hup_s _ _ _
  have hf_58 : Fr h_46 h_56 (a + 1) 1 := by rw [eh_56]; exact hup_Fr _ _ _
  rw [← eh_56]
  have h_59 := hf_58.at (by omega) h_52
  have h_60 := CM.fr h_54 hf_58 (by omega)
  have h_61 := CM.fr hC_48 hf_58 (by omega)
  have fr_62 := fr_55.tr (hf_58.wd (by omega) (by omega))
  refine z_iinc hx dX5_init_39 (by decide) 1 rfl [1, 0] (lv' := [(0, .ref a), (1, .int (iI 2))]) rfl ?_
  refine z_goto (tgt := 20) hx dX5_init_42 (by decide) ?_
  refine z_iload_n hx dX5_init_20 rfl 1 rfl ?_
  refine z_bipush hx dX5_init_21 (by decide) ?_
  refine z_icmp_ge (tgt := 45) hx dX5_init_23 (by decide) (by decide) (by decide) (fun q => absurd q (by decide)) (fun _ => ?_)
  refine z_aload_n hx dX5_init_26 rfl 0 rfl ?_
  refine z_get hx dX5_init_27 fl_X5_11 h_59 rfl ?_
  refine z_iload_n hx dX5_init_30 rfl 1 rfl ?_
  refine z_new (ci := 1) (fs := [.null, .null, .null, .null, .null, .null, .null, .null, .null, .int (iI 0), .int (iI 0), .int (iI 0), .int (iI 0)]) hx dX5_init_31 wl_X5_9 wn_X1 wi_RX1 rfl wg_1 tyX1_ok (fun j hj => by rcases (show j = 0 ∨ j = 1 ∨ j = 2 ∨ j = 3 ∨ j = 4 ∨ j = 5 ∨ j = 6 ∨ j = 7 ∨ j = 8 ∨ j = 9 ∨ j = 10 ∨ j = 11 ∨ j = 12 by omega) with rfl | rfl | rfl | rfl | rfl | rfl | rfl | rfl | rfl | rfl | rfl | rfl | rfl <;> rfl) ⟨Nat.le_of_ble_eq_true rfl, Nat.le_of_ble_eq_true rfl⟩ ?_
  show Zj g x (a + 23, 22, 137) (hup h_56 (a + 22) (.inr (.inr (1, [.null, .null, .null, .null, .null, .null, .null, .null, .null, .int (iI 0), .int (iI 0), .int (iI 0), .int (iI 0)])))) 34 [(0, .ref a), (1, .int (iI 2))] [.ref (a + 22), .int (iI 2), .ref (a + 1)]
  obtain ⟨h_64, eh_64⟩ : ∃ hh, hh = hup h_56 (a + 22) (.inr (.inr (1, [.null, .null, .null, .null, .null, .null, .null, .null, .null, .int (iI 0), .int (iI 0), .int (iI 0), .int (iI 0)]))) := ⟨_, rfl⟩
  have hs_65 : h_64 (a + 22) = some (.inr (.inr (1, [.null, .null, .null, .null, .null, .null, .null, .null, .null, .int (iI 0), .int (iI 0), .int (iI 0), .int (iI 0)]))) := by rw [eh_64]; exact hup_s _ _ _
  have hf_66 : Fr h_56 h_64 (a + 22) 1 := by rw [eh_64]; exact hup_Fr _ _ _
  rw [← eh_64]
  have h_67 := hf_66.at (by omega) h_59
  have h_68 := hf_66.at (by omega) hs_57
  have h_69 := CM.fr h_60 hf_66 (by omega)
  have h_70 := CM.fr h_61 hf_66 (by omega)
  have fr_71 := fr_62.tr (hf_66.wd (by omega) (by omega))
  refine z_dup hx dX5_init_34 rfl ?_
  refine z_callI (as := []) (rest := [.ref (a + 22), .int (iI 2), .ref (a + 1)]) hx dX5_init_35 lk_X5_21 wm_X1_init ⟨rfl, rfl⟩ mo_X1_init (kX1_init g (a := (a + 22)) hs_65) (by decide) (Or.inr ⟨Nat.le_of_ble_eq_true rfl, Nat.le_of_ble_eq_true rfl⟩) rfl rfl (Nat.le_of_ble_eq_true rfl) (fun v_76 h_72 sz_77 q_73 => ?_)
  obtain ⟨⟨rfl, rfl⟩, hC_74, hf_75⟩ := q_73
  show Zj g x (a + 32, 31, 182) h_72 38 [(0, .ref a), (1, .int (iI 2))] [.ref (a + 22), .int (iI 2), .ref (a + 1)]
  have h_78 := hf_75.at (by omega) h_67
  have h_79 := hf_75.at (by omega) h_68
  have h_80 := CM.fr h_69 hf_75 (by omega)
  have h_81 := CM.fr h_70 hf_75 (by omega)
  have fr_82 := fr_71.tr (hf_75.wd (by omega) (by omega))
  refine z_aast (ci := 1) hx dX5_init_38 h_79 (by decide) (by decide) hC_74.1 ?_
  obtain ⟨h_83, eh_83⟩ : ∃ hh, hh = hup h_72 (a + 1) (.inr (.inl (8, fun q => if q = 2 then some (a + 22) else (fun q => if q = 1 then some (a + 12) else (fun q => if q = 0 then some (a + 2) else (fun _ => none) q) q) q))) := ⟨_, rfl⟩
  have hs_84 : h_83 (a + 1) = some (.inr (.inl (8, fun q => if q = 2 then some (a + 22) else (fun q => if q = 1 then some (a + 12) else (fun q => if q = 0 then some (a + 2) else (fun _ => none) q) q) q))) := by rw [eh_83]; exact hup_s _ _ _
  have hf_85 : Fr h_72 h_83 (a + 1) 1 := by rw [eh_83]; exact hup_Fr _ _ _
  rw [← eh_83]
  have h_86 := hf_85.at (by omega) h_78
  have h_87 := CM.fr h_80 hf_85 (by omega)
  have h_88 := CM.fr h_81 hf_85 (by omega)
  have h_89 := CM.fr hC_74 hf_85 (by omega)
  have fr_90 := fr_82.tr (hf_85.wd (by omega) (by omega))
  refine z_iinc hx dX5_init_39 (by decide) 1 rfl [1, 0] (lv' := [(0, .ref a), (1, .int (iI 3))]) rfl ?_
  refine z_goto (tgt := 20) hx dX5_init_42 (by decide) ?_
  refine z_iload_n hx dX5_init_20 rfl 1 rfl ?_
  refine z_bipush hx dX5_init_21 (by decide) ?_
  refine z_icmp_ge (tgt := 45) hx dX5_init_23 (by decide) (by decide) (by decide) (fun q => absurd q (by decide)) (fun _ => ?_)
  refine z_aload_n hx dX5_init_26 rfl 0 rfl ?_
  refine z_get hx dX5_init_27 fl_X5_11 h_86 rfl ?_
  refine z_iload_n hx dX5_init_30 rfl 1 rfl ?_
  refine z_new (ci := 1) (fs := [.null, .null, .null, .null, .null, .null, .null, .null, .null, .int (iI 0), .int (iI 0), .int (iI 0), .int (iI 0)]) hx dX5_init_31 wl_X5_9 wn_X1 wi_RX1 rfl wg_1 tyX1_ok (fun j hj => by rcases (show j = 0 ∨ j = 1 ∨ j = 2 ∨ j = 3 ∨ j = 4 ∨ j = 5 ∨ j = 6 ∨ j = 7 ∨ j = 8 ∨ j = 9 ∨ j = 10 ∨ j = 11 ∨ j = 12 by omega) with rfl | rfl | rfl | rfl | rfl | rfl | rfl | rfl | rfl | rfl | rfl | rfl | rfl <;> rfl) ⟨Nat.le_of_ble_eq_true rfl, Nat.le_of_ble_eq_true rfl⟩ ?_
  show Zj g x (a + 33, 32, 195) (hup h_83 (a + 32) (.inr (.inr (1, [.null, .null, .null, .null, .null, .null, .null, .null, .null, .int (iI 0), .int (iI 0), .int (iI 0), .int (iI 0)])))) 34 [(0, .ref a), (1, .int (iI 3))] [.ref (a + 32), .int (iI 3), .ref (a + 1)]
  obtain ⟨h_92, eh_92⟩ : ∃ hh, hh = hup h_83 (a + 32) (.inr (.inr (1, [.null, .null, .null, .null, .null, .null, .null, .null, .null, .int (iI 0), .int (iI 0), .int (iI 0), .int (iI 0)]))) := ⟨_, rfl⟩
  have hs_93 : h_92 (a + 32) = some (.inr (.inr (1, [.null, .null, .null, .null, .null, .null, .null, .null, .null, .int (iI 0), .int (iI 0), .int (iI 0), .int (iI 0)]))) := by rw [eh_92]; exact hup_s _ _ _
  have hf_94 : Fr h_83 h_92 (a + 32) 1 := by rw [eh_92]; exact hup_Fr _ _ _
  rw [← eh_92]
  have h_95 := hf_94.at (by omega) h_86
  have h_96 := hf_94.at (by omega) hs_84
  have h_97 := CM.fr h_87 hf_94 (by omega)
  have h_98 := CM.fr h_88 hf_94 (by omega)
  have h_99 := CM.fr h_89 hf_94 (by omega)
  have fr_100 := fr_90.tr (hf_94.wd (by omega) (by omega))
  refine z_dup hx dX5_init_34 rfl ?_
  refine z_callI (as := []) (rest := [.ref (a + 32), .int (iI 3), .ref (a + 1)]) hx dX5_init_35 lk_X5_21 wm_X1_init ⟨rfl, rfl⟩ mo_X1_init (kX1_init g (a := (a + 32)) hs_93) (by decide) (Or.inr ⟨Nat.le_of_ble_eq_true rfl, Nat.le_of_ble_eq_true rfl⟩) rfl rfl (Nat.le_of_ble_eq_true rfl) (fun v_105 h_101 sz_106 q_102 => ?_)
  obtain ⟨⟨rfl, rfl⟩, hC_103, hf_104⟩ := q_102
  show Zj g x (a + 42, 41, 240) h_101 38 [(0, .ref a), (1, .int (iI 3))] [.ref (a + 32), .int (iI 3), .ref (a + 1)]
  have h_107 := hf_104.at (by omega) h_95
  have h_108 := hf_104.at (by omega) h_96
  have h_109 := CM.fr h_97 hf_104 (by omega)
  have h_110 := CM.fr h_98 hf_104 (by omega)
  have h_111 := CM.fr h_99 hf_104 (by omega)
  have fr_112 := fr_100.tr (hf_104.wd (by omega) (by omega))
  refine z_aast (ci := 1) hx dX5_init_38 h_108 (by decide) (by decide) hC_103.1 ?_
  obtain ⟨h_113, eh_113⟩ : ∃ hh, hh = hup h_101 (a + 1) (.inr (.inl (8, fun q => if q = 3 then some (a + 32) else (fun q => if q = 2 then some (a + 22) else (fun q => if q = 1 then some (a + 12) else (fun q => if q = 0 then some (a + 2) else (fun _ => none) q) q) q) q))) := ⟨_, rfl⟩
  have hs_114 : h_113 (a + 1) = some (.inr (.inl (8, fun q => if q = 3 then some (a + 32) else (fun q => if q = 2 then some (a + 22) else (fun q => if q = 1 then some (a + 12) else (fun q => if q = 0 then some (a + 2) else (fun _ => none) q) q) q) q))) := by rw [eh_113]; exact hup_s _ _ _
  have hf_115 : Fr h_101 h_113 (a + 1) 1 := by rw [eh_113]; exact hup_Fr _ _ _
  rw [← eh_113]
  have h_116 := hf_115.at (by omega) h_107
  have h_117 := CM.fr h_109 hf_115 (by omega)
  have h_118 := CM.fr h_110 hf_115 (by omega)
  have h_119 := CM.fr h_111 hf_115 (by omega)
  have h_120 := CM.fr hC_103 hf_115 (by omega)
  have fr_121 := fr_112.tr (hf_115.wd (by omega) (by omega))
  refine z_iinc hx dX5_init_39 (by decide) 1 rfl [1, 0] (lv' := [(0, .ref a), (1, .int (iI 4))]) rfl ?_
  refine z_goto (tgt := 20) hx dX5_init_42 (by decide) ?_
  refine z_iload_n hx dX5_init_20 rfl 1 rfl ?_
  refine z_bipush hx dX5_init_21 (by decide) ?_
  refine z_icmp_ge (tgt := 45) hx dX5_init_23 (by decide) (by decide) (by decide) (fun q => absurd q (by decide)) (fun _ => ?_)
  refine z_aload_n hx dX5_init_26 rfl 0 rfl ?_
  refine z_get hx dX5_init_27 fl_X5_11 h_116 rfl ?_
  refine z_iload_n hx dX5_init_30 rfl 1 rfl ?_
  refine z_new (ci := 1) (fs := [.null, .null, .null, .null, .null, .null, .null, .null, .null, .int (iI 0), .int (iI 0), .int (iI 0), .int (iI 0)]) hx dX5_init_31 wl_X5_9 wn_X1 wi_RX1 rfl wg_1 tyX1_ok (fun j hj => by rcases (show j = 0 ∨ j = 1 ∨ j = 2 ∨ j = 3 ∨ j = 4 ∨ j = 5 ∨ j = 6 ∨ j = 7 ∨ j = 8 ∨ j = 9 ∨ j = 10 ∨ j = 11 ∨ j = 12 by omega) with rfl | rfl | rfl | rfl | rfl | rfl | rfl | rfl | rfl | rfl | rfl | rfl | rfl <;> rfl) ⟨Nat.le_of_ble_eq_true rfl, Nat.le_of_ble_eq_true rfl⟩ ?_
  show Zj g x (a + 43, 42, 253) (hup h_113 (a + 42) (.inr (.inr (1, [.null, .null, .null, .null, .null, .null, .null, .null, .null, .int (iI 0), .int (iI 0), .int (iI 0), .int (iI 0)])))) 34 [(0, .ref a), (1, .int (iI 4))] [.ref (a + 42), .int (iI 4), .ref (a + 1)]
  obtain ⟨h_123, eh_123⟩ : ∃ hh, hh = hup h_113 (a + 42) (.inr (.inr (1, [.null, .null, .null, .null, .null, .null, .null, .null, .null, .int (iI 0), .int (iI 0), .int (iI 0), .int (iI 0)]))) := ⟨_, rfl⟩
  have hs_124 : h_123 (a + 42) = some (.inr (.inr (1, [.null, .null, .null, .null, .null, .null, .null, .null, .null, .int (iI 0), .int (iI 0), .int (iI 0), .int (iI 0)]))) := by rw [eh_123]; exact hup_s _ _ _
  have hf_125 : Fr h_113 h_123 (a + 42) 1 := by rw [eh_123]; exact hup_Fr _ _ _
  rw [← eh_123]
  have h_126 := hf_125.at (by omega) h_116
  have h_127 := hf_125.at (by omega) hs_114
  have h_128 := CM.fr h_117 hf_125 (by omega)
  have h_129 := CM.fr h_118 hf_125 (by omega)
  have h_130 := CM.fr h_119 hf_125 (by omega)
  have h_131 := CM.fr h_120 hf_125 (by omega)
  have fr_132 := fr_121.tr (hf_125.wd (by omega) (by omega))
  refine z_dup hx dX5_init_34 rfl ?_
  refine z_callI (as := []) (rest := [.ref (a + 42), .int (iI 4), .ref (a + 1)]) hx dX5_init_35 lk_X5_21 wm_X1_init ⟨rfl, rfl⟩ mo_X1_init (kX1_init g (a := (a + 42)) hs_124) (by decide) (Or.inr ⟨Nat.le_of_ble_eq_true rfl, Nat.le_of_ble_eq_true rfl⟩) rfl rfl (Nat.le_of_ble_eq_true rfl) (fun v_137 h_133 sz_138 q_134 => ?_)
  obtain ⟨⟨rfl, rfl⟩, hC_135, hf_136⟩ := q_134
  show Zj g x (a + 52, 51, 298) h_133 38 [(0, .ref a), (1, .int (iI 4))] [.ref (a + 42), .int (iI 4), .ref (a + 1)]
  have h_139 := hf_136.at (by omega) h_126
  have h_140 := hf_136.at (by omega) h_127
  have h_141 := CM.fr h_128 hf_136 (by omega)
  have h_142 := CM.fr h_129 hf_136 (by omega)
  have h_143 := CM.fr h_130 hf_136 (by omega)
  have h_144 := CM.fr h_131 hf_136 (by omega)
  have fr_145 := fr_132.tr (hf_136.wd (by omega) (by omega))
  refine z_aast (ci := 1) hx dX5_init_38 h_140 (by decide) (by decide) hC_135.1 ?_
  obtain ⟨h_146, eh_146⟩ : ∃ hh, hh = hup h_133 (a + 1) (.inr (.inl (8, fun q => if q = 4 then some (a + 42) else (fun q => if q = 3 then some (a + 32) else (fun q => if q = 2 then some (a + 22) else (fun q => if q = 1 then some (a + 12) else (fun q => if q = 0 then some (a + 2) else (fun _ => none) q) q) q) q) q))) := ⟨_, rfl⟩
  have hs_147 : h_146 (a + 1) = some (.inr (.inl (8, fun q => if q = 4 then some (a + 42) else (fun q => if q = 3 then some (a + 32) else (fun q => if q = 2 then some (a + 22) else (fun q => if q = 1 then some (a + 12) else (fun q => if q = 0 then some (a + 2) else (fun _ => none) q) q) q) q) q))) := by rw [eh_146]; exact hup_s _ _ _
  have hf_148 : Fr h_133 h_146 (a + 1) 1 := by rw [eh_146]; exact hup_Fr _ _ _
  rw [← eh_146]
  have h_149 := hf_148.at (by omega) h_139
  have h_150 := CM.fr h_141 hf_148 (by omega)
  have h_151 := CM.fr h_142 hf_148 (by omega)
  have h_152 := CM.fr h_143 hf_148 (by omega)
  have h_153 := CM.fr h_144 hf_148 (by omega)
  have h_154 := CM.fr hC_135 hf_148 (by omega)
  have fr_155 := fr_145.tr (hf_148.wd (by omega) (by omega))
  refine z_iinc hx dX5_init_39 (by decide) 1 rfl [1, 0] (lv' := [(0, .ref a), (1, .int (iI 5))]) rfl ?_
  refine z_goto (tgt := 20) hx dX5_init_42 (by decide) ?_
  refine z_iload_n hx dX5_init_20 rfl 1 rfl ?_
  refine z_bipush hx dX5_init_21 (by decide) ?_
  refine z_icmp_ge (tgt := 45) hx dX5_init_23 (by decide) (by decide) (by decide) (fun q => absurd q (by decide)) (fun _ => ?_)
  refine z_aload_n hx dX5_init_26 rfl 0 rfl ?_
  refine z_get hx dX5_init_27 fl_X5_11 h_149 rfl ?_
  refine z_iload_n hx dX5_init_30 rfl 1 rfl ?_
  refine z_new (ci := 1) (fs := [.null, .null, .null, .null, .null, .null, .null, .null, .null, .int (iI 0), .int (iI 0), .int (iI 0), .int (iI 0)]) hx dX5_init_31 wl_X5_9 wn_X1 wi_RX1 rfl wg_1 tyX1_ok (fun j hj => by rcases (show j = 0 ∨ j = 1 ∨ j = 2 ∨ j = 3 ∨ j = 4 ∨ j = 5 ∨ j = 6 ∨ j = 7 ∨ j = 8 ∨ j = 9 ∨ j = 10 ∨ j = 11 ∨ j = 12 by omega) with rfl | rfl | rfl | rfl | rfl | rfl | rfl | rfl | rfl | rfl | rfl | rfl | rfl <;> rfl) ⟨Nat.le_of_ble_eq_true rfl, Nat.le_of_ble_eq_true rfl⟩ ?_
  show Zj g x (a + 53, 52, 311) (hup h_146 (a + 52) (.inr (.inr (1, [.null, .null, .null, .null, .null, .null, .null, .null, .null, .int (iI 0), .int (iI 0), .int (iI 0), .int (iI 0)])))) 34 [(0, .ref a), (1, .int (iI 5))] [.ref (a + 52), .int (iI 5), .ref (a + 1)]
  obtain ⟨h_157, eh_157⟩ : ∃ hh, hh = hup h_146 (a + 52) (.inr (.inr (1, [.null, .null, .null, .null, .null, .null, .null, .null, .null, .int (iI 0), .int (iI 0), .int (iI 0), .int (iI 0)]))) := ⟨_, rfl⟩
  have hs_158 : h_157 (a + 52) = some (.inr (.inr (1, [.null, .null, .null, .null, .null, .null, .null, .null, .null, .int (iI 0), .int (iI 0), .int (iI 0), .int (iI 0)]))) := by rw [eh_157]; exact hup_s _ _ _
  have hf_159 : Fr h_146 h_157 (a + 52) 1 := by rw [eh_157]; exact hup_Fr _ _ _
  rw [← eh_157]
  have h_160 := hf_159.at (by omega) h_149
  have h_161 := hf_159.at (by omega) hs_147
  have h_162 := CM.fr h_150 hf_159 (by omega)
  have h_163 := CM.fr h_151 hf_159 (by omega)
  have h_164 := CM.fr h_152 hf_159 (by omega)
  have h_165 := CM.fr h_153 hf_159 (by omega)
  have h_166 := CM.fr h_154 hf_159 (by omega)
  have fr_167 := fr_155.tr (hf_159.wd (by omega) (by omega))
  refine z_dup hx dX5_init_34 rfl ?_
  refine z_callI (as := []) (rest := [.ref (a + 52), .int (iI 5), .ref (a + 1)]) hx dX5_init_35 lk_X5_21 wm_X1_init ⟨rfl, rfl⟩ mo_X1_init (kX1_init g (a := (a + 52)) hs_158) (by decide) (Or.inr ⟨Nat.le_of_ble_eq_true rfl, Nat.le_of_ble_eq_true rfl⟩) rfl rfl (Nat.le_of_ble_eq_true rfl) (fun v_172 h_168 sz_173 q_169 => ?_)
  obtain ⟨⟨rfl, rfl⟩, hC_170, hf_171⟩ := q_169
  show Zj g x (a + 62, 61, 356) h_168 38 [(0, .ref a), (1, .int (iI 5))] [.ref (a + 52), .int (iI 5), .ref (a + 1)]
  have h_174 := hf_171.at (by omega) h_160
  have h_175 := hf_171.at (by omega) h_161
  have h_176 := CM.fr h_162 hf_171 (by omega)
  have h_177 := CM.fr h_163 hf_171 (by omega)
  have h_178 := CM.fr h_164 hf_171 (by omega)
  have h_179 := CM.fr h_165 hf_171 (by omega)
  have h_180 := CM.fr h_166 hf_171 (by omega)
  have fr_181 := fr_167.tr (hf_171.wd (by omega) (by omega))
  refine z_aast (ci := 1) hx dX5_init_38 h_175 (by decide) (by decide) hC_170.1 ?_
  obtain ⟨h_182, eh_182⟩ : ∃ hh, hh = hup h_168 (a + 1) (.inr (.inl (8, fun q => if q = 5 then some (a + 52) else (fun q => if q = 4 then some (a + 42) else (fun q => if q = 3 then some (a + 32) else (fun q => if q = 2 then some (a + 22) else (fun q => if q = 1 then some (a + 12) else (fun q => if q = 0 then some (a + 2) else (fun _ => none) q) q) q) q) q) q))) := ⟨_, rfl⟩
  have hs_183 : h_182 (a + 1) = some (.inr (.inl (8, fun q => if q = 5 then some (a + 52) else (fun q => if q = 4 then some (a + 42) else (fun q => if q = 3 then some (a + 32) else (fun q => if q = 2 then some (a + 22) else (fun q => if q = 1 then some (a + 12) else (fun q => if q = 0 then some (a + 2) else (fun _ => none) q) q) q) q) q) q))) := by rw [eh_182]; exact hup_s _ _ _
  have hf_184 : Fr h_168 h_182 (a + 1) 1 := by rw [eh_182]; exact hup_Fr _ _ _
  rw [← eh_182]
  have h_185 := hf_184.at (by omega) h_174
  have h_186 := CM.fr h_176 hf_184 (by omega)
  have h_187 := CM.fr h_177 hf_184 (by omega)
  have h_188 := CM.fr h_178 hf_184 (by omega)
  have h_189 := CM.fr h_179 hf_184 (by omega)
  have h_190 := CM.fr h_180 hf_184 (by omega)
  have h_191 := CM.fr hC_170 hf_184 (by omega)
  have fr_192 := fr_181.tr (hf_184.wd (by omega) (by omega))
  refine z_iinc hx dX5_init_39 (by decide) 1 rfl [1, 0] (lv' := [(0, .ref a), (1, .int (iI 6))]) rfl ?_
  refine z_goto (tgt := 20) hx dX5_init_42 (by decide) ?_
  refine z_iload_n hx dX5_init_20 rfl 1 rfl ?_
  refine z_bipush hx dX5_init_21 (by decide) ?_
  refine z_icmp_ge (tgt := 45) hx dX5_init_23 (by decide) (by decide) (by decide) (fun q => absurd q (by decide)) (fun _ => ?_)
  refine z_aload_n hx dX5_init_26 rfl 0 rfl ?_
  refine z_get hx dX5_init_27 fl_X5_11 h_185 rfl ?_
  refine z_iload_n hx dX5_init_30 rfl 1 rfl ?_
  refine z_new (ci := 1) (fs := [.null, .null, .null, .null, .null, .null, .null, .null, .null, .int (iI 0), .int (iI 0), .int (iI 0), .int (iI 0)]) hx dX5_init_31 wl_X5_9 wn_X1 wi_RX1 rfl wg_1 tyX1_ok (fun j hj => by rcases (show j = 0 ∨ j = 1 ∨ j = 2 ∨ j = 3 ∨ j = 4 ∨ j = 5 ∨ j = 6 ∨ j = 7 ∨ j = 8 ∨ j = 9 ∨ j = 10 ∨ j = 11 ∨ j = 12 by omega) with rfl | rfl | rfl | rfl | rfl | rfl | rfl | rfl | rfl | rfl | rfl | rfl | rfl <;> rfl) ⟨Nat.le_of_ble_eq_true rfl, Nat.le_of_ble_eq_true rfl⟩ ?_
  show Zj g x (a + 63, 62, 369) (hup h_182 (a + 62) (.inr (.inr (1, [.null, .null, .null, .null, .null, .null, .null, .null, .null, .int (iI 0), .int (iI 0), .int (iI 0), .int (iI 0)])))) 34 [(0, .ref a), (1, .int (iI 6))] [.ref (a + 62), .int (iI 6), .ref (a + 1)]
  obtain ⟨h_194, eh_194⟩ : ∃ hh, hh = hup h_182 (a + 62) (.inr (.inr (1, [.null, .null, .null, .null, .null, .null, .null, .null, .null, .int (iI 0), .int (iI 0), .int (iI 0), .int (iI 0)]))) := ⟨_, rfl⟩
  have hs_195 : h_194 (a + 62) = some (.inr (.inr (1, [.null, .null, .null, .null, .null, .null, .null, .null, .null, .int (iI 0), .int (iI 0), .int (iI 0), .int (iI 0)]))) := by rw [eh_194]; exact hup_s _ _ _
  have hf_196 : Fr h_182 h_194 (a + 62) 1 := by rw [eh_194]; exact hup_Fr _ _ _
  rw [← eh_194]
  have h_197 := hf_196.at (by omega) h_185
  have h_198 := hf_196.at (by omega) hs_183
  have h_199 := CM.fr h_186 hf_196 (by omega)
  have h_200 := CM.fr h_187 hf_196 (by omega)
  have h_201 := CM.fr h_188 hf_196 (by omega)
  have h_202 := CM.fr h_189 hf_196 (by omega)
  have h_203 := CM.fr h_190 hf_196 (by omega)
  have h_204 := CM.fr h_191 hf_196 (by omega)
  have fr_205 := fr_192.tr (hf_196.wd (by omega) (by omega))
  refine z_dup hx dX5_init_34 rfl ?_
  refine z_callI (as := []) (rest := [.ref (a + 62), .int (iI 6), .ref (a + 1)]) hx dX5_init_35 lk_X5_21 wm_X1_init ⟨rfl, rfl⟩ mo_X1_init (kX1_init g (a := (a + 62)) hs_195) (by decide) (Or.inr ⟨Nat.le_of_ble_eq_true rfl, Nat.le_of_ble_eq_true rfl⟩) rfl rfl (Nat.le_of_ble_eq_true rfl) (fun v_210 h_206 sz_211 q_207 => ?_)
  obtain ⟨⟨rfl, rfl⟩, hC_208, hf_209⟩ := q_207
  show Zj g x (a + 72, 71, 414) h_206 38 [(0, .ref a), (1, .int (iI 6))] [.ref (a + 62), .int (iI 6), .ref (a + 1)]
  have h_212 := hf_209.at (by omega) h_197
  have h_213 := hf_209.at (by omega) h_198
  have h_214 := CM.fr h_199 hf_209 (by omega)
  have h_215 := CM.fr h_200 hf_209 (by omega)
  have h_216 := CM.fr h_201 hf_209 (by omega)
  have h_217 := CM.fr h_202 hf_209 (by omega)
  have h_218 := CM.fr h_203 hf_209 (by omega)
  have h_219 := CM.fr h_204 hf_209 (by omega)
  have fr_220 := fr_205.tr (hf_209.wd (by omega) (by omega))
  refine z_aast (ci := 1) hx dX5_init_38 h_213 (by decide) (by decide) hC_208.1 ?_
  obtain ⟨h_221, eh_221⟩ : ∃ hh, hh = hup h_206 (a + 1) (.inr (.inl (8, fun q => if q = 6 then some (a + 62) else (fun q => if q = 5 then some (a + 52) else (fun q => if q = 4 then some (a + 42) else (fun q => if q = 3 then some (a + 32) else (fun q => if q = 2 then some (a + 22) else (fun q => if q = 1 then some (a + 12) else (fun q => if q = 0 then some (a + 2) else (fun _ => none) q) q) q) q) q) q) q))) := ⟨_, rfl⟩
  have hs_222 : h_221 (a + 1) = some (.inr (.inl (8, fun q => if q = 6 then some (a + 62) else (fun q => if q = 5 then some (a + 52) else (fun q => if q = 4 then some (a + 42) else (fun q => if q = 3 then some (a + 32) else (fun q => if q = 2 then some (a + 22) else (fun q => if q = 1 then some (a + 12) else (fun q => if q = 0 then some (a + 2) else (fun _ => none) q) q) q) q) q) q) q))) := by rw [eh_221]; exact hup_s _ _ _
  have hf_223 : Fr h_206 h_221 (a + 1) 1 := by rw [eh_221]; exact hup_Fr _ _ _
  rw [← eh_221]
  have h_224 := hf_223.at (by omega) h_212
  have h_225 := CM.fr h_214 hf_223 (by omega)
  have h_226 := CM.fr h_215 hf_223 (by omega)
  have h_227 := CM.fr h_216 hf_223 (by omega)
  have h_228 := CM.fr h_217 hf_223 (by omega)
  have h_229 := CM.fr h_218 hf_223 (by omega)
  have h_230 := CM.fr h_219 hf_223 (by omega)
  have h_231 := CM.fr hC_208 hf_223 (by omega)
  have fr_232 := fr_220.tr (hf_223.wd (by omega) (by omega))
  refine z_iinc hx dX5_init_39 (by decide) 1 rfl [1, 0] (lv' := [(0, .ref a), (1, .int (iI 7))]) rfl ?_
  refine z_goto (tgt := 20) hx dX5_init_42 (by decide) ?_
  refine z_iload_n hx dX5_init_20 rfl 1 rfl ?_
  refine z_bipush hx dX5_init_21 (by decide) ?_
  refine z_icmp_ge (tgt := 45) hx dX5_init_23 (by decide) (by decide) (by decide) (fun q => absurd q (by decide)) (fun _ => ?_)
  refine z_aload_n hx dX5_init_26 rfl 0 rfl ?_
  refine z_get hx dX5_init_27 fl_X5_11 h_224 rfl ?_
  refine z_iload_n hx dX5_init_30 rfl 1 rfl ?_
  refine z_new (ci := 1) (fs := [.null, .null, .null, .null, .null, .null, .null, .null, .null, .int (iI 0), .int (iI 0), .int (iI 0), .int (iI 0)]) hx dX5_init_31 wl_X5_9 wn_X1 wi_RX1 rfl wg_1 tyX1_ok (fun j hj => by rcases (show j = 0 ∨ j = 1 ∨ j = 2 ∨ j = 3 ∨ j = 4 ∨ j = 5 ∨ j = 6 ∨ j = 7 ∨ j = 8 ∨ j = 9 ∨ j = 10 ∨ j = 11 ∨ j = 12 by omega) with rfl | rfl | rfl | rfl | rfl | rfl | rfl | rfl | rfl | rfl | rfl | rfl | rfl <;> rfl) ⟨Nat.le_of_ble_eq_true rfl, Nat.le_of_ble_eq_true rfl⟩ ?_
  show Zj g x (a + 73, 72, 427) (hup h_221 (a + 72) (.inr (.inr (1, [.null, .null, .null, .null, .null, .null, .null, .null, .null, .int (iI 0), .int (iI 0), .int (iI 0), .int (iI 0)])))) 34 [(0, .ref a), (1, .int (iI 7))] [.ref (a + 72), .int (iI 7), .ref (a + 1)]
  obtain ⟨h_234, eh_234⟩ : ∃ hh, hh = hup h_221 (a + 72) (.inr (.inr (1, [.null, .null, .null, .null, .null, .null, .null, .null, .null, .int (iI 0), .int (iI 0), .int (iI 0), .int (iI 0)]))) := ⟨_, rfl⟩
  have hs_235 : h_234 (a + 72) = some (.inr (.inr (1, [.null, .null, .null, .null, .null, .null, .null, .null, .null, .int (iI 0), .int (iI 0), .int (iI 0), .int (iI 0)]))) := by rw [eh_234]; exact hup_s _ _ _
  have hf_236 : Fr h_221 h_234 (a + 72) 1 := by rw [eh_234]; exact hup_Fr _ _ _
  rw [← eh_234]
  have h_237 := hf_236.at (by omega) h_224
  have h_238 := hf_236.at (by omega) hs_222
  have h_239 := CM.fr h_225 hf_236 (by omega)
  have h_240 := CM.fr h_226 hf_236 (by omega)
  have h_241 := CM.fr h_227 hf_236 (by omega)
  have h_242 := CM.fr h_228 hf_236 (by omega)
  have h_243 := CM.fr h_229 hf_236 (by omega)
  have h_244 := CM.fr h_230 hf_236 (by omega)
  have h_245 := CM.fr h_231 hf_236 (by omega)
  have fr_246 := fr_232.tr (hf_236.wd (by omega) (by omega))
  refine z_dup hx dX5_init_34 rfl ?_
  refine z_callI (as := []) (rest := [.ref (a + 72), .int (iI 7), .ref (a + 1)]) hx dX5_init_35 lk_X5_21 wm_X1_init ⟨rfl, rfl⟩ mo_X1_init (kX1_init g (a := (a + 72)) hs_235) (by decide) (Or.inr ⟨Nat.le_of_ble_eq_true rfl, Nat.le_of_ble_eq_true rfl⟩) rfl rfl (Nat.le_of_ble_eq_true rfl) (fun v_251 h_247 sz_252 q_248 => ?_)
  obtain ⟨⟨rfl, rfl⟩, hC_249, hf_250⟩ := q_248
  show Zj g x (a + 82, 81, 472) h_247 38 [(0, .ref a), (1, .int (iI 7))] [.ref (a + 72), .int (iI 7), .ref (a + 1)]
  have h_253 := hf_250.at (by omega) h_237
  have h_254 := hf_250.at (by omega) h_238
  have h_255 := CM.fr h_239 hf_250 (by omega)
  have h_256 := CM.fr h_240 hf_250 (by omega)
  have h_257 := CM.fr h_241 hf_250 (by omega)
  have h_258 := CM.fr h_242 hf_250 (by omega)
  have h_259 := CM.fr h_243 hf_250 (by omega)
  have h_260 := CM.fr h_244 hf_250 (by omega)
  have h_261 := CM.fr h_245 hf_250 (by omega)
  have fr_262 := fr_246.tr (hf_250.wd (by omega) (by omega))
  refine z_aast (ci := 1) hx dX5_init_38 h_254 (by decide) (by decide) hC_249.1 ?_
  obtain ⟨h_263, eh_263⟩ : ∃ hh, hh = hup h_247 (a + 1) (.inr (.inl (8, fun q => if q = 7 then some (a + 72) else (fun q => if q = 6 then some (a + 62) else (fun q => if q = 5 then some (a + 52) else (fun q => if q = 4 then some (a + 42) else (fun q => if q = 3 then some (a + 32) else (fun q => if q = 2 then some (a + 22) else (fun q => if q = 1 then some (a + 12) else (fun q => if q = 0 then some (a + 2) else (fun _ => none) q) q) q) q) q) q) q) q))) := ⟨_, rfl⟩
  have hs_264 : h_263 (a + 1) = some (.inr (.inl (8, fun q => if q = 7 then some (a + 72) else (fun q => if q = 6 then some (a + 62) else (fun q => if q = 5 then some (a + 52) else (fun q => if q = 4 then some (a + 42) else (fun q => if q = 3 then some (a + 32) else (fun q => if q = 2 then some (a + 22) else (fun q => if q = 1 then some (a + 12) else (fun q => if q = 0 then some (a + 2) else (fun _ => none) q) q) q) q) q) q) q) q))) := by rw [eh_263]; exact hup_s _ _ _
  have hf_265 : Fr h_247 h_263 (a + 1) 1 := by rw [eh_263]; exact hup_Fr _ _ _
  rw [← eh_263]
  have h_266 := hf_265.at (by omega) h_253
  have h_267 := CM.fr h_255 hf_265 (by omega)
  have h_268 := CM.fr h_256 hf_265 (by omega)
  have h_269 := CM.fr h_257 hf_265 (by omega)
  have h_270 := CM.fr h_258 hf_265 (by omega)
  have h_271 := CM.fr h_259 hf_265 (by omega)
  have h_272 := CM.fr h_260 hf_265 (by omega)
  have h_273 := CM.fr h_261 hf_265 (by omega)
  have h_274 := CM.fr hC_249 hf_265 (by omega)
  have fr_275 := fr_262.tr (hf_265.wd (by omega) (by omega))
  refine z_iinc hx dX5_init_39 (by decide) 1 rfl [1, 0] (lv' := [(0, .ref a), (1, .int (iI 8))]) rfl ?_
  refine z_goto (tgt := 20) hx dX5_init_42 (by decide) ?_
  refine z_iload_n hx dX5_init_20 rfl 1 rfl ?_
  refine z_bipush hx dX5_init_21 (by decide) ?_
  refine z_icmp_ge (tgt := 45) hx dX5_init_23 (by decide) (by decide) (by decide) (fun _ => ?_) (fun q => absurd q (by decide))
  have hr9 : ∀ i : Int, 0 ≤ i → i < 8 → (fun q => if q = 7 then some (a + 72) else (fun q => if q = 6 then some (a + 62) else (fun q => if q = 5 then some (a + 52) else (fun q => if q = 4 then some (a + 42) else (fun q => if q = 3 then some (a + 32) else (fun q => if q = 2 then some (a + 22) else (fun q => if q = 1 then some (a + 12) else (fun q => if q = 0 then some (a + 2) else (fun _ => none) q) q) q) q) q) q) q) q) i = some (a + 2 + 10 * i.toNat) := by
    intro i x1 y1
    rcases (show i = 0 ∨ i = 1 ∨ i = 2 ∨ i = 3 ∨ i = 4 ∨ i = 5 ∨ i = 6 ∨ i = 7 by omega) with rfl | rfl | rfl | rfl | rfl | rfl | rfl | rfl
    · rw [show a + 2 + 10 * (0 : Int).toNat = a + 2 by omega]; rfl
    · rw [show a + 2 + 10 * (1 : Int).toNat = a + 12 by omega]; rfl
    · rw [show a + 2 + 10 * (2 : Int).toNat = a + 22 by omega]; rfl
    · rw [show a + 2 + 10 * (3 : Int).toNat = a + 32 by omega]; rfl
    · rw [show a + 2 + 10 * (4 : Int).toNat = a + 42 by omega]; rfl
    · rw [show a + 2 + 10 * (5 : Int).toNat = a + 52 by omega]; rfl
    · rw [show a + 2 + 10 * (6 : Int).toNat = a + 62 by omega]; rfl
    · rw [show a + 2 + 10 * (7 : Int).toNat = a + 72 by omega]; rfl
  have hc9 : ∀ i : Int, 0 ≤ i → i < 8 → CM h_263 (a + 2 + 10 * i.toNat) ZF := by
    intro i x1 y1
    rcases (show i = 0 ∨ i = 1 ∨ i = 2 ∨ i = 3 ∨ i = 4 ∨ i = 5 ∨ i = 6 ∨ i = 7 by omega) with rfl | rfl | rfl | rfl | rfl | rfl | rfl | rfl
    · rw [show a + 2 + 10 * (0 : Int).toNat = a + 2 by omega]; exact h_267
    · rw [show a + 2 + 10 * (1 : Int).toNat = a + 12 by omega]; exact h_268
    · rw [show a + 2 + 10 * (2 : Int).toNat = a + 22 by omega]; exact h_269
    · rw [show a + 2 + 10 * (3 : Int).toNat = a + 32 by omega]; exact h_270
    · rw [show a + 2 + 10 * (4 : Int).toNat = a + 42 by omega]; exact h_271
    · rw [show a + 2 + 10 * (5 : Int).toNat = a + 52 by omega]; exact h_272
    · rw [show a + 2 + 10 * (6 : Int).toNat = a + 62 by omega]; exact h_273
    · rw [show a + 2 + 10 * (7 : Int).toNat = a + 72 by omega]; exact h_274
  refine z_vret hx hr dX5_init_45 rfl ⟨⟨rfl, rfl⟩, ⟨h_266, ⟨_, hs_264, hr9⟩, fun i x1 y1 => ⟨⟨x1, y1⟩, fun j _ _ e9 => e9⟩, hc9⟩, fr_275⟩

set_option maxHeartbeats 4000000 in
set_option maxRecDepth 20000 in
theorem kX2_init (g : Gt) {h : AH} {a : Nat} (h0 : h a = some (.inr (.inr (2, [.null, .null])))) : Cna g mX2_init 3 [.ref a] h (a + 1) 52 299 (fun v h' sz' => (v = none ∧ sz' = a + 53) ∧ EM h' a (fun _ => 0) (fun _ => ZF) ∧ Fr h h' a 53) := by
  refine Cna.mk (by decide +kernel) (Nat.le_of_ble_eq_true rfl) ?_
  intro x hx hr
  show Zj g x (a + 1, 0, 0) h 0 [(0, .ref a)] []
  refine z_aload_n hx dX2_init_0 rfl 0 rfl ?_
  refine z_objinit hx dX2_init_1 wk_X2_3 (by decide) (Nat.le_of_ble_eq_true rfl) ?_
  refine z_aload_n hx dX2_init_4 rfl 0 rfl ?_
  refine z_iconst hx dX2_init_5 ?_
  refine z_newq (n := 5) hx dX2_init_6 wl_X2_9 (by decide) rfl ⟨Nat.le_of_ble_eq_true rfl, Nat.le_of_ble_eq_true rfl⟩ ?_
  show Zj g x (a + 2, 1, 5) (hup h (a + 1) (.inr (.inl (5, fun _ => none)))) 9 [(0, .ref a)] [.ref (a + 1), .ref a]
  obtain ⟨h_1, eh_1⟩ : ∃ hh, hh = hup h (a + 1) (.inr (.inl (5, fun _ => none))) := ⟨_, rfl⟩
  have hs_2 : h_1 (a + 1) = some (.inr (.inl (5, fun _ => none))) := by rw [eh_1]; exact hup_s _ _ _
  have hf_3 : Fr h h_1 (a + 1) 1 := by rw [eh_1]; exact hup_Fr _ _ _
  rw [← eh_1]
  have h_4 := hf_3.at (by omega) h0
  have fr_5 : Fr h h_1 a 53 := hf_3.wd (by omega) (by omega)
  refine z_putF hx dX2_init_9 ff_X2_11 rfl h_4 ⟨rfl, rfl⟩ (Nat.le_of_ble_eq_true rfl) ?_
  show Zj g x (a + 2, 1, 5) (hup h_1 a (.inr (.inr (2, [.ref (a + 1), .null])))) 12 [(0, .ref a)] []
  obtain ⟨h_6, eh_6⟩ : ∃ hh, hh = hup h_1 a (.inr (.inr (2, [.ref (a + 1), .null]))) := ⟨_, rfl⟩
  have hs_7 : h_6 a = some (.inr (.inr (2, [.ref (a + 1), .null]))) := by rw [eh_6]; exact hup_s _ _ _
  have hf_8 : Fr h_1 h_6 a 1 := by rw [eh_6]; exact hup_Fr _ _ _
  rw [← eh_6]
  have h_9 := hf_8.at (by omega) hs_2
  have fr_10 := fr_5.tr (hf_8.wd (by omega) (by omega))
  refine z_aload_n hx dX2_init_12 rfl 0 rfl ?_
  refine z_iconst hx dX2_init_13 ?_
  refine z_newai (n := 4) hx dX2_init_14 (by decide) rfl ⟨Nat.le_of_ble_eq_true rfl, Nat.le_of_ble_eq_true rfl⟩ ?_
  show Zj g x (a + 3, 2, 9) (hup h_6 (a + 2) (.inl (0, 4, fun _ => 0))) 16 [(0, .ref a)] [.ref (a + 2), .ref a]
  obtain ⟨h_11, eh_11⟩ : ∃ hh, hh = hup h_6 (a + 2) (.inl (0, 4, fun _ => 0)) := ⟨_, rfl⟩
  have hs_12 : h_11 (a + 2) = some (.inl (0, 4, fun _ => 0)) := by rw [eh_11]; exact hup_s _ _ _
  have hf_13 : Fr h_6 h_11 (a + 2) 1 := by rw [eh_11]; exact hup_Fr _ _ _
  rw [← eh_11]
  have h_14 := hf_13.at (by omega) hs_7
  have h_15 := hf_13.at (by omega) h_9
  have fr_16 := fr_10.tr (hf_13.wd (by omega) (by omega))
  refine z_putF hx dX2_init_16 ff_X2_17 rfl h_14 ⟨rfl, rfl⟩ (Nat.le_of_ble_eq_true rfl) ?_
  show Zj g x (a + 3, 2, 9) (hup h_11 a (.inr (.inr (2, [.ref (a + 1), .ref (a + 2)])))) 19 [(0, .ref a)] []
  obtain ⟨h_17, eh_17⟩ : ∃ hh, hh = hup h_11 a (.inr (.inr (2, [.ref (a + 1), .ref (a + 2)]))) := ⟨_, rfl⟩
  have hs_18 : h_17 a = some (.inr (.inr (2, [.ref (a + 1), .ref (a + 2)]))) := by rw [eh_17]; exact hup_s _ _ _
  have hf_19 : Fr h_11 h_17 a 1 := by rw [eh_17]; exact hup_Fr _ _ _
  rw [← eh_17]
  have h_20 := hf_19.at (by omega) h_15
  have h_21 := hf_19.at (by omega) hs_12
  have fr_22 := fr_16.tr (hf_19.wd (by omega) (by omega))
  refine z_iconst hx dX2_init_19 ?_
  refine z_istore_n hx dX2_init_20 rfl (by decide) [1, 0] (lv' := [(0, .ref a), (1, .int (iI 0))]) rfl ?_
  refine z_iload_n hx dX2_init_21 rfl 1 rfl ?_
  refine z_iconst hx dX2_init_22 ?_
  refine z_icmp_gt (tgt := 45) hx dX2_init_23 (by decide) (by decide) (by decide) (fun q => absurd q (by decide)) (fun _ => ?_)
  refine z_aload_n hx dX2_init_26 rfl 0 rfl ?_
  refine z_get hx dX2_init_27 fl_X2_11 hs_18 rfl ?_
  refine z_iload_n hx dX2_init_30 rfl 1 rfl ?_
  refine z_new (ci := 1) (fs := [.null, .null, .null, .null, .null, .null, .null, .null, .null, .int (iI 0), .int (iI 0), .int (iI 0), .int (iI 0)]) hx dX2_init_31 wl_X2_9 wn_X1 wi_RX1 rfl wg_1 tyX1_ok (fun j hj => by rcases (show j = 0 ∨ j = 1 ∨ j = 2 ∨ j = 3 ∨ j = 4 ∨ j = 5 ∨ j = 6 ∨ j = 7 ∨ j = 8 ∨ j = 9 ∨ j = 10 ∨ j = 11 ∨ j = 12 by omega) with rfl | rfl | rfl | rfl | rfl | rfl | rfl | rfl | rfl | rfl | rfl | rfl | rfl <;> rfl) ⟨Nat.le_of_ble_eq_true rfl, Nat.le_of_ble_eq_true rfl⟩ ?_
  show Zj g x (a + 4, 3, 22) (hup h_17 (a + 3) (.inr (.inr (1, [.null, .null, .null, .null, .null, .null, .null, .null, .null, .int (iI 0), .int (iI 0), .int (iI 0), .int (iI 0)])))) 34 [(0, .ref a), (1, .int (iI 0))] [.ref (a + 3), .int (iI 0), .ref (a + 1)]
  obtain ⟨h_24, eh_24⟩ : ∃ hh, hh = hup h_17 (a + 3) (.inr (.inr (1, [.null, .null, .null, .null, .null, .null, .null, .null, .null, .int (iI 0), .int (iI 0), .int (iI 0), .int (iI 0)]))) := ⟨_, rfl⟩
  have hs_25 : h_24 (a + 3) = some (.inr (.inr (1, [.null, .null, .null, .null, .null, .null, .null, .null, .null, .int (iI 0), .int (iI 0), .int (iI 0), .int (iI 0)]))) := by rw [eh_24]; exact hup_s _ _ _
  have hf_26 : Fr h_17 h_24 (a + 3) 1 := by rw [eh_24]; exact hup_Fr _ _ _
  rw [← eh_24]
  have h_27 := hf_26.at (by omega) hs_18
  have h_28 := hf_26.at (by omega) h_20
  have h_29 := hf_26.at (by omega) h_21
  have fr_30 := fr_22.tr (hf_26.wd (by omega) (by omega))
  refine z_dup hx dX2_init_34 rfl ?_
  refine z_callI (as := []) (rest := [.ref (a + 3), .int (iI 0), .ref (a + 1)]) hx dX2_init_35 lk_X2_21 wm_X1_init ⟨rfl, rfl⟩ mo_X1_init (kX1_init g (a := (a + 3)) hs_25) (by decide) (Or.inr ⟨Nat.le_of_ble_eq_true rfl, Nat.le_of_ble_eq_true rfl⟩) rfl rfl (Nat.le_of_ble_eq_true rfl) (fun v_35 h_31 sz_36 q_32 => ?_)
  obtain ⟨⟨rfl, rfl⟩, hC_33, hf_34⟩ := q_32
  show Zj g x (a + 13, 12, 67) h_31 38 [(0, .ref a), (1, .int (iI 0))] [.ref (a + 3), .int (iI 0), .ref (a + 1)]
  have h_37 := hf_34.at (by omega) h_27
  have h_38 := hf_34.at (by omega) h_28
  have h_39 := hf_34.at (by omega) h_29
  have fr_40 := fr_30.tr (hf_34.wd (by omega) (by omega))
  refine z_aast (ci := 1) hx dX2_init_38 h_38 (by decide) (by decide) hC_33.1 ?_
  obtain ⟨h_41, eh_41⟩ : ∃ hh, hh = hup h_31 (a + 1) (.inr (.inl (5, fun q => if q = 0 then some (a + 3) else (fun _ => none) q))) := ⟨_, rfl⟩
  have hs_42 : h_41 (a + 1) = some (.inr (.inl (5, fun q => if q = 0 then some (a + 3) else (fun _ => none) q))) := by rw [eh_41]; exact hup_s _ _ _
  have hf_43 : Fr h_31 h_41 (a + 1) 1 := by rw [eh_41]; exact hup_Fr _ _ _
  rw [← eh_41]
  have h_44 := hf_43.at (by omega) h_37
  have h_45 := hf_43.at (by omega) h_39
  have h_46 := CM.fr hC_33 hf_43 (by omega)
  have fr_47 := fr_40.tr (hf_43.wd (by omega) (by omega))
  refine z_iinc hx dX2_init_39 (by decide) 1 rfl [1, 0] (lv' := [(0, .ref a), (1, .int (iI 1))]) rfl ?_
  refine z_goto (tgt := 21) hx dX2_init_42 (by decide) ?_
  refine z_iload_n hx dX2_init_21 rfl 1 rfl ?_
  refine z_iconst hx dX2_init_22 ?_
  refine z_icmp_gt (tgt := 45) hx dX2_init_23 (by decide) (by decide) (by decide) (fun q => absurd q (by decide)) (fun _ => ?_)
  refine z_aload_n hx dX2_init_26 rfl 0 rfl ?_
  refine z_get hx dX2_init_27 fl_X2_11 h_44 rfl ?_
  refine z_iload_n hx dX2_init_30 rfl 1 rfl ?_
  refine z_new (ci := 1) (fs := [.null, .null, .null, .null, .null, .null, .null, .null, .null, .int (iI 0), .int (iI 0), .int (iI 0), .int (iI 0)]) hx dX2_init_31 wl_X2_9 wn_X1 wi_RX1 rfl wg_1 tyX1_ok (fun j hj => by rcases (show j = 0 ∨ j = 1 ∨ j = 2 ∨ j = 3 ∨ j = 4 ∨ j = 5 ∨ j = 6 ∨ j = 7 ∨ j = 8 ∨ j = 9 ∨ j = 10 ∨ j = 11 ∨ j = 12 by omega) with rfl | rfl | rfl | rfl | rfl | rfl | rfl | rfl | rfl | rfl | rfl | rfl | rfl <;> rfl) ⟨Nat.le_of_ble_eq_true rfl, Nat.le_of_ble_eq_true rfl⟩ ?_
  show Zj g x (a + 14, 13, 80) (hup h_41 (a + 13) (.inr (.inr (1, [.null, .null, .null, .null, .null, .null, .null, .null, .null, .int (iI 0), .int (iI 0), .int (iI 0), .int (iI 0)])))) 34 [(0, .ref a), (1, .int (iI 1))] [.ref (a + 13), .int (iI 1), .ref (a + 1)]
  obtain ⟨h_49, eh_49⟩ : ∃ hh, hh = hup h_41 (a + 13) (.inr (.inr (1, [.null, .null, .null, .null, .null, .null, .null, .null, .null, .int (iI 0), .int (iI 0), .int (iI 0), .int (iI 0)]))) := ⟨_, rfl⟩
  have hs_50 : h_49 (a + 13) = some (.inr (.inr (1, [.null, .null, .null, .null, .null, .null, .null, .null, .null, .int (iI 0), .int (iI 0), .int (iI 0), .int (iI 0)]))) := by rw [eh_49]; exact hup_s _ _ _
  have hf_51 : Fr h_41 h_49 (a + 13) 1 := by rw [eh_49]; exact hup_Fr _ _ _
  rw [← eh_49]
  have h_52 := hf_51.at (by omega) h_44
  have h_53 := hf_51.at (by omega) hs_42
  have h_54 := hf_51.at (by omega) h_45
  have h_55 := CM.fr h_46 hf_51 (by omega)
  have fr_56 := fr_47.tr (hf_51.wd (by omega) (by omega))
  refine z_dup hx dX2_init_34 rfl ?_
  refine z_callI (as := []) (rest := [.ref (a + 13), .int (iI 1), .ref (a + 1)]) hx dX2_init_35 lk_X2_21 wm_X1_init ⟨rfl, rfl⟩ mo_X1_init (kX1_init g (a := (a + 13)) hs_50) (by decide) (Or.inr ⟨Nat.le_of_ble_eq_true rfl, Nat.le_of_ble_eq_true rfl⟩) rfl rfl (Nat.le_of_ble_eq_true rfl) (fun v_61 h_57 sz_62 q_58 => ?_)
  obtain ⟨⟨rfl, rfl⟩, hC_59, hf_60⟩ := q_58
  show Zj g x (a + 23, 22, 125) h_57 38 [(0, .ref a), (1, .int (iI 1))] [.ref (a + 13), .int (iI 1), .ref (a + 1)]
  have h_63 := hf_60.at (by omega) h_52
  have h_64 := hf_60.at (by omega) h_53
  have h_65 := hf_60.at (by omega) h_54
  have h_66 := CM.fr h_55 hf_60 (by omega)
  have fr_67 := fr_56.tr (hf_60.wd (by omega) (by omega))
  refine z_aast (ci := 1) hx dX2_init_38 h_64 (by decide) (by decide) hC_59.1 ?_
  obtain ⟨h_68, eh_68⟩ : ∃ hh, hh = hup h_57 (a + 1) (.inr (.inl (5, fun q => if q = 1 then some (a + 13) else (fun q => if q = 0 then some (a + 3) else (fun _ => none) q) q))) := ⟨_, rfl⟩
  have hs_69 : h_68 (a + 1) = some (.inr (.inl (5, fun q => if q = 1 then some (a + 13) else (fun q => if q = 0 then some (a + 3) else (fun _ => none) q) q))) := by rw [eh_68]; exact hup_s _ _ _
  have hf_70 : Fr h_57 h_68 (a + 1) 1 := by rw [eh_68]; exact hup_Fr _ _ _
  rw [← eh_68]
  have h_71 := hf_70.at (by omega) h_63
  have h_72 := hf_70.at (by omega) h_65
  have h_73 := CM.fr h_66 hf_70 (by omega)
  have h_74 := CM.fr hC_59 hf_70 (by omega)
  have fr_75 := fr_67.tr (hf_70.wd (by omega) (by omega))
  refine z_iinc hx dX2_init_39 (by decide) 1 rfl [1, 0] (lv' := [(0, .ref a), (1, .int (iI 2))]) rfl ?_
  refine z_goto (tgt := 21) hx dX2_init_42 (by decide) ?_
  refine z_iload_n hx dX2_init_21 rfl 1 rfl ?_
  refine z_iconst hx dX2_init_22 ?_
  refine z_icmp_gt (tgt := 45) hx dX2_init_23 (by decide) (by decide) (by decide) (fun q => absurd q (by decide)) (fun _ => ?_)
  refine z_aload_n hx dX2_init_26 rfl 0 rfl ?_
  refine z_get hx dX2_init_27 fl_X2_11 h_71 rfl ?_
  refine z_iload_n hx dX2_init_30 rfl 1 rfl ?_
  refine z_new (ci := 1) (fs := [.null, .null, .null, .null, .null, .null, .null, .null, .null, .int (iI 0), .int (iI 0), .int (iI 0), .int (iI 0)]) hx dX2_init_31 wl_X2_9 wn_X1 wi_RX1 rfl wg_1 tyX1_ok (fun j hj => by rcases (show j = 0 ∨ j = 1 ∨ j = 2 ∨ j = 3 ∨ j = 4 ∨ j = 5 ∨ j = 6 ∨ j = 7 ∨ j = 8 ∨ j = 9 ∨ j = 10 ∨ j = 11 ∨ j = 12 by omega) with rfl | rfl | rfl | rfl | rfl | rfl | rfl | rfl | rfl | rfl | rfl | rfl | rfl <;> rfl) ⟨Nat.le_of_ble_eq_true rfl, Nat.le_of_ble_eq_true rfl⟩ ?_
  show Zj g x (a + 24, 23, 138) (hup h_68 (a + 23) (.inr (.inr (1, [.null, .null, .null, .null, .null, .null, .null, .null, .null, .int (iI 0), .int (iI 0), .int (iI 0), .int (iI 0)])))) 34 [(0, .ref a), (1, .int (iI 2))] [.ref (a + 23), .int (iI 2), .ref (a + 1)]
  obtain ⟨h_77, eh_77⟩ : ∃ hh, hh = hup h_68 (a + 23) (.inr (.inr (1, [.null, .null, .null, .null, .null, .null, .null, .null, .null, .int (iI 0), .int (iI 0), .int (iI 0), .int (iI 0)]))) := ⟨_, rfl⟩
  have hs_78 : h_77 (a + 23) = some (.inr (.inr (1, [.null, .null, .null, .null, .null, .null, .null, .null, .null, .int (iI 0), .int (iI 0), .int (iI 0), .int (iI 0)]))) := by rw [eh_77]; exact hup_s _ _ _
  have hf_79 : Fr h_68 h_77 (a + 23) 1 := by rw [eh_77]; exact hup_Fr _ _ _
  rw [← eh_77]
  have h_80 := hf_79.at (by omega) h_71
  have h_81 := hf_79.at (by omega) hs_69
  have h_82 := hf_79.at (by omega) h_72
  have h_83 := CM.fr h_73 hf_79 (by omega)
  have h_84 := CM.fr h_74 hf_79 (by omega)
  have fr_85 := fr_75.tr (hf_79.wd (by omega) (by omega))
  refine z_dup hx dX2_init_34 rfl ?_
  refine z_callI (as := []) (rest := [.ref (a + 23), .int (iI 2), .ref (a + 1)]) hx dX2_init_35 lk_X2_21 wm_X1_init ⟨rfl, rfl⟩ mo_X1_init (kX1_init g (a := (a + 23)) hs_78) (by decide) (Or.inr ⟨Nat.le_of_ble_eq_true rfl, Nat.le_of_ble_eq_true rfl⟩) rfl rfl (Nat.le_of_ble_eq_true rfl) (fun v_90 h_86 sz_91 q_87 => ?_)
  obtain ⟨⟨rfl, rfl⟩, hC_88, hf_89⟩ := q_87
  show Zj g x (a + 33, 32, 183) h_86 38 [(0, .ref a), (1, .int (iI 2))] [.ref (a + 23), .int (iI 2), .ref (a + 1)]
  have h_92 := hf_89.at (by omega) h_80
  have h_93 := hf_89.at (by omega) h_81
  have h_94 := hf_89.at (by omega) h_82
  have h_95 := CM.fr h_83 hf_89 (by omega)
  have h_96 := CM.fr h_84 hf_89 (by omega)
  have fr_97 := fr_85.tr (hf_89.wd (by omega) (by omega))
  refine z_aast (ci := 1) hx dX2_init_38 h_93 (by decide) (by decide) hC_88.1 ?_
  obtain ⟨h_98, eh_98⟩ : ∃ hh, hh = hup h_86 (a + 1) (.inr (.inl (5, fun q => if q = 2 then some (a + 23) else (fun q => if q = 1 then some (a + 13) else (fun q => if q = 0 then some (a + 3) else (fun _ => none) q) q) q))) := ⟨_, rfl⟩
  have hs_99 : h_98 (a + 1) = some (.inr (.inl (5, fun q => if q = 2 then some (a + 23) else (fun q => if q = 1 then some (a + 13) else (fun q => if q = 0 then some (a + 3) else (fun _ => none) q) q) q))) := by rw [eh_98]; exact hup_s _ _ _
  have hf_100 : Fr h_86 h_98 (a + 1) 1 := by rw [eh_98]; exact hup_Fr _ _ _
  rw [← eh_98]
  have h_101 := hf_100.at (by omega) h_92
  have h_102 := hf_100.at (by omega) h_94
  have h_103 := CM.fr h_95 hf_100 (by omega)
  have h_104 := CM.fr h_96 hf_100 (by omega)
  have h_105 := CM.fr hC_88 hf_100 (by omega)
  have fr_106 := fr_97.tr (hf_100.wd (by omega) (by omega))
  refine z_iinc hx dX2_init_39 (by decide) 1 rfl [1, 0] (lv' := [(0, .ref a), (1, .int (iI 3))]) rfl ?_
  refine z_goto (tgt := 21) hx dX2_init_42 (by decide) ?_
  refine z_iload_n hx dX2_init_21 rfl 1 rfl ?_
  refine z_iconst hx dX2_init_22 ?_
  refine z_icmp_gt (tgt := 45) hx dX2_init_23 (by decide) (by decide) (by decide) (fun q => absurd q (by decide)) (fun _ => ?_)
  refine z_aload_n hx dX2_init_26 rfl 0 rfl ?_
  refine z_get hx dX2_init_27 fl_X2_11 h_101 rfl ?_
  refine z_iload_n hx dX2_init_30 rfl 1 rfl ?_
  refine z_new (ci := 1) (fs := [.null, .null, .null, .null, .null, .null, .null, .null, .null, .int (iI 0), .int (iI 0), .int (iI 0), .int (iI 0)]) hx dX2_init_31 wl_X2_9 wn_X1 wi_RX1 rfl wg_1 tyX1_ok (fun j hj => by rcases (show j = 0 ∨ j = 1 ∨ j = 2 ∨ j = 3 ∨ j = 4 ∨ j = 5 ∨ j = 6 ∨ j = 7 ∨ j = 8 ∨ j = 9 ∨ j = 10 ∨ j = 11 ∨ j = 12 by omega) with rfl | rfl | rfl | rfl | rfl | rfl | rfl | rfl | rfl | rfl | rfl | rfl | rfl <;> rfl) ⟨Nat.le_of_ble_eq_true rfl, Nat.le_of_ble_eq_true rfl⟩ ?_
  show Zj g x (a + 34, 33, 196) (hup h_98 (a + 33) (.inr (.inr (1, [.null, .null, .null, .null, .null, .null, .null, .null, .null, .int (iI 0), .int (iI 0), .int (iI 0), .int (iI 0)])))) 34 [(0, .ref a), (1, .int (iI 3))] [.ref (a + 33), .int (iI 3), .ref (a + 1)]
  obtain ⟨h_108, eh_108⟩ : ∃ hh, hh = hup h_98 (a + 33) (.inr (.inr (1, [.null, .null, .null, .null, .null, .null, .null, .null, .null, .int (iI 0), .int (iI 0), .int (iI 0), .int (iI 0)]))) := ⟨_, rfl⟩
  have hs_109 : h_108 (a + 33) = some (.inr (.inr (1, [.null, .null, .null, .null, .null, .null, .null, .null, .null, .int (iI 0), .int (iI 0), .int (iI 0), .int (iI 0)]))) := by rw [eh_108]; exact hup_s _ _ _
  have hf_110 : Fr h_98 h_108 (a + 33) 1 := by rw [eh_108]; exact hup_Fr _ _ _
  rw [← eh_108]
  have h_111 := hf_110.at (by omega) h_101
  have h_112 := hf_110.at (by omega) hs_99
  have h_113 := hf_110.at (by omega) h_102
  have h_114 := CM.fr h_103 hf_110 (by omega)
  have h_115 := CM.fr h_104 hf_110 (by omega)
  have h_116 := CM.fr h_105 hf_110 (by omega)
  have fr_117 := fr_106.tr (hf_110.wd (by omega) (by omega))
  refine z_dup hx dX2_init_34 rfl ?_
  refine z_callI (as := []) (rest := [.ref (a + 33), .int (iI 3), .ref (a + 1)]) hx dX2_init_35 lk_X2_21 wm_X1_init ⟨rfl, rfl⟩ mo_X1_init (kX1_init g (a := (a + 33)) hs_109) (by decide) (Or.inr ⟨Nat.le_of_ble_eq_true rfl, Nat.le_of_ble_eq_true rfl⟩) rfl rfl (Nat.le_of_ble_eq_true rfl) (fun v_122 h_118 sz_123 q_119 => ?_)
  obtain ⟨⟨rfl, rfl⟩, hC_120, hf_121⟩ := q_119
  show Zj g x (a + 43, 42, 241) h_118 38 [(0, .ref a), (1, .int (iI 3))] [.ref (a + 33), .int (iI 3), .ref (a + 1)]
  have h_124 := hf_121.at (by omega) h_111
  have h_125 := hf_121.at (by omega) h_112
  have h_126 := hf_121.at (by omega) h_113
  have h_127 := CM.fr h_114 hf_121 (by omega)
  have h_128 := CM.fr h_115 hf_121 (by omega)
  have h_129 := CM.fr h_116 hf_121 (by omega)
  have fr_130 := fr_117.tr (hf_121.wd (by omega) (by omega))
  refine z_aast (ci := 1) hx dX2_init_38 h_125 (by decide) (by decide) hC_120.1 ?_
  obtain ⟨h_131, eh_131⟩ : ∃ hh, hh = hup h_118 (a + 1) (.inr (.inl (5, fun q => if q = 3 then some (a + 33) else (fun q => if q = 2 then some (a + 23) else (fun q => if q = 1 then some (a + 13) else (fun q => if q = 0 then some (a + 3) else (fun _ => none) q) q) q) q))) := ⟨_, rfl⟩
  have hs_132 : h_131 (a + 1) = some (.inr (.inl (5, fun q => if q = 3 then some (a + 33) else (fun q => if q = 2 then some (a + 23) else (fun q => if q = 1 then some (a + 13) else (fun q => if q = 0 then some (a + 3) else (fun _ => none) q) q) q) q))) := by rw [eh_131]; exact hup_s _ _ _
  have hf_133 : Fr h_118 h_131 (a + 1) 1 := by rw [eh_131]; exact hup_Fr _ _ _
  rw [← eh_131]
  have h_134 := hf_133.at (by omega) h_124
  have h_135 := hf_133.at (by omega) h_126
  have h_136 := CM.fr h_127 hf_133 (by omega)
  have h_137 := CM.fr h_128 hf_133 (by omega)
  have h_138 := CM.fr h_129 hf_133 (by omega)
  have h_139 := CM.fr hC_120 hf_133 (by omega)
  have fr_140 := fr_130.tr (hf_133.wd (by omega) (by omega))
  refine z_iinc hx dX2_init_39 (by decide) 1 rfl [1, 0] (lv' := [(0, .ref a), (1, .int (iI 4))]) rfl ?_
  refine z_goto (tgt := 21) hx dX2_init_42 (by decide) ?_
  refine z_iload_n hx dX2_init_21 rfl 1 rfl ?_
  refine z_iconst hx dX2_init_22 ?_
  refine z_icmp_gt (tgt := 45) hx dX2_init_23 (by decide) (by decide) (by decide) (fun q => absurd q (by decide)) (fun _ => ?_)
  refine z_aload_n hx dX2_init_26 rfl 0 rfl ?_
  refine z_get hx dX2_init_27 fl_X2_11 h_134 rfl ?_
  refine z_iload_n hx dX2_init_30 rfl 1 rfl ?_
  refine z_new (ci := 1) (fs := [.null, .null, .null, .null, .null, .null, .null, .null, .null, .int (iI 0), .int (iI 0), .int (iI 0), .int (iI 0)]) hx dX2_init_31 wl_X2_9 wn_X1 wi_RX1 rfl wg_1 tyX1_ok (fun j hj => by rcases (show j = 0 ∨ j = 1 ∨ j = 2 ∨ j = 3 ∨ j = 4 ∨ j = 5 ∨ j = 6 ∨ j = 7 ∨ j = 8 ∨ j = 9 ∨ j = 10 ∨ j = 11 ∨ j = 12 by omega) with rfl | rfl | rfl | rfl | rfl | rfl | rfl | rfl | rfl | rfl | rfl | rfl | rfl <;> rfl) ⟨Nat.le_of_ble_eq_true rfl, Nat.le_of_ble_eq_true rfl⟩ ?_
  show Zj g x (a + 44, 43, 254) (hup h_131 (a + 43) (.inr (.inr (1, [.null, .null, .null, .null, .null, .null, .null, .null, .null, .int (iI 0), .int (iI 0), .int (iI 0), .int (iI 0)])))) 34 [(0, .ref a), (1, .int (iI 4))] [.ref (a + 43), .int (iI 4), .ref (a + 1)]
  obtain ⟨h_142, eh_142⟩ : ∃ hh, hh = hup h_131 (a + 43) (.inr (.inr (1, [.null, .null, .null, .null, .null, .null, .null, .null, .null, .int (iI 0), .int (iI 0), .int (iI 0), .int (iI 0)]))) := ⟨_, rfl⟩
  have hs_143 : h_142 (a + 43) = some (.inr (.inr (1, [.null, .null, .null, .null, .null, .null, .null, .null, .null, .int (iI 0), .int (iI 0), .int (iI 0), .int (iI 0)]))) := by rw [eh_142]; exact hup_s _ _ _
  have hf_144 : Fr h_131 h_142 (a + 43) 1 := by rw [eh_142]; exact hup_Fr _ _ _
  rw [← eh_142]
  have h_145 := hf_144.at (by omega) h_134
  have h_146 := hf_144.at (by omega) hs_132
  have h_147 := hf_144.at (by omega) h_135
  have h_148 := CM.fr h_136 hf_144 (by omega)
  have h_149 := CM.fr h_137 hf_144 (by omega)
  have h_150 := CM.fr h_138 hf_144 (by omega)
  have h_151 := CM.fr h_139 hf_144 (by omega)
  have fr_152 := fr_140.tr (hf_144.wd (by omega) (by omega))
  refine z_dup hx dX2_init_34 rfl ?_
  refine z_callI (as := []) (rest := [.ref (a + 43), .int (iI 4), .ref (a + 1)]) hx dX2_init_35 lk_X2_21 wm_X1_init ⟨rfl, rfl⟩ mo_X1_init (kX1_init g (a := (a + 43)) hs_143) (by decide) (Or.inr ⟨Nat.le_of_ble_eq_true rfl, Nat.le_of_ble_eq_true rfl⟩) rfl rfl (Nat.le_of_ble_eq_true rfl) (fun v_157 h_153 sz_158 q_154 => ?_)
  obtain ⟨⟨rfl, rfl⟩, hC_155, hf_156⟩ := q_154
  show Zj g x (a + 53, 52, 299) h_153 38 [(0, .ref a), (1, .int (iI 4))] [.ref (a + 43), .int (iI 4), .ref (a + 1)]
  have h_159 := hf_156.at (by omega) h_145
  have h_160 := hf_156.at (by omega) h_146
  have h_161 := hf_156.at (by omega) h_147
  have h_162 := CM.fr h_148 hf_156 (by omega)
  have h_163 := CM.fr h_149 hf_156 (by omega)
  have h_164 := CM.fr h_150 hf_156 (by omega)
  have h_165 := CM.fr h_151 hf_156 (by omega)
  have fr_166 := fr_152.tr (hf_156.wd (by omega) (by omega))
  refine z_aast (ci := 1) hx dX2_init_38 h_160 (by decide) (by decide) hC_155.1 ?_
  obtain ⟨h_167, eh_167⟩ : ∃ hh, hh = hup h_153 (a + 1) (.inr (.inl (5, fun q => if q = 4 then some (a + 43) else (fun q => if q = 3 then some (a + 33) else (fun q => if q = 2 then some (a + 23) else (fun q => if q = 1 then some (a + 13) else (fun q => if q = 0 then some (a + 3) else (fun _ => none) q) q) q) q) q))) := ⟨_, rfl⟩
  have hs_168 : h_167 (a + 1) = some (.inr (.inl (5, fun q => if q = 4 then some (a + 43) else (fun q => if q = 3 then some (a + 33) else (fun q => if q = 2 then some (a + 23) else (fun q => if q = 1 then some (a + 13) else (fun q => if q = 0 then some (a + 3) else (fun _ => none) q) q) q) q) q))) := by rw [eh_167]; exact hup_s _ _ _
  have hf_169 : Fr h_153 h_167 (a + 1) 1 := by rw [eh_167]; exact hup_Fr _ _ _
  rw [← eh_167]
  have h_170 := hf_169.at (by omega) h_159
  have h_171 := hf_169.at (by omega) h_161
  have h_172 := CM.fr h_162 hf_169 (by omega)
  have h_173 := CM.fr h_163 hf_169 (by omega)
  have h_174 := CM.fr h_164 hf_169 (by omega)
  have h_175 := CM.fr h_165 hf_169 (by omega)
  have h_176 := CM.fr hC_155 hf_169 (by omega)
  have fr_177 := fr_166.tr (hf_169.wd (by omega) (by omega))
  refine z_iinc hx dX2_init_39 (by decide) 1 rfl [1, 0] (lv' := [(0, .ref a), (1, .int (iI 5))]) rfl ?_
  refine z_goto (tgt := 21) hx dX2_init_42 (by decide) ?_
  refine z_iload_n hx dX2_init_21 rfl 1 rfl ?_
  refine z_iconst hx dX2_init_22 ?_
  refine z_icmp_gt (tgt := 45) hx dX2_init_23 (by decide) (by decide) (by decide) (fun _ => ?_) (fun q => absurd q (by decide))
  have hr9 : ∀ i : Int, 0 ≤ i → i < 5 → (fun q => if q = 4 then some (a + 43) else (fun q => if q = 3 then some (a + 33) else (fun q => if q = 2 then some (a + 23) else (fun q => if q = 1 then some (a + 13) else (fun q => if q = 0 then some (a + 3) else (fun _ => none) q) q) q) q) q) i = some (a + 3 + 10 * i.toNat) := by
    intro i x1 y1
    rcases (show i = 0 ∨ i = 1 ∨ i = 2 ∨ i = 3 ∨ i = 4 by omega) with rfl | rfl | rfl | rfl | rfl
    · rw [show a + 3 + 10 * (0 : Int).toNat = a + 3 by omega]; rfl
    · rw [show a + 3 + 10 * (1 : Int).toNat = a + 13 by omega]; rfl
    · rw [show a + 3 + 10 * (2 : Int).toNat = a + 23 by omega]; rfl
    · rw [show a + 3 + 10 * (3 : Int).toNat = a + 33 by omega]; rfl
    · rw [show a + 3 + 10 * (4 : Int).toNat = a + 43 by omega]; rfl
  have hc9 : ∀ i : Int, 0 ≤ i → i < 5 → CM h_167 (a + 3 + 10 * i.toNat) ZF := by
    intro i x1 y1
    rcases (show i = 0 ∨ i = 1 ∨ i = 2 ∨ i = 3 ∨ i = 4 by omega) with rfl | rfl | rfl | rfl | rfl
    · rw [show a + 3 + 10 * (0 : Int).toNat = a + 3 by omega]; exact h_172
    · rw [show a + 3 + 10 * (1 : Int).toNat = a + 13 by omega]; exact h_173
    · rw [show a + 3 + 10 * (2 : Int).toNat = a + 23 by omega]; exact h_174
    · rw [show a + 3 + 10 * (3 : Int).toNat = a + 33 by omega]; exact h_175
    · rw [show a + 3 + 10 * (4 : Int).toNat = a + 43 by omega]; exact h_176
  refine z_vret hx hr dX2_init_45 rfl ⟨⟨rfl, rfl⟩, ⟨h_170, ⟨_, hs_168, hr9⟩, h_171, hc9⟩, fr_177⟩

set_option maxHeartbeats 4000000 in
set_option maxRecDepth 20000 in
theorem kX3_init (g : Gt) {h : AH} {a : Nat} (h0 : h a = some (.inr (.inr (3, [.null, .null, .null, .null, .null, .int (iI 0), .int (iI 0)])))) : Cna g mX3_init 4 [.ref a] h (a + 1) 95 550 (fun v h' sz' => (v = none ∧ sz' = a + 96) ∧ KM h' a ZF (fun i => i) (fun _ => ZF) 0 0 0 ZF ∧ Fr h h' a 96) := by
  refine Cna.mk (by decide +kernel) (Nat.le_of_ble_eq_true rfl) ?_
  intro x hx hr
  show Zj g x (a + 1, 0, 0) h 0 [(0, .ref a)] []
  refine z_aload_n hx dX3_init_0 rfl 0 rfl ?_
  refine z_objinit hx dX3_init_1 wk_X3_3 (by decide) (Nat.le_of_ble_eq_true rfl) ?_
  refine z_aload_n hx dX3_init_4 rfl 0 rfl ?_
  refine z_new (ci := 1) (fs := [.null, .null, .null, .null, .null, .null, .null, .null, .null, .int (iI 0), .int (iI 0), .int (iI 0), .int (iI 0)]) hx dX3_init_5 wl_X3_9 wn_X1 wi_RX1 rfl wg_1 tyX1_ok (fun j hj => by rcases (show j = 0 ∨ j = 1 ∨ j = 2 ∨ j = 3 ∨ j = 4 ∨ j = 5 ∨ j = 6 ∨ j = 7 ∨ j = 8 ∨ j = 9 ∨ j = 10 ∨ j = 11 ∨ j = 12 by omega) with rfl | rfl | rfl | rfl | rfl | rfl | rfl | rfl | rfl | rfl | rfl | rfl | rfl <;> rfl) ⟨Nat.le_of_ble_eq_true rfl, Nat.le_of_ble_eq_true rfl⟩ ?_
  show Zj g x (a + 2, 1, 13) (hup h (a + 1) (.inr (.inr (1, [.null, .null, .null, .null, .null, .null, .null, .null, .null, .int (iI 0), .int (iI 0), .int (iI 0), .int (iI 0)])))) 8 [(0, .ref a)] [.ref (a + 1), .ref a]
  obtain ⟨h_1, eh_1⟩ : ∃ hh, hh = hup h (a + 1) (.inr (.inr (1, [.null, .null, .null, .null, .null, .null, .null, .null, .null, .int (iI 0), .int (iI 0), .int (iI 0), .int (iI 0)]))) := ⟨_, rfl⟩
  have hs_2 : h_1 (a + 1) = some (.inr (.inr (1, [.null, .null, .null, .null, .null, .null, .null, .null, .null, .int (iI 0), .int (iI 0), .int (iI 0), .int (iI 0)]))) := by rw [eh_1]; exact hup_s _ _ _
  have hf_3 : Fr h h_1 (a + 1) 1 := by rw [eh_1]; exact hup_Fr _ _ _
  rw [← eh_1]
  have h_4 := hf_3.at (by omega) h0
  have fr_5 : Fr h h_1 a 96 := hf_3.wd (by omega) (by omega)
  refine z_dup hx dX3_init_8 rfl ?_
  refine z_callI (as := []) (rest := [.ref (a + 1), .ref a]) hx dX3_init_9 lk_X3_11 wm_X1_init ⟨rfl, rfl⟩ mo_X1_init (kX1_init g (a := (a + 1)) hs_2) (by decide) (Or.inr ⟨Nat.le_of_ble_eq_true rfl, Nat.le_of_ble_eq_true rfl⟩) rfl rfl (Nat.le_of_ble_eq_true rfl) (fun v_10 h_6 sz_11 q_7 => ?_)
  obtain ⟨⟨rfl, rfl⟩, hC_8, hf_9⟩ := q_7
  show Zj g x (a + 11, 10, 58) h_6 12 [(0, .ref a)] [.ref (a + 1), .ref a]
  have h_12 := hf_9.at (by omega) h_4
  have fr_13 := fr_5.tr (hf_9.wd (by omega) (by omega))
  refine z_putF hx dX3_init_12 ff_X3_12 rfl h_12 ⟨rfl, rfl⟩ (Nat.le_of_ble_eq_true rfl) ?_
  show Zj g x (a + 11, 10, 58) (hup h_6 a (.inr (.inr (3, [.ref (a + 1), .null, .null, .null, .null, .int (iI 0), .int (iI 0)])))) 15 [(0, .ref a)] []
  obtain ⟨h_14, eh_14⟩ : ∃ hh, hh = hup h_6 a (.inr (.inr (3, [.ref (a + 1), .null, .null, .null, .null, .int (iI 0), .int (iI 0)]))) := ⟨_, rfl⟩
  have hs_15 : h_14 a = some (.inr (.inr (3, [.ref (a + 1), .null, .null, .null, .null, .int (iI 0), .int (iI 0)]))) := by rw [eh_14]; exact hup_s _ _ _
  have hf_16 : Fr h_6 h_14 a 1 := by rw [eh_14]; exact hup_Fr _ _ _
  rw [← eh_14]
  have h_17 := CM.fr hC_8 hf_16 (by omega)
  have fr_18 := fr_13.tr (hf_16.wd (by omega) (by omega))
  refine z_aload_n hx dX3_init_15 rfl 0 rfl ?_
  refine z_new (ci := 4) (fs := [.null, .int (iI 0)]) hx dX3_init_16 wl_X3_18 wn_X5 wi_RX5 rfl wg_5 tyX5_ok (fun j hj => by rcases (show j = 0 ∨ j = 1 by omega) with rfl | rfl <;> rfl) ⟨Nat.le_of_ble_eq_true rfl, Nat.le_of_ble_eq_true rfl⟩ ?_
  show Zj g x (a + 12, 11, 60) (hup h_14 (a + 11) (.inr (.inr (4, [.null, .int (iI 0)])))) 19 [(0, .ref a)] [.ref (a + 11), .ref a]
  obtain ⟨h_19, eh_19⟩ : ∃ hh, hh = hup h_14 (a + 11) (.inr (.inr (4, [.null, .int (iI 0)]))) := ⟨_, rfl⟩
  have hs_20 : h_19 (a + 11) = some (.inr (.inr (4, [.null, .int (iI 0)]))) := by rw [eh_19]; exact hup_s _ _ _
  have hf_21 : Fr h_14 h_19 (a + 11) 1 := by rw [eh_19]; exact hup_Fr _ _ _
  rw [← eh_19]
  have h_22 := hf_21.at (by omega) hs_15
  have h_23 := CM.fr h_17 hf_21 (by omega)
  have fr_24 := fr_18.tr (hf_21.wd (by omega) (by omega))
  refine z_dup hx dX3_init_19 rfl ?_
  refine z_callI (as := []) (rest := [.ref (a + 11), .ref a]) hx dX3_init_20 lk_X3_20 wm_X5_init ⟨rfl, rfl⟩ mo_X5_init (kX5_init g (a := (a + 11)) hs_20) (by decide) (Or.inr ⟨Nat.le_of_ble_eq_true rfl, Nat.le_of_ble_eq_true rfl⟩) rfl rfl (Nat.le_of_ble_eq_true rfl) (fun v_29 h_25 sz_30 q_26 => ?_)
  obtain ⟨⟨rfl, rfl⟩, hC_27, hf_28⟩ := q_26
  show Zj g x (a + 93, 92, 532) h_25 23 [(0, .ref a)] [.ref (a + 11), .ref a]
  have h_31 := hf_28.at (by omega) h_22
  have h_32 := CM.fr h_23 hf_28 (by omega)
  have fr_33 := fr_24.tr (hf_28.wd (by omega) (by omega))
  refine z_putF hx dX3_init_23 ff_X3_21 rfl h_31 ⟨rfl, rfl⟩ (Nat.le_of_ble_eq_true rfl) ?_
  show Zj g x (a + 93, 92, 532) (hup h_25 a (.inr (.inr (3, [.ref (a + 1), .ref (a + 11), .null, .null, .null, .int (iI 0), .int (iI 0)])))) 26 [(0, .ref a)] []
  obtain ⟨h_34, eh_34⟩ : ∃ hh, hh = hup h_25 a (.inr (.inr (3, [.ref (a + 1), .ref (a + 11), .null, .null, .null, .int (iI 0), .int (iI 0)]))) := ⟨_, rfl⟩
  have hs_35 : h_34 a = some (.inr (.inr (3, [.ref (a + 1), .ref (a + 11), .null, .null, .null, .int (iI 0), .int (iI 0)]))) := by rw [eh_34]; exact hup_s _ _ _
  have hf_36 : Fr h_25 h_34 a 1 := by rw [eh_34]; exact hup_Fr _ _ _
  rw [← eh_34]
  have h_37 := CM.fr h_32 hf_36 (by omega)
  have h_38 := PM.fr hC_27 hf_36 (by omega)
  have fr_39 := fr_33.tr (hf_36.wd (by omega) (by omega))
  refine z_aload_n hx dX3_init_26 rfl 0 rfl ?_
  refine z_bipush hx dX3_init_27 (by decide) ?_
  refine z_newai (n := 6) hx dX3_init_29 (by decide) rfl ⟨Nat.le_of_ble_eq_true rfl, Nat.le_of_ble_eq_true rfl⟩ ?_
  show Zj g x (a + 94, 93, 538) (hup h_34 (a + 93) (.inl (0, 6, fun _ => 0))) 31 [(0, .ref a)] [.ref (a + 93), .ref a]
  obtain ⟨h_40, eh_40⟩ : ∃ hh, hh = hup h_34 (a + 93) (.inl (0, 6, fun _ => 0)) := ⟨_, rfl⟩
  have hs_41 : h_40 (a + 93) = some (.inl (0, 6, fun _ => 0)) := by rw [eh_40]; exact hup_s _ _ _
  have hf_42 : Fr h_34 h_40 (a + 93) 1 := by rw [eh_40]; exact hup_Fr _ _ _
  rw [← eh_40]
  have h_43 := hf_42.at (by omega) hs_35
  have h_44 := CM.fr h_37 hf_42 (by omega)
  have h_45 := PM.fr h_38 hf_42 (by omega)
  have fr_46 := fr_39.tr (hf_42.wd (by omega) (by omega))
  refine z_putF hx dX3_init_31 ff_X3_25 rfl h_43 ⟨rfl, rfl⟩ (Nat.le_of_ble_eq_true rfl) ?_
  show Zj g x (a + 94, 93, 538) (hup h_40 a (.inr (.inr (3, [.ref (a + 1), .ref (a + 11), .ref (a + 93), .null, .null, .int (iI 0), .int (iI 0)])))) 34 [(0, .ref a)] []
  obtain ⟨h_47, eh_47⟩ : ∃ hh, hh = hup h_40 a (.inr (.inr (3, [.ref (a + 1), .ref (a + 11), .ref (a + 93), .null, .null, .int (iI 0), .int (iI 0)]))) := ⟨_, rfl⟩
  have hs_48 : h_47 a = some (.inr (.inr (3, [.ref (a + 1), .ref (a + 11), .ref (a + 93), .null, .null, .int (iI 0), .int (iI 0)]))) := by rw [eh_47]; exact hup_s _ _ _
  have hf_49 : Fr h_40 h_47 a 1 := by rw [eh_47]; exact hup_Fr _ _ _
  rw [← eh_47]
  have h_50 := CM.fr h_44 hf_49 (by omega)
  have h_51 := PM.fr h_45 hf_49 (by omega)
  have h_52 := hf_49.at (by omega) hs_41
  have fr_53 := fr_46.tr (hf_49.wd (by omega) (by omega))
  refine z_aload_n hx dX3_init_34 rfl 0 rfl ?_
  refine z_bipush hx dX3_init_35 (by decide) ?_
  refine z_newai (n := 6) hx dX3_init_37 (by decide) rfl ⟨Nat.le_of_ble_eq_true rfl, Nat.le_of_ble_eq_true rfl⟩ ?_
  show Zj g x (a + 95, 94, 544) (hup h_47 (a + 94) (.inl (0, 6, fun _ => 0))) 39 [(0, .ref a)] [.ref (a + 94), .ref a]
  obtain ⟨h_54, eh_54⟩ : ∃ hh, hh = hup h_47 (a + 94) (.inl (0, 6, fun _ => 0)) := ⟨_, rfl⟩
  have hs_55 : h_54 (a + 94) = some (.inl (0, 6, fun _ => 0)) := by rw [eh_54]; exact hup_s _ _ _
  have hf_56 : Fr h_47 h_54 (a + 94) 1 := by rw [eh_54]; exact hup_Fr _ _ _
  rw [← eh_54]
  have h_57 := hf_56.at (by omega) hs_48
  have h_58 := CM.fr h_50 hf_56 (by omega)
  have h_59 := PM.fr h_51 hf_56 (by omega)
  have h_60 := hf_56.at (by omega) h_52
  have fr_61 := fr_53.tr (hf_56.wd (by omega) (by omega))
  refine z_putF hx dX3_init_39 ff_X3_29 rfl h_57 ⟨rfl, rfl⟩ (Nat.le_of_ble_eq_true rfl) ?_
  show Zj g x (a + 95, 94, 544) (hup h_54 a (.inr (.inr (3, [.ref (a + 1), .ref (a + 11), .ref (a + 93), .ref (a + 94), .null, .int (iI 0), .int (iI 0)])))) 42 [(0, .ref a)] []
  obtain ⟨h_62, eh_62⟩ : ∃ hh, hh = hup h_54 a (.inr (.inr (3, [.ref (a + 1), .ref (a + 11), .ref (a + 93), .ref (a + 94), .null, .int (iI 0), .int (iI 0)]))) := ⟨_, rfl⟩
  have hs_63 : h_62 a = some (.inr (.inr (3, [.ref (a + 1), .ref (a + 11), .ref (a + 93), .ref (a + 94), .null, .int (iI 0), .int (iI 0)]))) := by rw [eh_62]; exact hup_s _ _ _
  have hf_64 : Fr h_54 h_62 a 1 := by rw [eh_62]; exact hup_Fr _ _ _
  rw [← eh_62]
  have h_65 := CM.fr h_58 hf_64 (by omega)
  have h_66 := PM.fr h_59 hf_64 (by omega)
  have h_67 := hf_64.at (by omega) h_60
  have h_68 := hf_64.at (by omega) hs_55
  have fr_69 := fr_61.tr (hf_64.wd (by omega) (by omega))
  refine z_aload_n hx dX3_init_42 rfl 0 rfl ?_
  refine z_bipush hx dX3_init_43 (by decide) ?_
  refine z_newai (n := 6) hx dX3_init_45 (by decide) rfl ⟨Nat.le_of_ble_eq_true rfl, Nat.le_of_ble_eq_true rfl⟩ ?_
  show Zj g x (a + 96, 95, 550) (hup h_62 (a + 95) (.inl (0, 6, fun _ => 0))) 47 [(0, .ref a)] [.ref (a + 95), .ref a]
  obtain ⟨h_70, eh_70⟩ : ∃ hh, hh = hup h_62 (a + 95) (.inl (0, 6, fun _ => 0)) := ⟨_, rfl⟩
  have hs_71 : h_70 (a + 95) = some (.inl (0, 6, fun _ => 0)) := by rw [eh_70]; exact hup_s _ _ _
  have hf_72 : Fr h_62 h_70 (a + 95) 1 := by rw [eh_70]; exact hup_Fr _ _ _
  rw [← eh_70]
  have h_73 := hf_72.at (by omega) hs_63
  have h_74 := CM.fr h_65 hf_72 (by omega)
  have h_75 := PM.fr h_66 hf_72 (by omega)
  have h_76 := hf_72.at (by omega) h_67
  have h_77 := hf_72.at (by omega) h_68
  have fr_78 := fr_69.tr (hf_72.wd (by omega) (by omega))
  refine z_putF hx dX3_init_47 ff_X3_32 rfl h_73 ⟨rfl, rfl⟩ (Nat.le_of_ble_eq_true rfl) ?_
  show Zj g x (a + 96, 95, 550) (hup h_70 a (.inr (.inr (3, [.ref (a + 1), .ref (a + 11), .ref (a + 93), .ref (a + 94), .ref (a + 95), .int (iI 0), .int (iI 0)])))) 50 [(0, .ref a)] []
  obtain ⟨h_79, eh_79⟩ : ∃ hh, hh = hup h_70 a (.inr (.inr (3, [.ref (a + 1), .ref (a + 11), .ref (a + 93), .ref (a + 94), .ref (a + 95), .int (iI 0), .int (iI 0)]))) := ⟨_, rfl⟩
  have hs_80 : h_79 a = some (.inr (.inr (3, [.ref (a + 1), .ref (a + 11), .ref (a + 93), .ref (a + 94), .ref (a + 95), .int (iI 0), .int (iI 0)]))) := by rw [eh_79]; exact hup_s _ _ _
  have hf_81 : Fr h_70 h_79 a 1 := by rw [eh_79]; exact hup_Fr _ _ _
  rw [← eh_79]
  have h_82 := CM.fr h_74 hf_81 (by omega)
  have h_83 := PM.fr h_75 hf_81 (by omega)
  have h_84 := hf_81.at (by omega) h_76
  have h_85 := hf_81.at (by omega) h_77
  have h_86 := hf_81.at (by omega) hs_71
  have fr_87 := fr_78.tr (hf_81.wd (by omega) (by omega))
  refine z_aload_n hx dX3_init_50 rfl 0 rfl ?_
  refine z_iconst hx dX3_init_51 ?_
  refine z_putQ hx dX3_init_52 fl_X3_35 hs_80 ⟨rfl, rfl⟩ (Nat.le_of_ble_eq_true rfl) (fun h_88 hs_89 hf_90 => ?_)
  have h_91 := CM.fr h_82 hf_90 (by omega)
  have h_92 := PM.fr h_83 hf_90 (by omega)
  have h_93 := hf_90.at (by omega) h_84
  have h_94 := hf_90.at (by omega) h_85
  have h_95 := hf_90.at (by omega) h_86
  have fr_96 := fr_87.tr (hf_90.wd (by omega) (by omega))
  refine z_aload_n hx dX3_init_55 rfl 0 rfl ?_
  refine z_iconst hx dX3_init_56 ?_
  refine z_putQ hx dX3_init_57 fl_X3_39 hs_89 ⟨rfl, rfl⟩ (Nat.le_of_ble_eq_true rfl) (fun h_97 hs_98 hf_99 => ?_)
  have h_100 := CM.fr h_91 hf_99 (by omega)
  have h_101 := PM.fr h_92 hf_99 (by omega)
  have h_102 := hf_99.at (by omega) h_93
  have h_103 := hf_99.at (by omega) h_94
  have h_104 := hf_99.at (by omega) h_95
  have fr_105 := fr_96.tr (hf_99.wd (by omega) (by omega))
  refine z_vret hx hr dX3_init_60 rfl ⟨⟨rfl, rfl⟩, ⟨hs_98, h_100, h_101, h_102, h_103, h_104⟩, fr_105⟩

set_option maxHeartbeats 4000000 in
set_option maxRecDepth 20000 in
theorem kX6_init (g : Gt) {h : AH} {a : Nat} (h0 : h a = some (.inr (.inr (5, [.null, .null, .int (iI 0), .int (iI 0), .int (iI 0)])))) : Cna g mX6_init 3 [.ref a] h (a + 1) 11 61 (fun v h' sz' => (v = none ∧ sz' = a + 12) ∧ DM h' a ZF (fun _ => 0) 0 (-1) 0 ∧ Fr h h' a 12) := by
  refine Cna.mk (by decide +kernel) (Nat.le_of_ble_eq_true rfl) ?_
  intro x hx hr
  show Zj g x (a + 1, 0, 0) h 0 [(0, .ref a)] []
  refine z_aload_n hx dX6_init_0 rfl 0 rfl ?_
  refine z_objinit hx dX6_init_1 wk_X6_3 (by decide) (Nat.le_of_ble_eq_true rfl) ?_
  refine z_aload_n hx dX6_init_4 rfl 0 rfl ?_
  refine z_new (ci := 1) (fs := [.null, .null, .null, .null, .null, .null, .null, .null, .null, .int (iI 0), .int (iI 0), .int (iI 0), .int (iI 0)]) hx dX6_init_5 wl_X6_9 wn_X1 wi_RX1 rfl wg_1 tyX1_ok (fun j hj => by rcases (show j = 0 ∨ j = 1 ∨ j = 2 ∨ j = 3 ∨ j = 4 ∨ j = 5 ∨ j = 6 ∨ j = 7 ∨ j = 8 ∨ j = 9 ∨ j = 10 ∨ j = 11 ∨ j = 12 by omega) with rfl | rfl | rfl | rfl | rfl | rfl | rfl | rfl | rfl | rfl | rfl | rfl | rfl <;> rfl) ⟨Nat.le_of_ble_eq_true rfl, Nat.le_of_ble_eq_true rfl⟩ ?_
  show Zj g x (a + 2, 1, 13) (hup h (a + 1) (.inr (.inr (1, [.null, .null, .null, .null, .null, .null, .null, .null, .null, .int (iI 0), .int (iI 0), .int (iI 0), .int (iI 0)])))) 8 [(0, .ref a)] [.ref (a + 1), .ref a]
  obtain ⟨h_1, eh_1⟩ : ∃ hh, hh = hup h (a + 1) (.inr (.inr (1, [.null, .null, .null, .null, .null, .null, .null, .null, .null, .int (iI 0), .int (iI 0), .int (iI 0), .int (iI 0)]))) := ⟨_, rfl⟩
  have hs_2 : h_1 (a + 1) = some (.inr (.inr (1, [.null, .null, .null, .null, .null, .null, .null, .null, .null, .int (iI 0), .int (iI 0), .int (iI 0), .int (iI 0)]))) := by rw [eh_1]; exact hup_s _ _ _
  have hf_3 : Fr h h_1 (a + 1) 1 := by rw [eh_1]; exact hup_Fr _ _ _
  rw [← eh_1]
  have h_4 := hf_3.at (by omega) h0
  have fr_5 : Fr h h_1 a 12 := hf_3.wd (by omega) (by omega)
  refine z_dup hx dX6_init_8 rfl ?_
  refine z_callI (as := []) (rest := [.ref (a + 1), .ref a]) hx dX6_init_9 lk_X6_11 wm_X1_init ⟨rfl, rfl⟩ mo_X1_init (kX1_init g (a := (a + 1)) hs_2) (by decide) (Or.inr ⟨Nat.le_of_ble_eq_true rfl, Nat.le_of_ble_eq_true rfl⟩) rfl rfl (Nat.le_of_ble_eq_true rfl) (fun v_10 h_6 sz_11 q_7 => ?_)
  obtain ⟨⟨rfl, rfl⟩, hC_8, hf_9⟩ := q_7
  show Zj g x (a + 11, 10, 58) h_6 12 [(0, .ref a)] [.ref (a + 1), .ref a]
  have h_12 := hf_9.at (by omega) h_4
  have fr_13 := fr_5.tr (hf_9.wd (by omega) (by omega))
  refine z_putF hx dX6_init_12 ff_X6_12 rfl h_12 ⟨rfl, rfl⟩ (Nat.le_of_ble_eq_true rfl) ?_
  show Zj g x (a + 11, 10, 58) (hup h_6 a (.inr (.inr (5, [.ref (a + 1), .null, .int (iI 0), .int (iI 0), .int (iI 0)])))) 15 [(0, .ref a)] []
  obtain ⟨h_14, eh_14⟩ : ∃ hh, hh = hup h_6 a (.inr (.inr (5, [.ref (a + 1), .null, .int (iI 0), .int (iI 0), .int (iI 0)]))) := ⟨_, rfl⟩
  have hs_15 : h_14 a = some (.inr (.inr (5, [.ref (a + 1), .null, .int (iI 0), .int (iI 0), .int (iI 0)]))) := by rw [eh_14]; exact hup_s _ _ _
  have hf_16 : Fr h_6 h_14 a 1 := by rw [eh_14]; exact hup_Fr _ _ _
  rw [← eh_14]
  have h_17 := CM.fr hC_8 hf_16 (by omega)
  have fr_18 := fr_13.tr (hf_16.wd (by omega) (by omega))
  refine z_aload_n hx dX6_init_15 rfl 0 rfl ?_
  refine z_iconst hx dX6_init_16 ?_
  refine z_newai (n := 3) hx dX6_init_17 (by decide) rfl ⟨Nat.le_of_ble_eq_true rfl, Nat.le_of_ble_eq_true rfl⟩ ?_
  show Zj g x (a + 12, 11, 61) (hup h_14 (a + 11) (.inl (0, 3, fun _ => 0))) 19 [(0, .ref a)] [.ref (a + 11), .ref a]
  obtain ⟨h_19, eh_19⟩ : ∃ hh, hh = hup h_14 (a + 11) (.inl (0, 3, fun _ => 0)) := ⟨_, rfl⟩
  have hs_20 : h_19 (a + 11) = some (.inl (0, 3, fun _ => 0)) := by rw [eh_19]; exact hup_s _ _ _
  have hf_21 : Fr h_14 h_19 (a + 11) 1 := by rw [eh_19]; exact hup_Fr _ _ _
  rw [← eh_19]
  have h_22 := hf_21.at (by omega) hs_15
  have h_23 := CM.fr h_17 hf_21 (by omega)
  have fr_24 := fr_18.tr (hf_21.wd (by omega) (by omega))
  refine z_putF hx dX6_init_19 ff_X6_18 rfl h_22 ⟨rfl, rfl⟩ (Nat.le_of_ble_eq_true rfl) ?_
  show Zj g x (a + 12, 11, 61) (hup h_19 a (.inr (.inr (5, [.ref (a + 1), .ref (a + 11), .int (iI 0), .int (iI 0), .int (iI 0)])))) 22 [(0, .ref a)] []
  obtain ⟨h_25, eh_25⟩ : ∃ hh, hh = hup h_19 a (.inr (.inr (5, [.ref (a + 1), .ref (a + 11), .int (iI 0), .int (iI 0), .int (iI 0)]))) := ⟨_, rfl⟩
  have hs_26 : h_25 a = some (.inr (.inr (5, [.ref (a + 1), .ref (a + 11), .int (iI 0), .int (iI 0), .int (iI 0)]))) := by rw [eh_25]; exact hup_s _ _ _
  have hf_27 : Fr h_19 h_25 a 1 := by rw [eh_25]; exact hup_Fr _ _ _
  rw [← eh_25]
  have h_28 := CM.fr h_23 hf_27 (by omega)
  have h_29 := hf_27.at (by omega) hs_20
  have fr_30 := fr_24.tr (hf_27.wd (by omega) (by omega))
  refine z_aload_n hx dX6_init_22 rfl 0 rfl ?_
  refine z_iconst hx dX6_init_23 ?_
  refine z_putQ hx dX6_init_24 fl_X6_22 hs_26 ⟨rfl, rfl⟩ (Nat.le_of_ble_eq_true rfl) (fun h_31 hs_32 hf_33 => ?_)
  have h_34 := CM.fr h_28 hf_33 (by omega)
  have h_35 := hf_33.at (by omega) h_29
  have fr_36 := fr_30.tr (hf_33.wd (by omega) (by omega))
  refine z_aload_n hx dX6_init_27 rfl 0 rfl ?_
  refine z_iconst hx dX6_init_28 ?_
  refine z_putQ hx dX6_init_29 fl_X6_26 hs_32 ⟨rfl, rfl⟩ (Nat.le_of_ble_eq_true rfl) (fun h_37 hs_38 hf_39 => ?_)
  have h_40 := CM.fr h_34 hf_39 (by omega)
  have h_41 := hf_39.at (by omega) h_35
  have fr_42 := fr_36.tr (hf_39.wd (by omega) (by omega))
  refine z_aload_n hx dX6_init_32 rfl 0 rfl ?_
  refine z_iconst hx dX6_init_33 ?_
  refine z_putQ hx dX6_init_34 fl_X6_29 hs_38 ⟨rfl, rfl⟩ (Nat.le_of_ble_eq_true rfl) (fun h_43 hs_44 hf_45 => ?_)
  have h_46 := CM.fr h_40 hf_45 (by omega)
  have h_47 := hf_45.at (by omega) h_41
  have fr_48 := fr_42.tr (hf_45.wd (by omega) (by omega))
  refine z_vret hx hr dX6_init_37 rfl ⟨⟨rfl, rfl⟩, ⟨hs_44, h_46, h_47⟩, fr_48⟩

set_option maxHeartbeats 4000000 in
set_option maxRecDepth 20000 in
theorem kX7_init (g : Gt) {h : AH} {a : Nat} (h0 : h a = some (.inr (.inr (6, [.null, .int (iI 0), .int (iI 0), .int (iI 0), .int (iI 0), .int (iI 0)])))) : Cna g mX7_init 2 [.ref a] h (a + 1) 1 150 (fun v h' sz' => (v = none ∧ sz' = a + 2) ∧ TM h' a (fun _ => 0) 0 0 0 0 0 ∧ Fr h h' a 2) := by
  refine Cna.mk (by decide +kernel) (Nat.le_of_ble_eq_true rfl) ?_
  intro x hx hr
  show Zj g x (a + 1, 0, 0) h 0 [(0, .ref a)] []
  refine z_aload_n hx dX7_init_0 rfl 0 rfl ?_
  refine z_objinit hx dX7_init_1 wk_X7_3 (by decide) (Nat.le_of_ble_eq_true rfl) ?_
  refine z_aload_n hx dX7_init_4 rfl 0 rfl ?_
  refine z_sipush hx dX7_init_5 (by decide) ?_
  refine z_newac (n := 150) hx dX7_init_8 (by decide) rfl ⟨Nat.le_of_ble_eq_true rfl, Nat.le_of_ble_eq_true rfl⟩ ?_
  show Zj g x (a + 2, 1, 150) (hup h (a + 1) (.inl (1, 150, fun _ => 0))) 10 [(0, .ref a)] [.ref (a + 1), .ref a]
  obtain ⟨h_1, eh_1⟩ : ∃ hh, hh = hup h (a + 1) (.inl (1, 150, fun _ => 0)) := ⟨_, rfl⟩
  have hs_2 : h_1 (a + 1) = some (.inl (1, 150, fun _ => 0)) := by rw [eh_1]; exact hup_s _ _ _
  have hf_3 : Fr h h_1 (a + 1) 1 := by rw [eh_1]; exact hup_Fr _ _ _
  rw [← eh_1]
  have h_4 := hf_3.at (by omega) h0
  have fr_5 : Fr h h_1 a 2 := hf_3.wd (by omega) (by omega)
  refine z_putF hx dX7_init_10 ff_X7_9 rfl h_4 ⟨rfl, rfl⟩ (Nat.le_of_ble_eq_true rfl) ?_
  show Zj g x (a + 2, 1, 150) (hup h_1 a (.inr (.inr (6, [.ref (a + 1), .int (iI 0), .int (iI 0), .int (iI 0), .int (iI 0), .int (iI 0)])))) 13 [(0, .ref a)] []
  obtain ⟨h_6, eh_6⟩ : ∃ hh, hh = hup h_1 a (.inr (.inr (6, [.ref (a + 1), .int (iI 0), .int (iI 0), .int (iI 0), .int (iI 0), .int (iI 0)]))) := ⟨_, rfl⟩
  have hs_7 : h_6 a = some (.inr (.inr (6, [.ref (a + 1), .int (iI 0), .int (iI 0), .int (iI 0), .int (iI 0), .int (iI 0)]))) := by rw [eh_6]; exact hup_s _ _ _
  have hf_8 : Fr h_1 h_6 a 1 := by rw [eh_6]; exact hup_Fr _ _ _
  rw [← eh_6]
  have h_9 := hf_8.at (by omega) hs_2
  have fr_10 := fr_5.tr (hf_8.wd (by omega) (by omega))
  refine z_aload_n hx dX7_init_13 rfl 0 rfl ?_
  refine z_iconst hx dX7_init_14 ?_
  refine z_putQ hx dX7_init_15 fl_X7_15 hs_7 ⟨rfl, rfl⟩ (Nat.le_of_ble_eq_true rfl) (fun h_11 hs_12 hf_13 => ?_)
  have h_14 := hf_13.at (by omega) h_9
  have fr_15 := fr_10.tr (hf_13.wd (by omega) (by omega))
  refine z_aload_n hx dX7_init_18 rfl 0 rfl ?_
  refine z_iconst hx dX7_init_19 ?_
  refine z_putQ hx dX7_init_20 fl_X7_19 hs_12 ⟨rfl, rfl⟩ (Nat.le_of_ble_eq_true rfl) (fun h_16 hs_17 hf_18 => ?_)
  have h_19 := hf_18.at (by omega) h_14
  have fr_20 := fr_15.tr (hf_18.wd (by omega) (by omega))
  refine z_aload_n hx dX7_init_23 rfl 0 rfl ?_
  refine z_iconst hx dX7_init_24 ?_
  refine z_putQ hx dX7_init_25 fl_X7_22 hs_17 ⟨rfl, rfl⟩ (Nat.le_of_ble_eq_true rfl) (fun h_21 hs_22 hf_23 => ?_)
  have h_24 := hf_23.at (by omega) h_19
  have fr_25 := fr_20.tr (hf_23.wd (by omega) (by omega))
  refine z_aload_n hx dX7_init_28 rfl 0 rfl ?_
  refine z_iconst hx dX7_init_29 ?_
  refine z_putQ hx dX7_init_30 fl_X7_25 hs_22 ⟨rfl, rfl⟩ (Nat.le_of_ble_eq_true rfl) (fun h_26 hs_27 hf_28 => ?_)
  have h_29 := hf_28.at (by omega) h_24
  have fr_30 := fr_25.tr (hf_28.wd (by omega) (by omega))
  refine z_aload_n hx dX7_init_33 rfl 0 rfl ?_
  refine z_iconst hx dX7_init_34 ?_
  refine z_putQ hx dX7_init_35 fl_X7_28 hs_27 ⟨rfl, rfl⟩ (Nat.le_of_ble_eq_true rfl) (fun h_31 hs_32 hf_33 => ?_)
  have h_34 := hf_33.at (by omega) h_29
  have fr_35 := fr_30.tr (hf_33.wd (by omega) (by omega))
  refine z_vret hx hr dX7_init_38 rfl ⟨⟨rfl, rfl⟩, ⟨hs_32, h_34⟩, fr_35⟩

theorem RLC_00 : RLC ZF (fun _ => 0) := ⟨⟨rfl, rfl, rfl, rfl⟩, fun k a b => absurd (show k < 0 from b) (by omega), fun k a b => absurd (show k < 0 from b) (by omega), fun k a b => absurd (show k < 0 from b) (by omega)⟩
theorem invM_00 : invM S00 := by
  have hi : inv (fun _ => 0) := ⟨fun _ _ => by show (0 : Int) ≤ 0 ∧ (0 : Int) ≤ 2000; decide, by decide, fun _ _ => by dsimp only; omega, fun p hp => ⟨by show (0 : Int) < 24; decide, by show (0 : Int) ≤ 6; decide, fun _ => rfl, fun a _ => by dsimp only at a; omega⟩, fun _ _ => by show (0 : Int) < 24; decide⟩
  exact ⟨invN_0 hi (by decide) rfl rfl, fun _ _ => by show (0 : Int) ≤ 0 ∧ (0 : Int) ≤ 2000; decide, fun _ _ => by show (0 : Int) ≤ 0 ∧ (0 : Int) ≤ 2000; decide, by show (0 : Int) ≤ 0 ∧ (0 : Int) ≤ 150; decide, fun j _ _ => by show (0 : Int) ≤ 0 ∧ (0 : Int) ≤ 127; decide, fun i _ => Or.inl rfl⟩

set_option maxHeartbeats 4000000 in
set_option maxRecDepth 20000 in
theorem kX8_init (g : Gt) {h : AH} {a : Nat} (h0 : h a = some (.inr (.inr (0, [.null, .null, .null, .null, .null, .null, .null, .null, .long (lI 0), .long (lI 0), .int (iI 0), .int (iI 0), .int (iI 0)])))) : Cna g mX8_init 5 [.ref a] h (a + 1) 366 2258 (fun v h' sz' => (v = none ∧ sz' = a + 367) ∧ XR h' a S00 ∧ Fr h h' a 367) := by
  refine Cna.mk (by decide +kernel) (Nat.le_of_ble_eq_true rfl) ?_
  intro x hx hr
  show Zj g x (a + 1, 0, 0) h 0 [(0, .ref a)] []
  refine z_aload_n hx dX8_init_0 rfl 0 rfl ?_
  refine z_objinit hx dX8_init_1 wk_X8_1 (by decide) (Nat.le_of_ble_eq_true rfl) ?_
  refine z_aload_n hx dX8_init_4 rfl 0 rfl ?_
  refine z_new (ci := 3) (fs := [.null, .null, .null, .null, .null, .int (iI 0), .int (iI 0)]) hx dX8_init_5 wl_X8_7 wn_X3 wi_RX3 rfl wg_3 tyX3_ok (fun j hj => by rcases (show j = 0 ∨ j = 1 ∨ j = 2 ∨ j = 3 ∨ j = 4 ∨ j = 5 ∨ j = 6 by omega) with rfl | rfl | rfl | rfl | rfl | rfl | rfl <;> rfl) ⟨Nat.le_of_ble_eq_true rfl, Nat.le_of_ble_eq_true rfl⟩ ?_
  show Zj g x (a + 2, 1, 7) (hup h (a + 1) (.inr (.inr (3, [.null, .null, .null, .null, .null, .int (iI 0), .int (iI 0)])))) 8 [(0, .ref a)] [.ref (a + 1), .ref a]
  obtain ⟨h_1, eh_1⟩ : ∃ hh, hh = hup h (a + 1) (.inr (.inr (3, [.null, .null, .null, .null, .null, .int (iI 0), .int (iI 0)]))) := ⟨_, rfl⟩
  have hs_2 : h_1 (a + 1) = some (.inr (.inr (3, [.null, .null, .null, .null, .null, .int (iI 0), .int (iI 0)]))) := by rw [eh_1]; exact hup_s _ _ _
  have hf_3 : Fr h h_1 (a + 1) 1 := by rw [eh_1]; exact hup_Fr _ _ _
  rw [← eh_1]
  have h_4 := hf_3.at (by omega) h0
  have fr_5 : Fr h h_1 a 367 := hf_3.wd (by omega) (by omega)
  refine z_dup hx dX8_init_8 rfl ?_
  refine z_callI (as := []) (rest := [.ref (a + 1), .ref a]) hx dX8_init_9 lk_X8_9 wm_X3_init ⟨rfl, rfl⟩ mo_X3_init (kX3_init g (a := (a + 1)) hs_2) (by decide) (Or.inr ⟨Nat.le_of_ble_eq_true rfl, Nat.le_of_ble_eq_true rfl⟩) rfl rfl (Nat.le_of_ble_eq_true rfl) (fun v_10 h_6 sz_11 q_7 => ?_)
  obtain ⟨⟨rfl, rfl⟩, hC_8, hf_9⟩ := q_7
  show Zj g x (a + 97, 96, 557) h_6 12 [(0, .ref a)] [.ref (a + 1), .ref a]
  have h_12 := hf_9.at (by omega) h_4
  have fr_13 := fr_5.tr (hf_9.wd (by omega) (by omega))
  refine z_putF hx dX8_init_12 ff_X8_10 rfl h_12 ⟨rfl, rfl⟩ (Nat.le_of_ble_eq_true rfl) ?_
  show Zj g x (a + 97, 96, 557) (hup h_6 a (.inr (.inr (0, [.ref (a + 1), .null, .null, .null, .null, .null, .null, .null, .long (lI 0), .long (lI 0), .int (iI 0), .int (iI 0), .int (iI 0)])))) 15 [(0, .ref a)] []
  obtain ⟨h_14, eh_14⟩ : ∃ hh, hh = hup h_6 a (.inr (.inr (0, [.ref (a + 1), .null, .null, .null, .null, .null, .null, .null, .long (lI 0), .long (lI 0), .int (iI 0), .int (iI 0), .int (iI 0)]))) := ⟨_, rfl⟩
  have hs_15 : h_14 a = some (.inr (.inr (0, [.ref (a + 1), .null, .null, .null, .null, .null, .null, .null, .long (lI 0), .long (lI 0), .int (iI 0), .int (iI 0), .int (iI 0)]))) := by rw [eh_14]; exact hup_s _ _ _
  have hf_16 : Fr h_6 h_14 a 1 := by rw [eh_14]; exact hup_Fr _ _ _
  rw [← eh_14]
  have h_17 := KM.fr hC_8 hf_16 (by omega)
  have fr_18 := fr_13.tr (hf_16.wd (by omega) (by omega))
  refine z_aload_n hx dX8_init_15 rfl 0 rfl ?_
  refine z_new (ci := 3) (fs := [.null, .null, .null, .null, .null, .int (iI 0), .int (iI 0)]) hx dX8_init_16 wl_X8_7 wn_X3 wi_RX3 rfl wg_3 tyX3_ok (fun j hj => by rcases (show j = 0 ∨ j = 1 ∨ j = 2 ∨ j = 3 ∨ j = 4 ∨ j = 5 ∨ j = 6 by omega) with rfl | rfl | rfl | rfl | rfl | rfl | rfl <;> rfl) ⟨Nat.le_of_ble_eq_true rfl, Nat.le_of_ble_eq_true rfl⟩ ?_
  show Zj g x (a + 98, 97, 564) (hup h_14 (a + 97) (.inr (.inr (3, [.null, .null, .null, .null, .null, .int (iI 0), .int (iI 0)])))) 19 [(0, .ref a)] [.ref (a + 97), .ref a]
  obtain ⟨h_19, eh_19⟩ : ∃ hh, hh = hup h_14 (a + 97) (.inr (.inr (3, [.null, .null, .null, .null, .null, .int (iI 0), .int (iI 0)]))) := ⟨_, rfl⟩
  have hs_20 : h_19 (a + 97) = some (.inr (.inr (3, [.null, .null, .null, .null, .null, .int (iI 0), .int (iI 0)]))) := by rw [eh_19]; exact hup_s _ _ _
  have hf_21 : Fr h_14 h_19 (a + 97) 1 := by rw [eh_19]; exact hup_Fr _ _ _
  rw [← eh_19]
  have h_22 := hf_21.at (by omega) hs_15
  have h_23 := KM.fr h_17 hf_21 (by omega)
  have fr_24 := fr_18.tr (hf_21.wd (by omega) (by omega))
  refine z_dup hx dX8_init_19 rfl ?_
  refine z_callI (as := []) (rest := [.ref (a + 97), .ref a]) hx dX8_init_20 lk_X8_9 wm_X3_init ⟨rfl, rfl⟩ mo_X3_init (kX3_init g (a := (a + 97)) hs_20) (by decide) (Or.inr ⟨Nat.le_of_ble_eq_true rfl, Nat.le_of_ble_eq_true rfl⟩) rfl rfl (Nat.le_of_ble_eq_true rfl) (fun v_29 h_25 sz_30 q_26 => ?_)
  obtain ⟨⟨rfl, rfl⟩, hC_27, hf_28⟩ := q_26
  show Zj g x (a + 193, 192, 1114) h_25 23 [(0, .ref a)] [.ref (a + 97), .ref a]
  have h_31 := hf_28.at (by omega) h_22
  have h_32 := KM.fr h_23 hf_28 (by omega)
  have fr_33 := fr_24.tr (hf_28.wd (by omega) (by omega))
  refine z_putF hx dX8_init_23 ff_X8_16 rfl h_31 ⟨rfl, rfl⟩ (Nat.le_of_ble_eq_true rfl) ?_
  show Zj g x (a + 193, 192, 1114) (hup h_25 a (.inr (.inr (0, [.ref (a + 1), .ref (a + 97), .null, .null, .null, .null, .null, .null, .long (lI 0), .long (lI 0), .int (iI 0), .int (iI 0), .int (iI 0)])))) 26 [(0, .ref a)] []
  obtain ⟨h_34, eh_34⟩ : ∃ hh, hh = hup h_25 a (.inr (.inr (0, [.ref (a + 1), .ref (a + 97), .null, .null, .null, .null, .null, .null, .long (lI 0), .long (lI 0), .int (iI 0), .int (iI 0), .int (iI 0)]))) := ⟨_, rfl⟩
  have hs_35 : h_34 a = some (.inr (.inr (0, [.ref (a + 1), .ref (a + 97), .null, .null, .null, .null, .null, .null, .long (lI 0), .long (lI 0), .int (iI 0), .int (iI 0), .int (iI 0)]))) := by rw [eh_34]; exact hup_s _ _ _
  have hf_36 : Fr h_25 h_34 a 1 := by rw [eh_34]; exact hup_Fr _ _ _
  rw [← eh_34]
  have h_37 := KM.fr h_32 hf_36 (by omega)
  have h_38 := KM.fr hC_27 hf_36 (by omega)
  have fr_39 := fr_33.tr (hf_36.wd (by omega) (by omega))
  refine z_aload_n hx dX8_init_26 rfl 0 rfl ?_
  refine z_new (ci := 3) (fs := [.null, .null, .null, .null, .null, .int (iI 0), .int (iI 0)]) hx dX8_init_27 wl_X8_7 wn_X3 wi_RX3 rfl wg_3 tyX3_ok (fun j hj => by rcases (show j = 0 ∨ j = 1 ∨ j = 2 ∨ j = 3 ∨ j = 4 ∨ j = 5 ∨ j = 6 by omega) with rfl | rfl | rfl | rfl | rfl | rfl | rfl <;> rfl) ⟨Nat.le_of_ble_eq_true rfl, Nat.le_of_ble_eq_true rfl⟩ ?_
  show Zj g x (a + 194, 193, 1121) (hup h_34 (a + 193) (.inr (.inr (3, [.null, .null, .null, .null, .null, .int (iI 0), .int (iI 0)])))) 30 [(0, .ref a)] [.ref (a + 193), .ref a]
  obtain ⟨h_40, eh_40⟩ : ∃ hh, hh = hup h_34 (a + 193) (.inr (.inr (3, [.null, .null, .null, .null, .null, .int (iI 0), .int (iI 0)]))) := ⟨_, rfl⟩
  have hs_41 : h_40 (a + 193) = some (.inr (.inr (3, [.null, .null, .null, .null, .null, .int (iI 0), .int (iI 0)]))) := by rw [eh_40]; exact hup_s _ _ _
  have hf_42 : Fr h_34 h_40 (a + 193) 1 := by rw [eh_40]; exact hup_Fr _ _ _
  rw [← eh_40]
  have h_43 := hf_42.at (by omega) hs_35
  have h_44 := KM.fr h_37 hf_42 (by omega)
  have h_45 := KM.fr h_38 hf_42 (by omega)
  have fr_46 := fr_39.tr (hf_42.wd (by omega) (by omega))
  refine z_dup hx dX8_init_30 rfl ?_
  refine z_callI (as := []) (rest := [.ref (a + 193), .ref a]) hx dX8_init_31 lk_X8_9 wm_X3_init ⟨rfl, rfl⟩ mo_X3_init (kX3_init g (a := (a + 193)) hs_41) (by decide) (Or.inr ⟨Nat.le_of_ble_eq_true rfl, Nat.le_of_ble_eq_true rfl⟩) rfl rfl (Nat.le_of_ble_eq_true rfl) (fun v_51 h_47 sz_52 q_48 => ?_)
  obtain ⟨⟨rfl, rfl⟩, hC_49, hf_50⟩ := q_48
  show Zj g x (a + 289, 288, 1671) h_47 34 [(0, .ref a)] [.ref (a + 193), .ref a]
  have h_53 := hf_50.at (by omega) h_43
  have h_54 := KM.fr h_44 hf_50 (by omega)
  have h_55 := KM.fr h_45 hf_50 (by omega)
  have fr_56 := fr_46.tr (hf_50.wd (by omega) (by omega))
  refine z_putF hx dX8_init_34 ff_X8_19 rfl h_53 ⟨rfl, rfl⟩ (Nat.le_of_ble_eq_true rfl) ?_
  show Zj g x (a + 289, 288, 1671) (hup h_47 a (.inr (.inr (0, [.ref (a + 1), .ref (a + 97), .ref (a + 193), .null, .null, .null, .null, .null, .long (lI 0), .long (lI 0), .int (iI 0), .int (iI 0), .int (iI 0)])))) 37 [(0, .ref a)] []
  obtain ⟨h_57, eh_57⟩ : ∃ hh, hh = hup h_47 a (.inr (.inr (0, [.ref (a + 1), .ref (a + 97), .ref (a + 193), .null, .null, .null, .null, .null, .long (lI 0), .long (lI 0), .int (iI 0), .int (iI 0), .int (iI 0)]))) := ⟨_, rfl⟩
  have hs_58 : h_57 a = some (.inr (.inr (0, [.ref (a + 1), .ref (a + 97), .ref (a + 193), .null, .null, .null, .null, .null, .long (lI 0), .long (lI 0), .int (iI 0), .int (iI 0), .int (iI 0)]))) := by rw [eh_57]; exact hup_s _ _ _
  have hf_59 : Fr h_47 h_57 a 1 := by rw [eh_57]; exact hup_Fr _ _ _
  rw [← eh_57]
  have h_60 := KM.fr h_54 hf_59 (by omega)
  have h_61 := KM.fr h_55 hf_59 (by omega)
  have h_62 := KM.fr hC_49 hf_59 (by omega)
  have fr_63 := fr_56.tr (hf_59.wd (by omega) (by omega))
  refine z_aload_n hx dX8_init_37 rfl 0 rfl ?_
  refine z_new (ci := 6) (fs := [.null, .int (iI 0), .int (iI 0), .int (iI 0), .int (iI 0), .int (iI 0)]) hx dX8_init_38 wl_X8_22 wn_X7 wi_RX7 rfl wg_7 tyX7_ok (fun j hj => by rcases (show j = 0 ∨ j = 1 ∨ j = 2 ∨ j = 3 ∨ j = 4 ∨ j = 5 by omega) with rfl | rfl | rfl | rfl | rfl | rfl <;> rfl) ⟨Nat.le_of_ble_eq_true rfl, Nat.le_of_ble_eq_true rfl⟩ ?_
  show Zj g x (a + 290, 289, 1677) (hup h_57 (a + 289) (.inr (.inr (6, [.null, .int (iI 0), .int (iI 0), .int (iI 0), .int (iI 0), .int (iI 0)])))) 41 [(0, .ref a)] [.ref (a + 289), .ref a]
  obtain ⟨h_64, eh_64⟩ : ∃ hh, hh = hup h_57 (a + 289) (.inr (.inr (6, [.null, .int (iI 0), .int (iI 0), .int (iI 0), .int (iI 0), .int (iI 0)]))) := ⟨_, rfl⟩
  have hs_65 : h_64 (a + 289) = some (.inr (.inr (6, [.null, .int (iI 0), .int (iI 0), .int (iI 0), .int (iI 0), .int (iI 0)]))) := by rw [eh_64]; exact hup_s _ _ _
  have hf_66 : Fr h_57 h_64 (a + 289) 1 := by rw [eh_64]; exact hup_Fr _ _ _
  rw [← eh_64]
  have h_67 := hf_66.at (by omega) hs_58
  have h_68 := KM.fr h_60 hf_66 (by omega)
  have h_69 := KM.fr h_61 hf_66 (by omega)
  have h_70 := KM.fr h_62 hf_66 (by omega)
  have fr_71 := fr_63.tr (hf_66.wd (by omega) (by omega))
  refine z_dup hx dX8_init_41 rfl ?_
  refine z_callI (as := []) (rest := [.ref (a + 289), .ref a]) hx dX8_init_42 lk_X8_24 wm_X7_init ⟨rfl, rfl⟩ mo_X7_init (kX7_init g (a := (a + 289)) hs_65) (by decide) (Or.inr ⟨Nat.le_of_ble_eq_true rfl, Nat.le_of_ble_eq_true rfl⟩) rfl rfl (Nat.le_of_ble_eq_true rfl) (fun v_76 h_72 sz_77 q_73 => ?_)
  obtain ⟨⟨rfl, rfl⟩, hC_74, hf_75⟩ := q_73
  show Zj g x (a + 291, 290, 1827) h_72 45 [(0, .ref a)] [.ref (a + 289), .ref a]
  have h_78 := hf_75.at (by omega) h_67
  have h_79 := KM.fr h_68 hf_75 (by omega)
  have h_80 := KM.fr h_69 hf_75 (by omega)
  have h_81 := KM.fr h_70 hf_75 (by omega)
  have fr_82 := fr_71.tr (hf_75.wd (by omega) (by omega))
  refine z_putF hx dX8_init_45 ff_X8_25 rfl h_78 ⟨rfl, rfl⟩ (Nat.le_of_ble_eq_true rfl) ?_
  show Zj g x (a + 291, 290, 1827) (hup h_72 a (.inr (.inr (0, [.ref (a + 1), .ref (a + 97), .ref (a + 193), .ref (a + 289), .null, .null, .null, .null, .long (lI 0), .long (lI 0), .int (iI 0), .int (iI 0), .int (iI 0)])))) 48 [(0, .ref a)] []
  obtain ⟨h_83, eh_83⟩ : ∃ hh, hh = hup h_72 a (.inr (.inr (0, [.ref (a + 1), .ref (a + 97), .ref (a + 193), .ref (a + 289), .null, .null, .null, .null, .long (lI 0), .long (lI 0), .int (iI 0), .int (iI 0), .int (iI 0)]))) := ⟨_, rfl⟩
  have hs_84 : h_83 a = some (.inr (.inr (0, [.ref (a + 1), .ref (a + 97), .ref (a + 193), .ref (a + 289), .null, .null, .null, .null, .long (lI 0), .long (lI 0), .int (iI 0), .int (iI 0), .int (iI 0)]))) := by rw [eh_83]; exact hup_s _ _ _
  have hf_85 : Fr h_72 h_83 a 1 := by rw [eh_83]; exact hup_Fr _ _ _
  rw [← eh_83]
  have h_86 := KM.fr h_79 hf_85 (by omega)
  have h_87 := KM.fr h_80 hf_85 (by omega)
  have h_88 := KM.fr h_81 hf_85 (by omega)
  have h_89 := TM.fr hC_74 hf_85 (by omega)
  have fr_90 := fr_82.tr (hf_85.wd (by omega) (by omega))
  refine z_aload_n hx dX8_init_48 rfl 0 rfl ?_
  refine z_new (ci := 1) (fs := [.null, .null, .null, .null, .null, .null, .null, .null, .null, .int (iI 0), .int (iI 0), .int (iI 0), .int (iI 0)]) hx dX8_init_49 wl_X8_29 wn_X1 wi_RX1 rfl wg_1 tyX1_ok (fun j hj => by rcases (show j = 0 ∨ j = 1 ∨ j = 2 ∨ j = 3 ∨ j = 4 ∨ j = 5 ∨ j = 6 ∨ j = 7 ∨ j = 8 ∨ j = 9 ∨ j = 10 ∨ j = 11 ∨ j = 12 by omega) with rfl | rfl | rfl | rfl | rfl | rfl | rfl | rfl | rfl | rfl | rfl | rfl | rfl <;> rfl) ⟨Nat.le_of_ble_eq_true rfl, Nat.le_of_ble_eq_true rfl⟩ ?_
  show Zj g x (a + 292, 291, 1840) (hup h_83 (a + 291) (.inr (.inr (1, [.null, .null, .null, .null, .null, .null, .null, .null, .null, .int (iI 0), .int (iI 0), .int (iI 0), .int (iI 0)])))) 52 [(0, .ref a)] [.ref (a + 291), .ref a]
  obtain ⟨h_91, eh_91⟩ : ∃ hh, hh = hup h_83 (a + 291) (.inr (.inr (1, [.null, .null, .null, .null, .null, .null, .null, .null, .null, .int (iI 0), .int (iI 0), .int (iI 0), .int (iI 0)]))) := ⟨_, rfl⟩
  have hs_92 : h_91 (a + 291) = some (.inr (.inr (1, [.null, .null, .null, .null, .null, .null, .null, .null, .null, .int (iI 0), .int (iI 0), .int (iI 0), .int (iI 0)]))) := by rw [eh_91]; exact hup_s _ _ _
  have hf_93 : Fr h_83 h_91 (a + 291) 1 := by rw [eh_91]; exact hup_Fr _ _ _
  rw [← eh_91]
  have h_94 := hf_93.at (by omega) hs_84
  have h_95 := KM.fr h_86 hf_93 (by omega)
  have h_96 := KM.fr h_87 hf_93 (by omega)
  have h_97 := KM.fr h_88 hf_93 (by omega)
  have h_98 := TM.fr h_89 hf_93 (by omega)
  have fr_99 := fr_90.tr (hf_93.wd (by omega) (by omega))
  refine z_dup hx dX8_init_52 rfl ?_
  refine z_callI (as := []) (rest := [.ref (a + 291), .ref a]) hx dX8_init_53 lk_X8_31 wm_X1_init ⟨rfl, rfl⟩ mo_X1_init (kX1_init g (a := (a + 291)) hs_92) (by decide) (Or.inr ⟨Nat.le_of_ble_eq_true rfl, Nat.le_of_ble_eq_true rfl⟩) rfl rfl (Nat.le_of_ble_eq_true rfl) (fun v_104 h_100 sz_105 q_101 => ?_)
  obtain ⟨⟨rfl, rfl⟩, hC_102, hf_103⟩ := q_101
  show Zj g x (a + 301, 300, 1885) h_100 56 [(0, .ref a)] [.ref (a + 291), .ref a]
  have h_106 := hf_103.at (by omega) h_94
  have h_107 := KM.fr h_95 hf_103 (by omega)
  have h_108 := KM.fr h_96 hf_103 (by omega)
  have h_109 := KM.fr h_97 hf_103 (by omega)
  have h_110 := TM.fr h_98 hf_103 (by omega)
  have fr_111 := fr_99.tr (hf_103.wd (by omega) (by omega))
  refine z_putF hx dX8_init_56 ff_X8_32 rfl h_106 ⟨rfl, rfl⟩ (Nat.le_of_ble_eq_true rfl) ?_
  show Zj g x (a + 301, 300, 1885) (hup h_100 a (.inr (.inr (0, [.ref (a + 1), .ref (a + 97), .ref (a + 193), .ref (a + 289), .ref (a + 291), .null, .null, .null, .long (lI 0), .long (lI 0), .int (iI 0), .int (iI 0), .int (iI 0)])))) 59 [(0, .ref a)] []
  obtain ⟨h_112, eh_112⟩ : ∃ hh, hh = hup h_100 a (.inr (.inr (0, [.ref (a + 1), .ref (a + 97), .ref (a + 193), .ref (a + 289), .ref (a + 291), .null, .null, .null, .long (lI 0), .long (lI 0), .int (iI 0), .int (iI 0), .int (iI 0)]))) := ⟨_, rfl⟩
  have hs_113 : h_112 a = some (.inr (.inr (0, [.ref (a + 1), .ref (a + 97), .ref (a + 193), .ref (a + 289), .ref (a + 291), .null, .null, .null, .long (lI 0), .long (lI 0), .int (iI 0), .int (iI 0), .int (iI 0)]))) := by rw [eh_112]; exact hup_s _ _ _
  have hf_114 : Fr h_100 h_112 a 1 := by rw [eh_112]; exact hup_Fr _ _ _
  rw [← eh_112]
  have h_115 := KM.fr h_107 hf_114 (by omega)
  have h_116 := KM.fr h_108 hf_114 (by omega)
  have h_117 := KM.fr h_109 hf_114 (by omega)
  have h_118 := TM.fr h_110 hf_114 (by omega)
  have h_119 := CM.fr hC_102 hf_114 (by omega)
  have fr_120 := fr_111.tr (hf_114.wd (by omega) (by omega))
  refine z_aload_n hx dX8_init_59 rfl 0 rfl ?_
  refine z_new (ci := 5) (fs := [.null, .null, .int (iI 0), .int (iI 0), .int (iI 0)]) hx dX8_init_60 wl_X8_36 wn_X6 wi_RX6 rfl wg_6 tyX6_ok (fun j hj => by rcases (show j = 0 ∨ j = 1 ∨ j = 2 ∨ j = 3 ∨ j = 4 by omega) with rfl | rfl | rfl | rfl | rfl <;> rfl) ⟨Nat.le_of_ble_eq_true rfl, Nat.le_of_ble_eq_true rfl⟩ ?_
  show Zj g x (a + 302, 301, 1890) (hup h_112 (a + 301) (.inr (.inr (5, [.null, .null, .int (iI 0), .int (iI 0), .int (iI 0)])))) 63 [(0, .ref a)] [.ref (a + 301), .ref a]
  obtain ⟨h_121, eh_121⟩ : ∃ hh, hh = hup h_112 (a + 301) (.inr (.inr (5, [.null, .null, .int (iI 0), .int (iI 0), .int (iI 0)]))) := ⟨_, rfl⟩
  have hs_122 : h_121 (a + 301) = some (.inr (.inr (5, [.null, .null, .int (iI 0), .int (iI 0), .int (iI 0)]))) := by rw [eh_121]; exact hup_s _ _ _
  have hf_123 : Fr h_112 h_121 (a + 301) 1 := by rw [eh_121]; exact hup_Fr _ _ _
  rw [← eh_121]
  have h_124 := hf_123.at (by omega) hs_113
  have h_125 := KM.fr h_115 hf_123 (by omega)
  have h_126 := KM.fr h_116 hf_123 (by omega)
  have h_127 := KM.fr h_117 hf_123 (by omega)
  have h_128 := TM.fr h_118 hf_123 (by omega)
  have h_129 := CM.fr h_119 hf_123 (by omega)
  have fr_130 := fr_120.tr (hf_123.wd (by omega) (by omega))
  refine z_dup hx dX8_init_63 rfl ?_
  refine z_callI (as := []) (rest := [.ref (a + 301), .ref a]) hx dX8_init_64 lk_X8_38 wm_X6_init ⟨rfl, rfl⟩ mo_X6_init (kX6_init g (a := (a + 301)) hs_122) (by decide) (Or.inr ⟨Nat.le_of_ble_eq_true rfl, Nat.le_of_ble_eq_true rfl⟩) rfl rfl (Nat.le_of_ble_eq_true rfl) (fun v_135 h_131 sz_136 q_132 => ?_)
  obtain ⟨⟨rfl, rfl⟩, hC_133, hf_134⟩ := q_132
  show Zj g x (a + 313, 312, 1951) h_131 67 [(0, .ref a)] [.ref (a + 301), .ref a]
  have h_137 := hf_134.at (by omega) h_124
  have h_138 := KM.fr h_125 hf_134 (by omega)
  have h_139 := KM.fr h_126 hf_134 (by omega)
  have h_140 := KM.fr h_127 hf_134 (by omega)
  have h_141 := TM.fr h_128 hf_134 (by omega)
  have h_142 := CM.fr h_129 hf_134 (by omega)
  have fr_143 := fr_130.tr (hf_134.wd (by omega) (by omega))
  refine z_putF hx dX8_init_67 ff_X8_39 rfl h_137 ⟨rfl, rfl⟩ (Nat.le_of_ble_eq_true rfl) ?_
  show Zj g x (a + 313, 312, 1951) (hup h_131 a (.inr (.inr (0, [.ref (a + 1), .ref (a + 97), .ref (a + 193), .ref (a + 289), .ref (a + 291), .ref (a + 301), .null, .null, .long (lI 0), .long (lI 0), .int (iI 0), .int (iI 0), .int (iI 0)])))) 70 [(0, .ref a)] []
  obtain ⟨h_144, eh_144⟩ : ∃ hh, hh = hup h_131 a (.inr (.inr (0, [.ref (a + 1), .ref (a + 97), .ref (a + 193), .ref (a + 289), .ref (a + 291), .ref (a + 301), .null, .null, .long (lI 0), .long (lI 0), .int (iI 0), .int (iI 0), .int (iI 0)]))) := ⟨_, rfl⟩
  have hs_145 : h_144 a = some (.inr (.inr (0, [.ref (a + 1), .ref (a + 97), .ref (a + 193), .ref (a + 289), .ref (a + 291), .ref (a + 301), .null, .null, .long (lI 0), .long (lI 0), .int (iI 0), .int (iI 0), .int (iI 0)]))) := by rw [eh_144]; exact hup_s _ _ _
  have hf_146 : Fr h_131 h_144 a 1 := by rw [eh_144]; exact hup_Fr _ _ _
  rw [← eh_144]
  have h_147 := KM.fr h_138 hf_146 (by omega)
  have h_148 := KM.fr h_139 hf_146 (by omega)
  have h_149 := KM.fr h_140 hf_146 (by omega)
  have h_150 := TM.fr h_141 hf_146 (by omega)
  have h_151 := CM.fr h_142 hf_146 (by omega)
  have h_152 := DM.fr hC_133 hf_146 (by omega)
  have fr_153 := fr_143.tr (hf_146.wd (by omega) (by omega))
  refine z_aload_n hx dX8_init_70 rfl 0 rfl ?_
  refine z_new (ci := 2) (fs := [.null, .null]) hx dX8_init_71 wl_X8_43 wn_X2 wi_RX2 rfl wg_2 tyX2_ok (fun j hj => by rcases (show j = 0 ∨ j = 1 by omega) with rfl | rfl <;> rfl) ⟨Nat.le_of_ble_eq_true rfl, Nat.le_of_ble_eq_true rfl⟩ ?_
  show Zj g x (a + 314, 313, 1953) (hup h_144 (a + 313) (.inr (.inr (2, [.null, .null])))) 74 [(0, .ref a)] [.ref (a + 313), .ref a]
  obtain ⟨h_154, eh_154⟩ : ∃ hh, hh = hup h_144 (a + 313) (.inr (.inr (2, [.null, .null]))) := ⟨_, rfl⟩
  have hs_155 : h_154 (a + 313) = some (.inr (.inr (2, [.null, .null]))) := by rw [eh_154]; exact hup_s _ _ _
  have hf_156 : Fr h_144 h_154 (a + 313) 1 := by rw [eh_154]; exact hup_Fr _ _ _
  rw [← eh_154]
  have h_157 := hf_156.at (by omega) hs_145
  have h_158 := KM.fr h_147 hf_156 (by omega)
  have h_159 := KM.fr h_148 hf_156 (by omega)
  have h_160 := KM.fr h_149 hf_156 (by omega)
  have h_161 := TM.fr h_150 hf_156 (by omega)
  have h_162 := CM.fr h_151 hf_156 (by omega)
  have h_163 := DM.fr h_152 hf_156 (by omega)
  have fr_164 := fr_153.tr (hf_156.wd (by omega) (by omega))
  refine z_dup hx dX8_init_74 rfl ?_
  refine z_callI (as := []) (rest := [.ref (a + 313), .ref a]) hx dX8_init_75 lk_X8_45 wm_X2_init ⟨rfl, rfl⟩ mo_X2_init (kX2_init g (a := (a + 313)) hs_155) (by decide) (Or.inr ⟨Nat.le_of_ble_eq_true rfl, Nat.le_of_ble_eq_true rfl⟩) rfl rfl (Nat.le_of_ble_eq_true rfl) (fun v_169 h_165 sz_170 q_166 => ?_)
  obtain ⟨⟨rfl, rfl⟩, hC_167, hf_168⟩ := q_166
  show Zj g x (a + 366, 365, 2252) h_165 78 [(0, .ref a)] [.ref (a + 313), .ref a]
  have h_171 := hf_168.at (by omega) h_157
  have h_172 := KM.fr h_158 hf_168 (by omega)
  have h_173 := KM.fr h_159 hf_168 (by omega)
  have h_174 := KM.fr h_160 hf_168 (by omega)
  have h_175 := TM.fr h_161 hf_168 (by omega)
  have h_176 := CM.fr h_162 hf_168 (by omega)
  have h_177 := DM.fr h_163 hf_168 (by omega)
  have fr_178 := fr_164.tr (hf_168.wd (by omega) (by omega))
  refine z_putF hx dX8_init_78 ff_X8_46 rfl h_171 ⟨rfl, rfl⟩ (Nat.le_of_ble_eq_true rfl) ?_
  show Zj g x (a + 366, 365, 2252) (hup h_165 a (.inr (.inr (0, [.ref (a + 1), .ref (a + 97), .ref (a + 193), .ref (a + 289), .ref (a + 291), .ref (a + 301), .ref (a + 313), .null, .long (lI 0), .long (lI 0), .int (iI 0), .int (iI 0), .int (iI 0)])))) 81 [(0, .ref a)] []
  obtain ⟨h_179, eh_179⟩ : ∃ hh, hh = hup h_165 a (.inr (.inr (0, [.ref (a + 1), .ref (a + 97), .ref (a + 193), .ref (a + 289), .ref (a + 291), .ref (a + 301), .ref (a + 313), .null, .long (lI 0), .long (lI 0), .int (iI 0), .int (iI 0), .int (iI 0)]))) := ⟨_, rfl⟩
  have hs_180 : h_179 a = some (.inr (.inr (0, [.ref (a + 1), .ref (a + 97), .ref (a + 193), .ref (a + 289), .ref (a + 291), .ref (a + 301), .ref (a + 313), .null, .long (lI 0), .long (lI 0), .int (iI 0), .int (iI 0), .int (iI 0)]))) := by rw [eh_179]; exact hup_s _ _ _
  have hf_181 : Fr h_165 h_179 a 1 := by rw [eh_179]; exact hup_Fr _ _ _
  rw [← eh_179]
  have h_182 := KM.fr h_172 hf_181 (by omega)
  have h_183 := KM.fr h_173 hf_181 (by omega)
  have h_184 := KM.fr h_174 hf_181 (by omega)
  have h_185 := TM.fr h_175 hf_181 (by omega)
  have h_186 := CM.fr h_176 hf_181 (by omega)
  have h_187 := DM.fr h_177 hf_181 (by omega)
  have h_188 := EM.fr hC_167 hf_181 (by omega)
  have fr_189 := fr_178.tr (hf_181.wd (by omega) (by omega))
  refine z_aload_n hx dX8_init_81 rfl 0 rfl ?_
  refine z_bipush hx dX8_init_82 (by decide) ?_
  refine z_newai (n := 6) hx dX8_init_84 (by decide) rfl ⟨Nat.le_of_ble_eq_true rfl, Nat.le_of_ble_eq_true rfl⟩ ?_
  show Zj g x (a + 367, 366, 2258) (hup h_179 (a + 366) (.inl (0, 6, fun _ => 0))) 86 [(0, .ref a)] [.ref (a + 366), .ref a]
  obtain ⟨h_190, eh_190⟩ : ∃ hh, hh = hup h_179 (a + 366) (.inl (0, 6, fun _ => 0)) := ⟨_, rfl⟩
  have hs_191 : h_190 (a + 366) = some (.inl (0, 6, fun _ => 0)) := by rw [eh_190]; exact hup_s _ _ _
  have hf_192 : Fr h_179 h_190 (a + 366) 1 := by rw [eh_190]; exact hup_Fr _ _ _
  rw [← eh_190]
  have h_193 := hf_192.at (by omega) hs_180
  have h_194 := KM.fr h_182 hf_192 (by omega)
  have h_195 := KM.fr h_183 hf_192 (by omega)
  have h_196 := KM.fr h_184 hf_192 (by omega)
  have h_197 := TM.fr h_185 hf_192 (by omega)
  have h_198 := CM.fr h_186 hf_192 (by omega)
  have h_199 := DM.fr h_187 hf_192 (by omega)
  have h_200 := EM.fr h_188 hf_192 (by omega)
  have fr_201 := fr_189.tr (hf_192.wd (by omega) (by omega))
  refine z_putF hx dX8_init_86 ff_X8_50 rfl h_193 ⟨rfl, rfl⟩ (Nat.le_of_ble_eq_true rfl) ?_
  show Zj g x (a + 367, 366, 2258) (hup h_190 a (.inr (.inr (0, [.ref (a + 1), .ref (a + 97), .ref (a + 193), .ref (a + 289), .ref (a + 291), .ref (a + 301), .ref (a + 313), .ref (a + 366), .long (lI 0), .long (lI 0), .int (iI 0), .int (iI 0), .int (iI 0)])))) 89 [(0, .ref a)] []
  obtain ⟨h_202, eh_202⟩ : ∃ hh, hh = hup h_190 a (.inr (.inr (0, [.ref (a + 1), .ref (a + 97), .ref (a + 193), .ref (a + 289), .ref (a + 291), .ref (a + 301), .ref (a + 313), .ref (a + 366), .long (lI 0), .long (lI 0), .int (iI 0), .int (iI 0), .int (iI 0)]))) := ⟨_, rfl⟩
  have hs_203 : h_202 a = some (.inr (.inr (0, [.ref (a + 1), .ref (a + 97), .ref (a + 193), .ref (a + 289), .ref (a + 291), .ref (a + 301), .ref (a + 313), .ref (a + 366), .long (lI 0), .long (lI 0), .int (iI 0), .int (iI 0), .int (iI 0)]))) := by rw [eh_202]; exact hup_s _ _ _
  have hf_204 : Fr h_190 h_202 a 1 := by rw [eh_202]; exact hup_Fr _ _ _
  rw [← eh_202]
  have h_205 := KM.fr h_194 hf_204 (by omega)
  have h_206 := KM.fr h_195 hf_204 (by omega)
  have h_207 := KM.fr h_196 hf_204 (by omega)
  have h_208 := TM.fr h_197 hf_204 (by omega)
  have h_209 := CM.fr h_198 hf_204 (by omega)
  have h_210 := DM.fr h_199 hf_204 (by omega)
  have h_211 := EM.fr h_200 hf_204 (by omega)
  have h_212 := hf_204.at (by omega) hs_191
  have fr_213 := fr_201.tr (hf_204.wd (by omega) (by omega))
  refine z_aload_n hx dX8_init_89 rfl 0 rfl ?_
  refine z_lconst (a := 0) hx dX8_init_90 (by decide) ?_
  refine z_putQ hx dX8_init_91 fl_X8_54 hs_203 ⟨rfl, rfl⟩ (Nat.le_of_ble_eq_true rfl) (fun h_214 hs_215 hf_216 => ?_)
  have h_217 := KM.fr h_205 hf_216 (by omega)
  have h_218 := KM.fr h_206 hf_216 (by omega)
  have h_219 := KM.fr h_207 hf_216 (by omega)
  have h_220 := TM.fr h_208 hf_216 (by omega)
  have h_221 := CM.fr h_209 hf_216 (by omega)
  have h_222 := DM.fr h_210 hf_216 (by omega)
  have h_223 := EM.fr h_211 hf_216 (by omega)
  have h_224 := hf_216.at (by omega) h_212
  have fr_225 := fr_213.tr (hf_216.wd (by omega) (by omega))
  refine z_aload_n hx dX8_init_94 rfl 0 rfl ?_
  refine z_lconst (a := 1) hx dX8_init_95 (by decide) ?_
  refine z_putQ hx dX8_init_96 fl_X8_58 hs_215 ⟨rfl, rfl⟩ (Nat.le_of_ble_eq_true rfl) (fun h_226 hs_227 hf_228 => ?_)
  have h_229 := KM.fr h_217 hf_228 (by omega)
  have h_230 := KM.fr h_218 hf_228 (by omega)
  have h_231 := KM.fr h_219 hf_228 (by omega)
  have h_232 := TM.fr h_220 hf_228 (by omega)
  have h_233 := CM.fr h_221 hf_228 (by omega)
  have h_234 := DM.fr h_222 hf_228 (by omega)
  have h_235 := EM.fr h_223 hf_228 (by omega)
  have h_236 := hf_228.at (by omega) h_224
  have fr_237 := fr_225.tr (hf_228.wd (by omega) (by omega))
  refine z_aload_n hx dX8_init_99 rfl 0 rfl ?_
  refine z_iconst hx dX8_init_100 ?_
  refine z_putQ hx dX8_init_101 fl_X8_61 hs_227 ⟨rfl, rfl⟩ (Nat.le_of_ble_eq_true rfl) (fun h_238 hs_239 hf_240 => ?_)
  have h_241 := KM.fr h_229 hf_240 (by omega)
  have h_242 := KM.fr h_230 hf_240 (by omega)
  have h_243 := KM.fr h_231 hf_240 (by omega)
  have h_244 := TM.fr h_232 hf_240 (by omega)
  have h_245 := CM.fr h_233 hf_240 (by omega)
  have h_246 := DM.fr h_234 hf_240 (by omega)
  have h_247 := EM.fr h_235 hf_240 (by omega)
  have h_248 := hf_240.at (by omega) h_236
  have fr_249 := fr_237.tr (hf_240.wd (by omega) (by omega))
  refine z_aload_n hx dX8_init_104 rfl 0 rfl ?_
  refine z_iconst hx dX8_init_105 ?_
  refine z_putQ hx dX8_init_106 fl_X8_65 hs_239 ⟨rfl, rfl⟩ (Nat.le_of_ble_eq_true rfl) (fun h_250 hs_251 hf_252 => ?_)
  have h_253 := KM.fr h_241 hf_252 (by omega)
  have h_254 := KM.fr h_242 hf_252 (by omega)
  have h_255 := KM.fr h_243 hf_252 (by omega)
  have h_256 := TM.fr h_244 hf_252 (by omega)
  have h_257 := CM.fr h_245 hf_252 (by omega)
  have h_258 := DM.fr h_246 hf_252 (by omega)
  have h_259 := EM.fr h_247 hf_252 (by omega)
  have h_260 := hf_252.at (by omega) h_248
  have fr_261 := fr_249.tr (hf_252.wd (by omega) (by omega))
  refine z_aload_n hx dX8_init_109 rfl 0 rfl ?_
  refine z_iconst hx dX8_init_110 ?_
  refine z_putQ hx dX8_init_111 fl_X8_68 hs_251 ⟨rfl, rfl⟩ (Nat.le_of_ble_eq_true rfl) (fun h_262 hs_263 hf_264 => ?_)
  have h_265 := KM.fr h_253 hf_264 (by omega)
  have h_266 := KM.fr h_254 hf_264 (by omega)
  have h_267 := KM.fr h_255 hf_264 (by omega)
  have h_268 := TM.fr h_256 hf_264 (by omega)
  have h_269 := CM.fr h_257 hf_264 (by omega)
  have h_270 := DM.fr h_258 hf_264 (by omega)
  have h_271 := EM.fr h_259 hf_264 (by omega)
  have h_272 := hf_264.at (by omega) h_260
  have fr_273 := fr_261.tr (hf_264.wd (by omega) (by omega))
  have hz9 : XR h_262 a S00 := ⟨ZF, fun i => i, fun _ => ZF, 0, ZF, fun _ => 0, hs_263, h_265, ⟨_, _, _, _, _, _, h_266, fun w => absurd (show (0 : Int) = 1 from w) (by decide)⟩, ⟨_, _, _, _, _, _, h_267, fun w => absurd (show (0 : Int) = 1 from w) (by decide)⟩, ⟨_, _, _, _, h_268⟩, ⟨_, h_269⟩, ⟨_, _, _, _, _, h_270⟩, ⟨_, _, h_271⟩, ⟨_, h_272⟩, ⟨RLC_00, fun i a b => absurd (show i < 0 from b) (by omega), fun i a b => absurd (show i < 0 from b) (by omega)⟩, fun j a b => rfl⟩
  refine z_vret hx hr dX8_init_114 rfl ⟨⟨rfl, rfl⟩, hz9, fr_273⟩

set_option maxHeartbeats 4000000 in
set_option maxRecDepth 20000 in
theorem kX9_init (g : Gt) {h : AH} {a : Nat} (h0 : h a = some (.inr (.inr (7, [.null, .null, .null, .null, .null, .null, .long (lI 0), .long (lI 0), .int (iI 0), .null, .int (iI 0), .int (iI 0), .int (iI 0), .int (iI 0), .long (lI 0), .int (iI 0), .null])))) : Cna g mX9_init 2 [.ref a] h (a + 1) 8 1494 (fun v h' sz' => (v = none ∧ sz' = a + 9) ∧ RM h' a S00 ∧ Fr h h' a 9) := by
  refine Cna.mk (by decide +kernel) (Nat.le_of_ble_eq_true rfl) ?_
  intro x hx hr
  show Zj g x (a + 1, 0, 0) h 0 [(0, .ref a)] []
  refine z_aload_n hx dX9_init_0 rfl 0 rfl ?_
  refine z_objinit hx dX9_init_1 wk_X9_1 (by decide) (Nat.le_of_ble_eq_true rfl) ?_
  refine z_aload_n hx dX9_init_4 rfl 0 rfl ?_
  refine z_sipush hx dX9_init_5 (by decide) ?_
  refine z_newai (n := 267) hx dX9_init_8 (by decide) rfl ⟨Nat.le_of_ble_eq_true rfl, Nat.le_of_ble_eq_true rfl⟩ ?_
  show Zj g x (a + 2, 1, 267) (hup h (a + 1) (.inl (0, 267, fun _ => 0))) 10 [(0, .ref a)] [.ref (a + 1), .ref a]
  obtain ⟨h_1, eh_1⟩ : ∃ hh, hh = hup h (a + 1) (.inl (0, 267, fun _ => 0)) := ⟨_, rfl⟩
  have hs_2 : h_1 (a + 1) = some (.inl (0, 267, fun _ => 0)) := by rw [eh_1]; exact hup_s _ _ _
  have hf_3 : Fr h h_1 (a + 1) 1 := by rw [eh_1]; exact hup_Fr _ _ _
  rw [← eh_1]
  have h_4 := hf_3.at (by omega) h0
  have fr_5 : Fr h h_1 a 9 := hf_3.wd (by omega) (by omega)
  refine z_putF hx dX9_init_10 ff_X9_7 rfl h_4 ⟨rfl, rfl⟩ (Nat.le_of_ble_eq_true rfl) ?_
  show Zj g x (a + 2, 1, 267) (hup h_1 a (.inr (.inr (7, [.ref (a + 1), .null, .null, .null, .null, .null, .long (lI 0), .long (lI 0), .int (iI 0), .null, .int (iI 0), .int (iI 0), .int (iI 0), .int (iI 0), .long (lI 0), .int (iI 0), .null])))) 13 [(0, .ref a)] []
  obtain ⟨h_6, eh_6⟩ : ∃ hh, hh = hup h_1 a (.inr (.inr (7, [.ref (a + 1), .null, .null, .null, .null, .null, .long (lI 0), .long (lI 0), .int (iI 0), .null, .int (iI 0), .int (iI 0), .int (iI 0), .int (iI 0), .long (lI 0), .int (iI 0), .null]))) := ⟨_, rfl⟩
  have hs_7 : h_6 a = some (.inr (.inr (7, [.ref (a + 1), .null, .null, .null, .null, .null, .long (lI 0), .long (lI 0), .int (iI 0), .null, .int (iI 0), .int (iI 0), .int (iI 0), .int (iI 0), .long (lI 0), .int (iI 0), .null]))) := by rw [eh_6]; exact hup_s _ _ _
  have hf_8 : Fr h_1 h_6 a 1 := by rw [eh_6]; exact hup_Fr _ _ _
  rw [← eh_6]
  have h_9 := hf_8.at (by omega) hs_2
  have fr_10 := fr_5.tr (hf_8.wd (by omega) (by omega))
  refine z_aload_n hx dX9_init_13 rfl 0 rfl ?_
  refine z_sipush hx dX9_init_14 (by decide) ?_
  refine z_newai (n := 267) hx dX9_init_17 (by decide) rfl ⟨Nat.le_of_ble_eq_true rfl, Nat.le_of_ble_eq_true rfl⟩ ?_
  show Zj g x (a + 3, 2, 534) (hup h_6 (a + 2) (.inl (0, 267, fun _ => 0))) 19 [(0, .ref a)] [.ref (a + 2), .ref a]
  obtain ⟨h_11, eh_11⟩ : ∃ hh, hh = hup h_6 (a + 2) (.inl (0, 267, fun _ => 0)) := ⟨_, rfl⟩
  have hs_12 : h_11 (a + 2) = some (.inl (0, 267, fun _ => 0)) := by rw [eh_11]; exact hup_s _ _ _
  have hf_13 : Fr h_6 h_11 (a + 2) 1 := by rw [eh_11]; exact hup_Fr _ _ _
  rw [← eh_11]
  have h_14 := hf_13.at (by omega) hs_7
  have h_15 := hf_13.at (by omega) h_9
  have fr_16 := fr_10.tr (hf_13.wd (by omega) (by omega))
  refine z_putF hx dX9_init_19 ff_X9_13 rfl h_14 ⟨rfl, rfl⟩ (Nat.le_of_ble_eq_true rfl) ?_
  show Zj g x (a + 3, 2, 534) (hup h_11 a (.inr (.inr (7, [.ref (a + 1), .ref (a + 2), .null, .null, .null, .null, .long (lI 0), .long (lI 0), .int (iI 0), .null, .int (iI 0), .int (iI 0), .int (iI 0), .int (iI 0), .long (lI 0), .int (iI 0), .null])))) 22 [(0, .ref a)] []
  obtain ⟨h_17, eh_17⟩ : ∃ hh, hh = hup h_11 a (.inr (.inr (7, [.ref (a + 1), .ref (a + 2), .null, .null, .null, .null, .long (lI 0), .long (lI 0), .int (iI 0), .null, .int (iI 0), .int (iI 0), .int (iI 0), .int (iI 0), .long (lI 0), .int (iI 0), .null]))) := ⟨_, rfl⟩
  have hs_18 : h_17 a = some (.inr (.inr (7, [.ref (a + 1), .ref (a + 2), .null, .null, .null, .null, .long (lI 0), .long (lI 0), .int (iI 0), .null, .int (iI 0), .int (iI 0), .int (iI 0), .int (iI 0), .long (lI 0), .int (iI 0), .null]))) := by rw [eh_17]; exact hup_s _ _ _
  have hf_19 : Fr h_11 h_17 a 1 := by rw [eh_17]; exact hup_Fr _ _ _
  rw [← eh_17]
  have h_20 := hf_19.at (by omega) h_15
  have h_21 := hf_19.at (by omega) hs_12
  have fr_22 := fr_16.tr (hf_19.wd (by omega) (by omega))
  refine z_aload_n hx dX9_init_22 rfl 0 rfl ?_
  refine z_sipush hx dX9_init_23 (by decide) ?_
  refine z_newai (n := 267) hx dX9_init_26 (by decide) rfl ⟨Nat.le_of_ble_eq_true rfl, Nat.le_of_ble_eq_true rfl⟩ ?_
  show Zj g x (a + 4, 3, 801) (hup h_17 (a + 3) (.inl (0, 267, fun _ => 0))) 28 [(0, .ref a)] [.ref (a + 3), .ref a]
  obtain ⟨h_23, eh_23⟩ : ∃ hh, hh = hup h_17 (a + 3) (.inl (0, 267, fun _ => 0)) := ⟨_, rfl⟩
  have hs_24 : h_23 (a + 3) = some (.inl (0, 267, fun _ => 0)) := by rw [eh_23]; exact hup_s _ _ _
  have hf_25 : Fr h_17 h_23 (a + 3) 1 := by rw [eh_23]; exact hup_Fr _ _ _
  rw [← eh_23]
  have h_26 := hf_25.at (by omega) hs_18
  have h_27 := hf_25.at (by omega) h_20
  have h_28 := hf_25.at (by omega) h_21
  have fr_29 := fr_22.tr (hf_25.wd (by omega) (by omega))
  refine z_putF hx dX9_init_28 ff_X9_16 rfl h_26 ⟨rfl, rfl⟩ (Nat.le_of_ble_eq_true rfl) ?_
  show Zj g x (a + 4, 3, 801) (hup h_23 a (.inr (.inr (7, [.ref (a + 1), .ref (a + 2), .ref (a + 3), .null, .null, .null, .long (lI 0), .long (lI 0), .int (iI 0), .null, .int (iI 0), .int (iI 0), .int (iI 0), .int (iI 0), .long (lI 0), .int (iI 0), .null])))) 31 [(0, .ref a)] []
  obtain ⟨h_30, eh_30⟩ : ∃ hh, hh = hup h_23 a (.inr (.inr (7, [.ref (a + 1), .ref (a + 2), .ref (a + 3), .null, .null, .null, .long (lI 0), .long (lI 0), .int (iI 0), .null, .int (iI 0), .int (iI 0), .int (iI 0), .int (iI 0), .long (lI 0), .int (iI 0), .null]))) := ⟨_, rfl⟩
  have hs_31 : h_30 a = some (.inr (.inr (7, [.ref (a + 1), .ref (a + 2), .ref (a + 3), .null, .null, .null, .long (lI 0), .long (lI 0), .int (iI 0), .null, .int (iI 0), .int (iI 0), .int (iI 0), .int (iI 0), .long (lI 0), .int (iI 0), .null]))) := by rw [eh_30]; exact hup_s _ _ _
  have hf_32 : Fr h_23 h_30 a 1 := by rw [eh_30]; exact hup_Fr _ _ _
  rw [← eh_30]
  have h_33 := hf_32.at (by omega) h_27
  have h_34 := hf_32.at (by omega) h_28
  have h_35 := hf_32.at (by omega) hs_24
  have fr_36 := fr_29.tr (hf_32.wd (by omega) (by omega))
  refine z_aload_n hx dX9_init_31 rfl 0 rfl ?_
  refine z_sipush hx dX9_init_32 (by decide) ?_
  refine z_newai (n := 534) hx dX9_init_35 (by decide) rfl ⟨Nat.le_of_ble_eq_true rfl, Nat.le_of_ble_eq_true rfl⟩ ?_
  show Zj g x (a + 5, 4, 1335) (hup h_30 (a + 4) (.inl (0, 534, fun _ => 0))) 37 [(0, .ref a)] [.ref (a + 4), .ref a]
  obtain ⟨h_37, eh_37⟩ : ∃ hh, hh = hup h_30 (a + 4) (.inl (0, 534, fun _ => 0)) := ⟨_, rfl⟩
  have hs_38 : h_37 (a + 4) = some (.inl (0, 534, fun _ => 0)) := by rw [eh_37]; exact hup_s _ _ _
  have hf_39 : Fr h_30 h_37 (a + 4) 1 := by rw [eh_37]; exact hup_Fr _ _ _
  rw [← eh_37]
  have h_40 := hf_39.at (by omega) hs_31
  have h_41 := hf_39.at (by omega) h_33
  have h_42 := hf_39.at (by omega) h_34
  have h_43 := hf_39.at (by omega) h_35
  have fr_44 := fr_36.tr (hf_39.wd (by omega) (by omega))
  refine z_putF hx dX9_init_37 ff_X9_19 rfl h_40 ⟨rfl, rfl⟩ (Nat.le_of_ble_eq_true rfl) ?_
  show Zj g x (a + 5, 4, 1335) (hup h_37 a (.inr (.inr (7, [.ref (a + 1), .ref (a + 2), .ref (a + 3), .ref (a + 4), .null, .null, .long (lI 0), .long (lI 0), .int (iI 0), .null, .int (iI 0), .int (iI 0), .int (iI 0), .int (iI 0), .long (lI 0), .int (iI 0), .null])))) 40 [(0, .ref a)] []
  obtain ⟨h_45, eh_45⟩ : ∃ hh, hh = hup h_37 a (.inr (.inr (7, [.ref (a + 1), .ref (a + 2), .ref (a + 3), .ref (a + 4), .null, .null, .long (lI 0), .long (lI 0), .int (iI 0), .null, .int (iI 0), .int (iI 0), .int (iI 0), .int (iI 0), .long (lI 0), .int (iI 0), .null]))) := ⟨_, rfl⟩
  have hs_46 : h_45 a = some (.inr (.inr (7, [.ref (a + 1), .ref (a + 2), .ref (a + 3), .ref (a + 4), .null, .null, .long (lI 0), .long (lI 0), .int (iI 0), .null, .int (iI 0), .int (iI 0), .int (iI 0), .int (iI 0), .long (lI 0), .int (iI 0), .null]))) := by rw [eh_45]; exact hup_s _ _ _
  have hf_47 : Fr h_37 h_45 a 1 := by rw [eh_45]; exact hup_Fr _ _ _
  rw [← eh_45]
  have h_48 := hf_47.at (by omega) h_41
  have h_49 := hf_47.at (by omega) h_42
  have h_50 := hf_47.at (by omega) h_43
  have h_51 := hf_47.at (by omega) hs_38
  have fr_52 := fr_44.tr (hf_47.wd (by omega) (by omega))
  refine z_aload_n hx dX9_init_40 rfl 0 rfl ?_
  refine z_iconst hx dX9_init_41 ?_
  refine z_newaz (n := 2) hx dX9_init_42 (by decide) rfl ⟨Nat.le_of_ble_eq_true rfl, Nat.le_of_ble_eq_true rfl⟩ ?_
  show Zj g x (a + 6, 5, 1337) (hup h_45 (a + 5) (.inl (2, 2, fun _ => 0))) 44 [(0, .ref a)] [.ref (a + 5), .ref a]
  obtain ⟨h_53, eh_53⟩ : ∃ hh, hh = hup h_45 (a + 5) (.inl (2, 2, fun _ => 0)) := ⟨_, rfl⟩
  have hs_54 : h_53 (a + 5) = some (.inl (2, 2, fun _ => 0)) := by rw [eh_53]; exact hup_s _ _ _
  have hf_55 : Fr h_45 h_53 (a + 5) 1 := by rw [eh_53]; exact hup_Fr _ _ _
  rw [← eh_53]
  have h_56 := hf_55.at (by omega) hs_46
  have h_57 := hf_55.at (by omega) h_48
  have h_58 := hf_55.at (by omega) h_49
  have h_59 := hf_55.at (by omega) h_50
  have h_60 := hf_55.at (by omega) h_51
  have fr_61 := fr_52.tr (hf_55.wd (by omega) (by omega))
  refine z_putF hx dX9_init_44 ff_X9_22 rfl h_56 ⟨rfl, rfl⟩ (Nat.le_of_ble_eq_true rfl) ?_
  show Zj g x (a + 6, 5, 1337) (hup h_53 a (.inr (.inr (7, [.ref (a + 1), .ref (a + 2), .ref (a + 3), .ref (a + 4), .ref (a + 5), .null, .long (lI 0), .long (lI 0), .int (iI 0), .null, .int (iI 0), .int (iI 0), .int (iI 0), .int (iI 0), .long (lI 0), .int (iI 0), .null])))) 47 [(0, .ref a)] []
  obtain ⟨h_62, eh_62⟩ : ∃ hh, hh = hup h_53 a (.inr (.inr (7, [.ref (a + 1), .ref (a + 2), .ref (a + 3), .ref (a + 4), .ref (a + 5), .null, .long (lI 0), .long (lI 0), .int (iI 0), .null, .int (iI 0), .int (iI 0), .int (iI 0), .int (iI 0), .long (lI 0), .int (iI 0), .null]))) := ⟨_, rfl⟩
  have hs_63 : h_62 a = some (.inr (.inr (7, [.ref (a + 1), .ref (a + 2), .ref (a + 3), .ref (a + 4), .ref (a + 5), .null, .long (lI 0), .long (lI 0), .int (iI 0), .null, .int (iI 0), .int (iI 0), .int (iI 0), .int (iI 0), .long (lI 0), .int (iI 0), .null]))) := by rw [eh_62]; exact hup_s _ _ _
  have hf_64 : Fr h_53 h_62 a 1 := by rw [eh_62]; exact hup_Fr _ _ _
  rw [← eh_62]
  have h_65 := hf_64.at (by omega) h_57
  have h_66 := hf_64.at (by omega) h_58
  have h_67 := hf_64.at (by omega) h_59
  have h_68 := hf_64.at (by omega) h_60
  have h_69 := hf_64.at (by omega) hs_54
  have fr_70 := fr_61.tr (hf_64.wd (by omega) (by omega))
  refine z_aload_n hx dX9_init_47 rfl 0 rfl ?_
  refine z_iconst hx dX9_init_48 ?_
  refine z_newai (n := 3) hx dX9_init_49 (by decide) rfl ⟨Nat.le_of_ble_eq_true rfl, Nat.le_of_ble_eq_true rfl⟩ ?_
  show Zj g x (a + 7, 6, 1340) (hup h_62 (a + 6) (.inl (0, 3, fun _ => 0))) 51 [(0, .ref a)] [.ref (a + 6), .ref a]
  obtain ⟨h_71, eh_71⟩ : ∃ hh, hh = hup h_62 (a + 6) (.inl (0, 3, fun _ => 0)) := ⟨_, rfl⟩
  have hs_72 : h_71 (a + 6) = some (.inl (0, 3, fun _ => 0)) := by rw [eh_71]; exact hup_s _ _ _
  have hf_73 : Fr h_62 h_71 (a + 6) 1 := by rw [eh_71]; exact hup_Fr _ _ _
  rw [← eh_71]
  have h_74 := hf_73.at (by omega) hs_63
  have h_75 := hf_73.at (by omega) h_65
  have h_76 := hf_73.at (by omega) h_66
  have h_77 := hf_73.at (by omega) h_67
  have h_78 := hf_73.at (by omega) h_68
  have h_79 := hf_73.at (by omega) h_69
  have fr_80 := fr_70.tr (hf_73.wd (by omega) (by omega))
  refine z_putF hx dX9_init_51 ff_X9_26 rfl h_74 ⟨rfl, rfl⟩ (Nat.le_of_ble_eq_true rfl) ?_
  show Zj g x (a + 7, 6, 1340) (hup h_71 a (.inr (.inr (7, [.ref (a + 1), .ref (a + 2), .ref (a + 3), .ref (a + 4), .ref (a + 5), .ref (a + 6), .long (lI 0), .long (lI 0), .int (iI 0), .null, .int (iI 0), .int (iI 0), .int (iI 0), .int (iI 0), .long (lI 0), .int (iI 0), .null])))) 54 [(0, .ref a)] []
  obtain ⟨h_81, eh_81⟩ : ∃ hh, hh = hup h_71 a (.inr (.inr (7, [.ref (a + 1), .ref (a + 2), .ref (a + 3), .ref (a + 4), .ref (a + 5), .ref (a + 6), .long (lI 0), .long (lI 0), .int (iI 0), .null, .int (iI 0), .int (iI 0), .int (iI 0), .int (iI 0), .long (lI 0), .int (iI 0), .null]))) := ⟨_, rfl⟩
  have hs_82 : h_81 a = some (.inr (.inr (7, [.ref (a + 1), .ref (a + 2), .ref (a + 3), .ref (a + 4), .ref (a + 5), .ref (a + 6), .long (lI 0), .long (lI 0), .int (iI 0), .null, .int (iI 0), .int (iI 0), .int (iI 0), .int (iI 0), .long (lI 0), .int (iI 0), .null]))) := by rw [eh_81]; exact hup_s _ _ _
  have hf_83 : Fr h_71 h_81 a 1 := by rw [eh_81]; exact hup_Fr _ _ _
  rw [← eh_81]
  have h_84 := hf_83.at (by omega) h_75
  have h_85 := hf_83.at (by omega) h_76
  have h_86 := hf_83.at (by omega) h_77
  have h_87 := hf_83.at (by omega) h_78
  have h_88 := hf_83.at (by omega) h_79
  have h_89 := hf_83.at (by omega) hs_72
  have fr_90 := fr_80.tr (hf_83.wd (by omega) (by omega))
  refine z_aload_n hx dX9_init_54 rfl 0 rfl ?_
  refine z_lconst (a := 1) hx dX9_init_55 (by decide) ?_
  refine z_putQ hx dX9_init_56 fl_X9_29 hs_82 ⟨rfl, rfl⟩ (Nat.le_of_ble_eq_true rfl) (fun h_91 hs_92 hf_93 => ?_)
  have h_94 := hf_93.at (by omega) h_84
  have h_95 := hf_93.at (by omega) h_85
  have h_96 := hf_93.at (by omega) h_86
  have h_97 := hf_93.at (by omega) h_87
  have h_98 := hf_93.at (by omega) h_88
  have h_99 := hf_93.at (by omega) h_89
  have fr_100 := fr_90.tr (hf_93.wd (by omega) (by omega))
  refine z_aload_n hx dX9_init_59 rfl 0 rfl ?_
  refine z_sipush hx dX9_init_60 (by decide) ?_
  refine z_newai (n := 150) hx dX9_init_63 (by decide) rfl ⟨Nat.le_of_ble_eq_true rfl, Nat.le_of_ble_eq_true rfl⟩ ?_
  show Zj g x (a + 8, 7, 1490) (hup h_91 (a + 7) (.inl (0, 150, fun _ => 0))) 65 [(0, .ref a)] [.ref (a + 7), .ref a]
  obtain ⟨h_101, eh_101⟩ : ∃ hh, hh = hup h_91 (a + 7) (.inl (0, 150, fun _ => 0)) := ⟨_, rfl⟩
  have hs_102 : h_101 (a + 7) = some (.inl (0, 150, fun _ => 0)) := by rw [eh_101]; exact hup_s _ _ _
  have hf_103 : Fr h_91 h_101 (a + 7) 1 := by rw [eh_101]; exact hup_Fr _ _ _
  rw [← eh_101]
  have h_104 := hf_103.at (by omega) hs_92
  have h_105 := hf_103.at (by omega) h_94
  have h_106 := hf_103.at (by omega) h_95
  have h_107 := hf_103.at (by omega) h_96
  have h_108 := hf_103.at (by omega) h_97
  have h_109 := hf_103.at (by omega) h_98
  have h_110 := hf_103.at (by omega) h_99
  have fr_111 := fr_100.tr (hf_103.wd (by omega) (by omega))
  refine z_putF hx dX9_init_65 ff_X9_33 rfl h_104 ⟨rfl, rfl⟩ (Nat.le_of_ble_eq_true rfl) ?_
  show Zj g x (a + 8, 7, 1490) (hup h_101 a (.inr (.inr (7, [.ref (a + 1), .ref (a + 2), .ref (a + 3), .ref (a + 4), .ref (a + 5), .ref (a + 6), .long (lI 0), .long (lI 1), .int (iI 0), .ref (a + 7), .int (iI 0), .int (iI 0), .int (iI 0), .int (iI 0), .long (lI 0), .int (iI 0), .null])))) 68 [(0, .ref a)] []
  obtain ⟨h_112, eh_112⟩ : ∃ hh, hh = hup h_101 a (.inr (.inr (7, [.ref (a + 1), .ref (a + 2), .ref (a + 3), .ref (a + 4), .ref (a + 5), .ref (a + 6), .long (lI 0), .long (lI 1), .int (iI 0), .ref (a + 7), .int (iI 0), .int (iI 0), .int (iI 0), .int (iI 0), .long (lI 0), .int (iI 0), .null]))) := ⟨_, rfl⟩
  have hs_113 : h_112 a = some (.inr (.inr (7, [.ref (a + 1), .ref (a + 2), .ref (a + 3), .ref (a + 4), .ref (a + 5), .ref (a + 6), .long (lI 0), .long (lI 1), .int (iI 0), .ref (a + 7), .int (iI 0), .int (iI 0), .int (iI 0), .int (iI 0), .long (lI 0), .int (iI 0), .null]))) := by rw [eh_112]; exact hup_s _ _ _
  have hf_114 : Fr h_101 h_112 a 1 := by rw [eh_112]; exact hup_Fr _ _ _
  rw [← eh_112]
  have h_115 := hf_114.at (by omega) h_105
  have h_116 := hf_114.at (by omega) h_106
  have h_117 := hf_114.at (by omega) h_107
  have h_118 := hf_114.at (by omega) h_108
  have h_119 := hf_114.at (by omega) h_109
  have h_120 := hf_114.at (by omega) h_110
  have h_121 := hf_114.at (by omega) hs_102
  have fr_122 := fr_111.tr (hf_114.wd (by omega) (by omega))
  refine z_aload_n hx dX9_init_68 rfl 0 rfl ?_
  refine z_iconst hx dX9_init_69 ?_
  refine z_newai (n := 4) hx dX9_init_70 (by decide) rfl ⟨Nat.le_of_ble_eq_true rfl, Nat.le_of_ble_eq_true rfl⟩ ?_
  show Zj g x (a + 9, 8, 1494) (hup h_112 (a + 8) (.inl (0, 4, fun _ => 0))) 72 [(0, .ref a)] [.ref (a + 8), .ref a]
  obtain ⟨h_123, eh_123⟩ : ∃ hh, hh = hup h_112 (a + 8) (.inl (0, 4, fun _ => 0)) := ⟨_, rfl⟩
  have hs_124 : h_123 (a + 8) = some (.inl (0, 4, fun _ => 0)) := by rw [eh_123]; exact hup_s _ _ _
  have hf_125 : Fr h_112 h_123 (a + 8) 1 := by rw [eh_123]; exact hup_Fr _ _ _
  rw [← eh_123]
  have h_126 := hf_125.at (by omega) hs_113
  have h_127 := hf_125.at (by omega) h_115
  have h_128 := hf_125.at (by omega) h_116
  have h_129 := hf_125.at (by omega) h_117
  have h_130 := hf_125.at (by omega) h_118
  have h_131 := hf_125.at (by omega) h_119
  have h_132 := hf_125.at (by omega) h_120
  have h_133 := hf_125.at (by omega) h_121
  have fr_134 := fr_122.tr (hf_125.wd (by omega) (by omega))
  refine z_putF hx dX9_init_72 ff_X9_36 rfl h_126 ⟨rfl, rfl⟩ (Nat.le_of_ble_eq_true rfl) ?_
  show Zj g x (a + 9, 8, 1494) (hup h_123 a (.inr (.inr (7, [.ref (a + 1), .ref (a + 2), .ref (a + 3), .ref (a + 4), .ref (a + 5), .ref (a + 6), .long (lI 0), .long (lI 1), .int (iI 0), .ref (a + 7), .int (iI 0), .int (iI 0), .int (iI 0), .int (iI 0), .long (lI 0), .int (iI 0), .ref (a + 8)])))) 75 [(0, .ref a)] []
  obtain ⟨h_135, eh_135⟩ : ∃ hh, hh = hup h_123 a (.inr (.inr (7, [.ref (a + 1), .ref (a + 2), .ref (a + 3), .ref (a + 4), .ref (a + 5), .ref (a + 6), .long (lI 0), .long (lI 1), .int (iI 0), .ref (a + 7), .int (iI 0), .int (iI 0), .int (iI 0), .int (iI 0), .long (lI 0), .int (iI 0), .ref (a + 8)]))) := ⟨_, rfl⟩
  have hs_136 : h_135 a = some (.inr (.inr (7, [.ref (a + 1), .ref (a + 2), .ref (a + 3), .ref (a + 4), .ref (a + 5), .ref (a + 6), .long (lI 0), .long (lI 1), .int (iI 0), .ref (a + 7), .int (iI 0), .int (iI 0), .int (iI 0), .int (iI 0), .long (lI 0), .int (iI 0), .ref (a + 8)]))) := by rw [eh_135]; exact hup_s _ _ _
  have hf_137 : Fr h_123 h_135 a 1 := by rw [eh_135]; exact hup_Fr _ _ _
  rw [← eh_135]
  have h_138 := hf_137.at (by omega) h_127
  have h_139 := hf_137.at (by omega) h_128
  have h_140 := hf_137.at (by omega) h_129
  have h_141 := hf_137.at (by omega) h_130
  have h_142 := hf_137.at (by omega) h_131
  have h_143 := hf_137.at (by omega) h_132
  have h_144 := hf_137.at (by omega) h_133
  have h_145 := hf_137.at (by omega) hs_124
  have fr_146 := fr_134.tr (hf_137.wd (by omega) (by omega))
  refine z_vret hx hr dX9_init_75 rfl ⟨⟨rfl, rfl⟩, ⟨hs_136, h_138, h_139, h_140, h_141, h_142, h_143, h_144, h_145⟩, fr_146⟩

