/-- the reference as it is made -/
def refA (A : Mem) : Mem := filA (filA (gsA A 20 5 37) 28 (-1) 100) 55 20000 5
theorem rfk_x : rfk 5 0 = false ∧ rfk 5 1 = false ∧ rfk 5 9 = false ∧ rfk 5 23 = false ∧ rfk 5 35 = false ∧ rfk 5 36 = false := by decide
set_option maxHeartbeats 2000000 in
set_option maxRecDepth 20000 in
theorem c_X4_init {L : Nat → Nat} {A : Mem} (hP : ∀ m, L m ≠ 0 → m < 21 ∧ m ≠ 4 ∧ m ≠ 5) (h0 : L 20 = 1) (hz : ∀ m j, 20 ≤ m → m < 100 → A m j = 0) : Ct mX4_init [gr 20] L A (pr none (gset (gsL L 21 5 37) 20 2) (refA A)) := by
  have hP2 : ∀ m, L m ≠ 0 → m < 100 ∧ m ≠ 4 ∧ m ≠ 5 := fun m hm => by have := hP m hm; omega
  have hL9 : ∀ m, 21 ≤ m → L m = 0 := fun m hm => by by_cases h : L m = 0; exact h; have := hP m h; omega
  have hL1 : L 20 ≠ 0 := by rw [h0]; decide
  refine Ct_of (ls := [(0, _)]) rfl (by decide) (fun _ => rfl) (fun _ => Nat.le_of_ble_eq_true rfl) ?_
  refine g_aload_n 0 dX4_init_0 rfl rfl ?_
  refine g_oinit wm_X4_1 dX4_init_1 (fun _ => Nat.le_of_ble_eq_true rfl) ?_
  refine g_wld (L2 := gsL L 21 5 0) (A2 := gsA A 20 5 0) (gsL_0 _ _ _).symm (gsA_0 _ _ _).symm ?_
  refine g_wld (L2 := gsL L 21 5 1) (A2 := gsA A 20 5 1) (gsL_no (by decide)).symm (gsA_no (by decide)).symm ?_
  refine g_wld (L2 := gsL L 21 5 2) (A2 := gsA A 20 5 2) (gsL_no (by decide)).symm (gsA_no (by decide)).symm ?_
  refine g_aload_n 0 dX4_init_4 rfl rfl ?_
  refine g_bipush dX4_init_5 (by decide) ?_
  refine g_arr (o := 20) (B := 21) (k := 2) (N := 100) cf_5 rfl rfl (Or.inl ⟨rfl, dX4_init_7⟩) (by decide) (by decide) (by decide) rfl rfl (by decide) hP2 (by decide) (by decide) (by decide) (hL9 _ (by decide)) hL1 (by decide) (fun j => hz _ j (by decide) (by decide)) rfl (hz 20 _ (by decide) (by decide)) rfl (Nat.le_of_ble_eq_true rfl) (Nat.le_of_ble_eq_true rfl) dX4_init_9 wf_X4_7 (Or.inr ⟨rfl, rfl, rfl⟩) (Or.inr ⟨_, rfl⟩) ?_
  refine g_aload_n 0 dX4_init_12 rfl rfl ?_
  refine g_bipush dX4_init_13 (by decide) ?_
  refine g_arr (o := 20) (B := 21) (k := 3) (N := 100) cf_5 rfl rfl (Or.inl ⟨rfl, dX4_init_15⟩) (by decide) (by decide) (by decide) rfl rfl (by decide) hP2 (by decide) (by decide) (by decide) (hL9 _ (by decide)) hL1 (by decide) (fun j => hz _ j (by decide) (by decide)) rfl (hz 20 _ (by decide) (by decide)) rfl (Nat.le_of_ble_eq_true rfl) (Nat.le_of_ble_eq_true rfl) dX4_init_17 wf_X4_13 (Or.inr ⟨rfl, rfl, rfl⟩) (Or.inr ⟨_, rfl⟩) ?_
  refine g_aload_n 0 dX4_init_20 rfl rfl ?_
  refine g_bipush dX4_init_21 (by decide) ?_
  refine g_arr (o := 20) (B := 21) (k := 4) (N := 100) cf_5 rfl rfl (Or.inl ⟨rfl, dX4_init_23⟩) (by decide) (by decide) (by decide) rfl rfl (by decide) hP2 (by decide) (by decide) (by decide) (hL9 _ (by decide)) hL1 (by decide) (fun j => hz _ j (by decide) (by decide)) rfl (hz 20 _ (by decide) (by decide)) rfl (Nat.le_of_ble_eq_true rfl) (Nat.le_of_ble_eq_true rfl) dX4_init_25 wf_X4_16 (Or.inr ⟨rfl, rfl, rfl⟩) (Or.inr ⟨_, rfl⟩) ?_
  refine g_aload_n 0 dX4_init_28 rfl rfl ?_
  refine g_bipush dX4_init_29 (by decide) ?_
  refine g_arr (o := 20) (B := 21) (k := 5) (N := 100) cf_5 rfl rfl (Or.inr ⟨rfl, dX4_init_31⟩) (by decide) (by decide) (by decide) rfl rfl (by decide) hP2 (by decide) (by decide) (by decide) (hL9 _ (by decide)) hL1 (by decide) (fun j => hz _ j (by decide) (by decide)) rfl (hz 20 _ (by decide) (by decide)) rfl (Nat.le_of_ble_eq_true rfl) (Nat.le_of_ble_eq_true rfl) dX4_init_33 wf_X4_19 (Or.inr ⟨rfl, rfl, rfl⟩) (Or.inr ⟨_, rfl⟩) ?_
  refine g_aload_n 0 dX4_init_36 rfl rfl ?_
  refine g_bipush dX4_init_37 (by decide) ?_
  refine g_arr (o := 20) (B := 21) (k := 6) (N := 100) cf_5 rfl rfl (Or.inr ⟨rfl, dX4_init_39⟩) (by decide) (by decide) (by decide) rfl rfl (by decide) hP2 (by decide) (by decide) (by decide) (hL9 _ (by decide)) hL1 (by decide) (fun j => hz _ j (by decide) (by decide)) rfl (hz 20 _ (by decide) (by decide)) rfl (Nat.le_of_ble_eq_true rfl) (Nat.le_of_ble_eq_true rfl) dX4_init_41 wf_X4_23 (Or.inr ⟨rfl, rfl, rfl⟩) (Or.inr ⟨_, rfl⟩) ?_
  refine g_aload_n 0 dX4_init_44 rfl rfl ?_
  refine g_bipush dX4_init_45 (by decide) ?_
  refine g_arr (o := 20) (B := 21) (k := 7) (N := 100) cf_5 rfl rfl (Or.inl ⟨rfl, dX4_init_47⟩) (by decide) (by decide) (by decide) rfl rfl (by decide) hP2 (by decide) (by decide) (by decide) (hL9 _ (by decide)) hL1 (by decide) (fun j => hz _ j (by decide) (by decide)) rfl (hz 20 _ (by decide) (by decide)) rfl (Nat.le_of_ble_eq_true rfl) (Nat.le_of_ble_eq_true rfl) dX4_init_49 wf_X4_26 (Or.inr ⟨rfl, rfl, rfl⟩) (Or.inr ⟨_, rfl⟩) ?_
  refine g_aload_n 0 dX4_init_52 rfl rfl ?_
  refine g_bipush dX4_init_53 (by decide) ?_
  refine g_arr (o := 20) (B := 21) (k := 8) (N := 100) cf_5 rfl rfl (Or.inr ⟨rfl, dX4_init_55⟩) (by decide) (by decide) (by decide) rfl rfl (by decide) hP2 (by decide) (by decide) (by decide) (hL9 _ (by decide)) hL1 (by decide) (fun j => hz _ j (by decide) (by decide)) rfl (hz 20 _ (by decide) (by decide)) rfl (Nat.le_of_ble_eq_true rfl) (Nat.le_of_ble_eq_true rfl) dX4_init_57 wf_X4_29 (Or.inr ⟨rfl, rfl, rfl⟩) (Or.inr ⟨_, rfl⟩) ?_
  refine g_wld (L2 := gsL L 21 5 10) (A2 := gsA A 20 5 10) (gsL_no (by decide)).symm (gsA_no (by decide)).symm ?_
  refine g_aload_n 0 dX4_init_60 rfl rfl ?_
  refine g_bipush dX4_init_61 (by decide) ?_
  refine g_arr (o := 20) (B := 21) (k := 10) (N := 12) cf_5 rfl rfl (Or.inl ⟨rfl, dX4_init_63⟩) (by decide) (by decide) (by decide) rfl rfl (by decide) hP2 (by decide) (by decide) (by decide) (hL9 _ (by decide)) hL1 (by decide) (fun j => hz _ j (by decide) (by decide)) rfl (hz 20 _ (by decide) (by decide)) rfl (Nat.le_of_ble_eq_true rfl) (Nat.le_of_ble_eq_true rfl) dX4_init_65 wf_X4_32 (Or.inr ⟨rfl, rfl, rfl⟩) (Or.inr ⟨_, rfl⟩) ?_
  refine g_aload_n 0 dX4_init_68 rfl rfl ?_
  refine g_bipush dX4_init_69 (by decide) ?_
  refine g_arr (o := 20) (B := 21) (k := 11) (N := 12) cf_5 rfl rfl (Or.inl ⟨rfl, dX4_init_71⟩) (by decide) (by decide) (by decide) rfl rfl (by decide) hP2 (by decide) (by decide) (by decide) (hL9 _ (by decide)) hL1 (by decide) (fun j => hz _ j (by decide) (by decide)) rfl (hz 20 _ (by decide) (by decide)) rfl (Nat.le_of_ble_eq_true rfl) (Nat.le_of_ble_eq_true rfl) dX4_init_73 wf_X4_35 (Or.inr ⟨rfl, rfl, rfl⟩) (Or.inr ⟨_, rfl⟩) ?_
  refine g_aload_n 0 dX4_init_76 rfl rfl ?_
  refine g_bipush dX4_init_77 (by decide) ?_
  refine g_arr (o := 20) (B := 21) (k := 12) (N := 12) cf_5 rfl rfl (Or.inl ⟨rfl, dX4_init_79⟩) (by decide) (by decide) (by decide) rfl rfl (by decide) hP2 (by decide) (by decide) (by decide) (hL9 _ (by decide)) hL1 (by decide) (fun j => hz _ j (by decide) (by decide)) rfl (hz 20 _ (by decide) (by decide)) rfl (Nat.le_of_ble_eq_true rfl) (Nat.le_of_ble_eq_true rfl) dX4_init_81 wf_X4_38 (Or.inr ⟨rfl, rfl, rfl⟩) (Or.inr ⟨_, rfl⟩) ?_
  refine g_aload_n 0 dX4_init_84 rfl rfl ?_
  refine g_bipush dX4_init_85 (by decide) ?_
  refine g_arr (o := 20) (B := 21) (k := 13) (N := 12) cf_5 rfl rfl (Or.inl ⟨rfl, dX4_init_87⟩) (by decide) (by decide) (by decide) rfl rfl (by decide) hP2 (by decide) (by decide) (by decide) (hL9 _ (by decide)) hL1 (by decide) (fun j => hz _ j (by decide) (by decide)) rfl (hz 20 _ (by decide) (by decide)) rfl (Nat.le_of_ble_eq_true rfl) (Nat.le_of_ble_eq_true rfl) dX4_init_89 wf_X4_41 (Or.inr ⟨rfl, rfl, rfl⟩) (Or.inr ⟨_, rfl⟩) ?_
  refine g_aload_n 0 dX4_init_92 rfl rfl ?_
  refine g_bipush dX4_init_93 (by decide) ?_
  refine g_arr (o := 20) (B := 21) (k := 14) (N := 12) cf_5 rfl rfl (Or.inl ⟨rfl, dX4_init_95⟩) (by decide) (by decide) (by decide) rfl rfl (by decide) hP2 (by decide) (by decide) (by decide) (hL9 _ (by decide)) hL1 (by decide) (fun j => hz _ j (by decide) (by decide)) rfl (hz 20 _ (by decide) (by decide)) rfl (Nat.le_of_ble_eq_true rfl) (Nat.le_of_ble_eq_true rfl) dX4_init_97 wf_X4_44 (Or.inr ⟨rfl, rfl, rfl⟩) (Or.inr ⟨_, rfl⟩) ?_
  refine g_aload_n 0 dX4_init_100 rfl rfl ?_
  refine g_bipush dX4_init_101 (by decide) ?_
  refine g_arr (o := 20) (B := 21) (k := 15) (N := 12) cf_5 rfl rfl (Or.inl ⟨rfl, dX4_init_103⟩) (by decide) (by decide) (by decide) rfl rfl (by decide) hP2 (by decide) (by decide) (by decide) (hL9 _ (by decide)) hL1 (by decide) (fun j => hz _ j (by decide) (by decide)) rfl (hz 20 _ (by decide) (by decide)) rfl (Nat.le_of_ble_eq_true rfl) (Nat.le_of_ble_eq_true rfl) dX4_init_105 wf_X4_47 (Or.inr ⟨rfl, rfl, rfl⟩) (Or.inr ⟨_, rfl⟩) ?_
  refine g_aload_n 0 dX4_init_108 rfl rfl ?_
  refine g_bipush dX4_init_109 (by decide) ?_
  refine g_arr (o := 20) (B := 21) (k := 16) (N := 12) cf_5 rfl rfl (Or.inl ⟨rfl, dX4_init_111⟩) (by decide) (by decide) (by decide) rfl rfl (by decide) hP2 (by decide) (by decide) (by decide) (hL9 _ (by decide)) hL1 (by decide) (fun j => hz _ j (by decide) (by decide)) rfl (hz 20 _ (by decide) (by decide)) rfl (Nat.le_of_ble_eq_true rfl) (Nat.le_of_ble_eq_true rfl) dX4_init_113 wf_X4_50 (Or.inr ⟨rfl, rfl, rfl⟩) (Or.inr ⟨_, rfl⟩) ?_
  refine g_aload_n 0 dX4_init_116 rfl rfl ?_
  refine g_bipush dX4_init_117 (by decide) ?_
  refine g_arr (o := 20) (B := 21) (k := 17) (N := 96) cf_5 rfl rfl (Or.inl ⟨rfl, dX4_init_119⟩) (by decide) (by decide) (by decide) rfl rfl (by decide) hP2 (by decide) (by decide) (by decide) (hL9 _ (by decide)) hL1 (by decide) (fun j => hz _ j (by decide) (by decide)) rfl (hz 20 _ (by decide) (by decide)) rfl (Nat.le_of_ble_eq_true rfl) (Nat.le_of_ble_eq_true rfl) dX4_init_121 wf_X4_53 (Or.inr ⟨rfl, rfl, rfl⟩) (Or.inr ⟨_, rfl⟩) ?_
  refine g_aload_n 0 dX4_init_124 rfl rfl ?_
  refine g_bipush dX4_init_125 (by decide) ?_
  refine g_arr (o := 20) (B := 21) (k := 18) (N := 96) cf_5 rfl rfl (Or.inl ⟨rfl, dX4_init_127⟩) (by decide) (by decide) (by decide) rfl rfl (by decide) hP2 (by decide) (by decide) (by decide) (hL9 _ (by decide)) hL1 (by decide) (fun j => hz _ j (by decide) (by decide)) rfl (hz 20 _ (by decide) (by decide)) rfl (Nat.le_of_ble_eq_true rfl) (Nat.le_of_ble_eq_true rfl) dX4_init_129 wf_X4_56 (Or.inr ⟨rfl, rfl, rfl⟩) (Or.inr ⟨_, rfl⟩) ?_
  refine g_aload_n 0 dX4_init_132 rfl rfl ?_
  refine g_bipush dX4_init_133 (by decide) ?_
  refine g_arr (o := 20) (B := 21) (k := 19) (N := 8) cf_5 rfl rfl (Or.inl ⟨rfl, dX4_init_135⟩) (by decide) (by decide) (by decide) rfl rfl (by decide) hP2 (by decide) (by decide) (by decide) (hL9 _ (by decide)) hL1 (by decide) (fun j => hz _ j (by decide) (by decide)) rfl (hz 20 _ (by decide) (by decide)) rfl (Nat.le_of_ble_eq_true rfl) (Nat.le_of_ble_eq_true rfl) dX4_init_137 wf_X4_59 (Or.inr ⟨rfl, rfl, rfl⟩) (Or.inr ⟨_, rfl⟩) ?_
  refine g_aload_n 0 dX4_init_140 rfl rfl ?_
  refine g_bipush dX4_init_141 (by decide) ?_
  refine g_arr (o := 20) (B := 21) (k := 20) (N := 8) cf_5 rfl rfl (Or.inl ⟨rfl, dX4_init_143⟩) (by decide) (by decide) (by decide) rfl rfl (by decide) hP2 (by decide) (by decide) (by decide) (hL9 _ (by decide)) hL1 (by decide) (fun j => hz _ j (by decide) (by decide)) rfl (hz 20 _ (by decide) (by decide)) rfl (Nat.le_of_ble_eq_true rfl) (Nat.le_of_ble_eq_true rfl) dX4_init_145 wf_X4_62 (Or.inr ⟨rfl, rfl, rfl⟩) (Or.inr ⟨_, rfl⟩) ?_
  refine g_aload_n 0 dX4_init_148 rfl rfl ?_
  refine g_bipush dX4_init_149 (by decide) ?_
  refine g_arr (o := 20) (B := 21) (k := 21) (N := 8) cf_5 rfl rfl (Or.inl ⟨rfl, dX4_init_151⟩) (by decide) (by decide) (by decide) rfl rfl (by decide) hP2 (by decide) (by decide) (by decide) (hL9 _ (by decide)) hL1 (by decide) (fun j => hz _ j (by decide) (by decide)) rfl (hz 20 _ (by decide) (by decide)) rfl (Nat.le_of_ble_eq_true rfl) (Nat.le_of_ble_eq_true rfl) dX4_init_153 wf_X4_65 (Or.inr ⟨rfl, rfl, rfl⟩) (Or.inr ⟨_, rfl⟩) ?_
  refine g_aload_n 0 dX4_init_156 rfl rfl ?_
  refine g_bipush dX4_init_157 (by decide) ?_
  refine g_arr (o := 20) (B := 21) (k := 22) (N := 8) cf_5 rfl rfl (Or.inl ⟨rfl, dX4_init_159⟩) (by decide) (by decide) (by decide) rfl rfl (by decide) hP2 (by decide) (by decide) (by decide) (hL9 _ (by decide)) hL1 (by decide) (fun j => hz _ j (by decide) (by decide)) rfl (hz 20 _ (by decide) (by decide)) rfl (Nat.le_of_ble_eq_true rfl) (Nat.le_of_ble_eq_true rfl) dX4_init_161 wf_X4_68 (Or.inr ⟨rfl, rfl, rfl⟩) (Or.inr ⟨_, rfl⟩) ?_
  refine g_wld (L2 := gsL L 21 5 24) (A2 := gsA A 20 5 24) (gsL_no (by decide)).symm (gsA_no (by decide)).symm ?_
  refine g_aload_n 0 dX4_init_164 rfl rfl ?_
  refine g_bipush dX4_init_165 (by decide) ?_
  refine g_arr (o := 20) (B := 21) (k := 24) (N := 100) cf_5 rfl rfl (Or.inl ⟨rfl, dX4_init_167⟩) (by decide) (by decide) (by decide) rfl rfl (by decide) hP2 (by decide) (by decide) (by decide) (hL9 _ (by decide)) hL1 (by decide) (fun j => hz _ j (by decide) (by decide)) rfl (hz 20 _ (by decide) (by decide)) rfl (Nat.le_of_ble_eq_true rfl) (Nat.le_of_ble_eq_true rfl) dX4_init_169 wf_X4_71 (Or.inr ⟨rfl, rfl, rfl⟩) (Or.inr ⟨_, rfl⟩) ?_
  refine g_aload_n 0 dX4_init_172 rfl rfl ?_
  refine g_bipush dX4_init_173 (by decide) ?_
  refine g_arr (o := 20) (B := 21) (k := 25) (N := 100) cf_5 rfl rfl (Or.inl ⟨rfl, dX4_init_175⟩) (by decide) (by decide) (by decide) rfl rfl (by decide) hP2 (by decide) (by decide) (by decide) (hL9 _ (by decide)) hL1 (by decide) (fun j => hz _ j (by decide) (by decide)) rfl (hz 20 _ (by decide) (by decide)) rfl (Nat.le_of_ble_eq_true rfl) (Nat.le_of_ble_eq_true rfl) dX4_init_177 wf_X4_74 (Or.inr ⟨rfl, rfl, rfl⟩) (Or.inr ⟨_, rfl⟩) ?_
  refine g_aload_n 0 dX4_init_180 rfl rfl ?_
  refine g_bipush dX4_init_181 (by decide) ?_
  refine g_arr (o := 20) (B := 21) (k := 26) (N := 100) cf_5 rfl rfl (Or.inl ⟨rfl, dX4_init_183⟩) (by decide) (by decide) (by decide) rfl rfl (by decide) hP2 (by decide) (by decide) (by decide) (hL9 _ (by decide)) hL1 (by decide) (fun j => hz _ j (by decide) (by decide)) rfl (hz 20 _ (by decide) (by decide)) rfl (Nat.le_of_ble_eq_true rfl) (Nat.le_of_ble_eq_true rfl) dX4_init_185 wf_X4_77 (Or.inr ⟨rfl, rfl, rfl⟩) (Or.inr ⟨_, rfl⟩) ?_
  refine g_aload_n 0 dX4_init_188 rfl rfl ?_
  refine g_bipush dX4_init_189 (by decide) ?_
  refine g_arr (o := 20) (B := 21) (k := 27) (N := 100) cf_5 rfl rfl (Or.inl ⟨rfl, dX4_init_191⟩) (by decide) (by decide) (by decide) rfl rfl (by decide) hP2 (by decide) (by decide) (by decide) (hL9 _ (by decide)) hL1 (by decide) (fun j => hz _ j (by decide) (by decide)) rfl (hz 20 _ (by decide) (by decide)) rfl (Nat.le_of_ble_eq_true rfl) (Nat.le_of_ble_eq_true rfl) dX4_init_193 wf_X4_80 (Or.inr ⟨rfl, rfl, rfl⟩) (Or.inr ⟨_, rfl⟩) ?_
  refine g_aload_n 0 dX4_init_196 rfl rfl ?_
  refine g_bipush dX4_init_197 (by decide) ?_
  refine g_arr (o := 20) (B := 21) (k := 28) (N := 100) cf_5 rfl rfl (Or.inl ⟨rfl, dX4_init_199⟩) (by decide) (by decide) (by decide) rfl rfl (by decide) hP2 (by decide) (by decide) (by decide) (hL9 _ (by decide)) hL1 (by decide) (fun j => hz _ j (by decide) (by decide)) rfl (hz 20 _ (by decide) (by decide)) rfl (Nat.le_of_ble_eq_true rfl) (Nat.le_of_ble_eq_true rfl) dX4_init_201 wf_X4_83 (Or.inr ⟨rfl, rfl, rfl⟩) (Or.inr ⟨_, rfl⟩) ?_
  refine g_aload_n 0 dX4_init_204 rfl rfl ?_
  refine g_bipush dX4_init_205 (by decide) ?_
  refine g_arr (o := 20) (B := 21) (k := 29) (N := 100) cf_5 rfl rfl (Or.inl ⟨rfl, dX4_init_207⟩) (by decide) (by decide) (by decide) rfl rfl (by decide) hP2 (by decide) (by decide) (by decide) (hL9 _ (by decide)) hL1 (by decide) (fun j => hz _ j (by decide) (by decide)) rfl (hz 20 _ (by decide) (by decide)) rfl (Nat.le_of_ble_eq_true rfl) (Nat.le_of_ble_eq_true rfl) dX4_init_209 wf_X4_86 (Or.inr ⟨rfl, rfl, rfl⟩) (Or.inr ⟨_, rfl⟩) ?_
  refine g_aload_n 0 dX4_init_212 rfl rfl ?_
  refine g_bipush dX4_init_213 (by decide) ?_
  refine g_arr (o := 20) (B := 21) (k := 30) (N := 100) cf_5 rfl rfl (Or.inl ⟨rfl, dX4_init_215⟩) (by decide) (by decide) (by decide) rfl rfl (by decide) hP2 (by decide) (by decide) (by decide) (hL9 _ (by decide)) hL1 (by decide) (fun j => hz _ j (by decide) (by decide)) rfl (hz 20 _ (by decide) (by decide)) rfl (Nat.le_of_ble_eq_true rfl) (Nat.le_of_ble_eq_true rfl) dX4_init_217 wf_X4_89 (Or.inr ⟨rfl, rfl, rfl⟩) (Or.inr ⟨_, rfl⟩) ?_
  refine g_aload_n 0 dX4_init_220 rfl rfl ?_
  refine g_bipush dX4_init_221 (by decide) ?_
  refine g_arr (o := 20) (B := 21) (k := 31) (N := 100) cf_5 rfl rfl (Or.inl ⟨rfl, dX4_init_223⟩) (by decide) (by decide) (by decide) rfl rfl (by decide) hP2 (by decide) (by decide) (by decide) (hL9 _ (by decide)) hL1 (by decide) (fun j => hz _ j (by decide) (by decide)) rfl (hz 20 _ (by decide) (by decide)) rfl (Nat.le_of_ble_eq_true rfl) (Nat.le_of_ble_eq_true rfl) dX4_init_225 wf_X4_92 (Or.inr ⟨rfl, rfl, rfl⟩) (Or.inr ⟨_, rfl⟩) ?_
  refine g_aload_n 0 dX4_init_228 rfl rfl ?_
  refine g_sipush dX4_init_229 (by decide) ?_
  refine g_arr (o := 20) (B := 21) (k := 32) (N := 500) cf_5 rfl rfl (Or.inl ⟨rfl, dX4_init_232⟩) (by decide) (by decide) (by decide) rfl rfl (by decide) hP2 (by decide) (by decide) (by decide) (hL9 _ (by decide)) hL1 (by decide) (fun j => hz _ j (by decide) (by decide)) rfl (hz 20 _ (by decide) (by decide)) rfl (Nat.le_of_ble_eq_true rfl) (Nat.le_of_ble_eq_true rfl) dX4_init_234 wf_X4_95 (Or.inr ⟨rfl, rfl, rfl⟩) (Or.inr ⟨_, rfl⟩) ?_
  refine g_aload_n 0 dX4_init_237 rfl rfl ?_
  refine g_sipush dX4_init_238 (by decide) ?_
  refine g_arr (o := 20) (B := 21) (k := 33) (N := 500) cf_5 rfl rfl (Or.inl ⟨rfl, dX4_init_241⟩) (by decide) (by decide) (by decide) rfl rfl (by decide) hP2 (by decide) (by decide) (by decide) (hL9 _ (by decide)) hL1 (by decide) (fun j => hz _ j (by decide) (by decide)) rfl (hz 20 _ (by decide) (by decide)) rfl (Nat.le_of_ble_eq_true rfl) (Nat.le_of_ble_eq_true rfl) dX4_init_243 wf_X4_98 (Or.inr ⟨rfl, rfl, rfl⟩) (Or.inr ⟨_, rfl⟩) ?_
  refine g_aload_n 0 dX4_init_246 rfl rfl ?_
  refine g_iconst dX4_init_247 ?_
  refine g_arr (o := 20) (B := 21) (k := 34) (N := 5) cf_5 rfl rfl (Or.inl ⟨rfl, dX4_init_248⟩) (by decide) (by decide) (by decide) rfl rfl (by decide) hP2 (by decide) (by decide) (by decide) (hL9 _ (by decide)) hL1 (by decide) (fun j => hz _ j (by decide) (by decide)) rfl (hz 20 _ (by decide) (by decide)) rfl (Nat.le_of_ble_eq_true rfl) (Nat.le_of_ble_eq_true rfl) dX4_init_250 wf_X4_101 (Or.inr ⟨rfl, rfl, rfl⟩) (Or.inr ⟨_, rfl⟩) ?_
  refine g_wld (L2 := gsL L 21 5 36) (A2 := gsA A 20 5 36) (gsL_no (by decide)).symm (gsA_no (by decide)).symm ?_
  refine g_wld (L2 := gsL L 21 5 37) (A2 := gsA A 20 5 37) (gsL_no (by decide)).symm (gsA_no (by decide)).symm ?_
  have hLm : gsL L 21 5 37 20 ≠ 0 := by unfold gsL; rw [if_neg (by omega)]; exact hL1
  have hLr : ∀ n, 21 ≤ n → n < 58 → rfk 5 (n - 21) = true → gsL L 21 5 37 n = 2 := fun n h1 h2 h3 => by unfold gsL; rw [if_pos ⟨h1, by omega, h3⟩]
  have hAo : ∀ j, j < 37 → rfk 5 j = true → gsA A 20 5 37 20 j = 1 := fun j h1 h2 => by unfold gsA; rw [if_pos ⟨rfl, h1, h2⟩]
  generalize hLL : gsL L 21 5 37 = LL at hLm hLr ⊢
  generalize hAA : gsA A 20 5 37 = AA at hAo ⊢
  refine g_iconst dX4_init_253 ?_
  refine g_st (ls2 := [(1, _), (0, _)]) dX4_init_254 rfl (by decide) (c1_cr c1_0) rfl ?_
  refine g_sub [1, 0] (ls2 := [(0, _), (1, _)]) rfl ?_
  refine lp_up (Q := fun i : Nat => GW mX4_init (pr none (gset LL 20 2) (refA A)) 31 2813 255 [(0, gr 20), (1, gi (i : Int))] [] LL (filA AA 28 (-1) i)) (n := 100) ?_ (fun i hi ih => ?_)
  · refine g_iload_n 1 dX4_init_255 rfl rfl ?_
    refine g_bipush dX4_init_256 (by decide) ?_
    refine g_icmp_ge (tgt := 274) (by omega) (by omega) dX4_init_258 (by decide) (fun h => ?_) (fun h => absurd h (by omega))
    refine g_iconst dX4_init_274 ?_
    refine g_st (ls2 := [(1, _), (0, _)]) dX4_init_275 rfl (by decide) (c1_cr (c1_ci c1_0)) rfl ?_
    refine g_sub [1, 0] (ls2 := [(0, _), (1, _)]) rfl ?_
    refine lp_up (Q := fun i : Nat => GW mX4_init (pr none (gset LL 20 2) (refA A)) 31 2813 276 [(0, gr 20), (1, gi (i : Int))] [] LL (filA (filA AA 28 (-1) 100) 55 20000 i)) (n := 5) ?_ (fun i hi ih => ?_)
    · refine g_iload_n 1 dX4_init_276 rfl rfl ?_
      refine g_iconst dX4_init_277 ?_
      refine g_icmp_ge (tgt := 296) (by omega) (by omega) dX4_init_278 (by decide) (fun h => ?_) (fun h => absurd h (by omega))
      refine g_made (n := 20) rfl hLm (fun j hj hr => ?_) ?_
      · rw [filA_ne _ _ _ _ (by decide), filA_ne _ _ _ _ (by decide), hAo j hj hr]; decide
      · refine g_vret dX4_init_296 rfl (Nat.le_of_ble_eq_true rfl) (Nat.le_of_ble_eq_true rfl) (pr_v ?_)
        rw [← hAA]; rfl
    · refine g_iload_n 1 dX4_init_276 rfl rfl ?_
      refine g_iconst dX4_init_277 ?_
      refine g_icmp_ge (tgt := 296) (by omega) (by omega) dX4_init_278 (by decide) (fun h => absurd h (by omega)) (fun h => ?_)
      refine g_aload_n 0 dX4_init_281 rfl rfl ?_
      refine g_getfr1 cf_5 34 (n := 20) rfl (by decide) (by decide) rfl (by decide) wf_X4_101 dX4_init_282 hLm (by rw [filA_ne _ _ _ _ (by decide), filA_ne _ _ _ _ (by decide), hAo 34 (by decide) rfl]; decide) ?_
      refine g_iload_n 1 dX4_init_285 rfl rfl ?_
      refine g_sipush dX4_init_286 (by decide) ?_
      refine g_iast (n := 55) (N := 5) i rfl hi (by omega) rfl (by decide) dX4_init_289 (by rw [hLr 55 (by decide) (by decide) rfl]; decide) ?_
      refine g_inc (ls2 := [(1, _), (0, _)]) 1 dX4_init_290 rfl (by decide) (c1_cr (c1_ci c1_0)) rfl ?_
      refine g_goto (tgt := 276) dX4_init_293 (by decide) ?_
      refine g_sub [1, 0] (ls2 := [(0, _), (1, _)]) rfl ?_
      exact g_ls rfl rfl rfl ih
  · refine g_iload_n 1 dX4_init_255 rfl rfl ?_
    refine g_bipush dX4_init_256 (by decide) ?_
    refine g_icmp_ge (tgt := 274) (by omega) (by omega) dX4_init_258 (by decide) (fun h => absurd h (by omega)) (fun h => ?_)
    refine g_aload_n 0 dX4_init_261 rfl rfl ?_
    refine g_getfr1 cf_5 7 (n := 20) rfl (by decide) (by decide) rfl (by decide) wf_X4_26 dX4_init_262 hLm (by rw [filA_ne _ _ _ _ (by decide), hAo 7 (by decide) rfl]; decide) ?_
    refine g_iload_n 1 dX4_init_265 rfl rfl ?_
    refine g_iconst dX4_init_266 ?_
    refine g_iast (n := 28) (N := 100) i rfl hi (by omega) rfl (by decide) dX4_init_267 (by rw [hLr 28 (by decide) (by decide) rfl]; decide) ?_
    refine g_inc (ls2 := [(1, _), (0, _)]) 1 dX4_init_268 rfl (by decide) (c1_cr (c1_ci c1_0)) rfl ?_
    refine g_goto (tgt := 255) dX4_init_271 (by decide) ?_
    refine g_sub [1, 0] (ls2 := [(0, _), (1, _)]) rfl ?_
    exact g_ls rfl rfl rfl ih
