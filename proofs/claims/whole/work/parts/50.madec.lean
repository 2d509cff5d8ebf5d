theorem hP_set {L : Nat → Nat} {Q : Nat → Prop} {n v : Nat} (h : ∀ m, L m ≠ 0 → Q m) (hn : Q n) : ∀ m, gset L n v m ≠ 0 → Q m := fun m hm => by
  by_cases e : m = n
  · rw [e]; exact hn
  · rw [gset_ne e] at hm; exact h m hm
theorem hP_gsL {L : Nat → Nat} {Q : Nat → Prop} {B c b : Nat} (h : ∀ m, L m ≠ 0 → Q m) (hn : ∀ m, B ≤ m → m < B + b → Q m) : ∀ m, gsL L B c b m ≠ 0 → Q m := fun m hm => by
  unfold gsL at hm
  split at hm
  · next e => exact hn m e.1 e.2.1
  · exact h m hm
/-- the class's object as it is made -/
def clsL (L : Nat → Nat) : Nat → Nat := gset (gset (gset (gset (gset (gset (gset (gset (gset (gset (gset (gset (gsL (gset L 1 1) 12 2 6) 1 2) 2 1) 2 2) 3 1) 3 2) 6 2) 7 2) 8 2) 9 2) 10 2) 11 2) 0 2
def clsA (A : Mem) : Mem :=
  gup (gup (filA (gup (gup (gup (gup (gup (gup (gup (gup (gup (gup (gup (filA (gsA A 1 2 6) 17 (-1) 100) 0 0 1) 2 0 0) 2 1 1) 0 1 1) 3 0 0) 3 1 1) 0 2 1) 0 3 1) 0 4 1) 0 5 1) 0 6 1) 9 20000 5) 0 7 1) 0 8 1
set_option maxHeartbeats 4000000 in
set_option maxRecDepth 20000 in
theorem c_X3_init {L : Nat → Nat} {A : Mem} (hP : ∀ m, L m ≠ 0 → m = 0) (h0 : L 0 = 1) (hz : ∀ m j, m < 18 → A m j = 0) : Ct mX3_init [gr 0] L A (pr none (clsL L) (clsA A)) := by
  have hL : ∀ m, ¬ m = 0 → L m = 0 := fun m hm => by by_cases h : L m = 0; exact h; exact absurd (hP m h) hm
  refine Ct_of (ls := [(0, _)]) rfl (by decide) (fun _ => rfl) (fun _ => Nat.le_of_ble_eq_true rfl) ?_
  refine g_aload_n 0 dX3_init_0 rfl rfl ?_
  refine g_oinit wm_X3_3 dX3_init_1 (fun _ => Nat.le_of_ble_eq_true rfl) ?_
  refine g_aload_n 0 dX3_init_4 rfl rfl ?_
  refine g_new2 (n := 1) cf_2 rfl (by decide) (by simp [gset, gsL, h0, hL]) rfl (Nat.le_of_ble_eq_true rfl) (Nat.le_of_ble_eq_true rfl) wc_X3_9 wt_X1 wn_X1 dX3_init_5 (fun eD a j hj => def_2 _ 1 eD a j hj) (nr_low (fun m hm => by rw [hP m hm]; omega) (by simp [gset, gsL, h0, hL]) (by decide) (by simp [ownF, gup, gsA, filA_v, filA_ne, hz])) ⟨(by simp only [List.forall_mem_cons]; exact ⟨okv_r (by simp [gset, gsL, h0, hL]) (by decide), fun _ h => absurd h List.not_mem_nil⟩), (by simp only [List.forall_mem_cons]; exact ⟨okv_r (by simp [gset, gsL, h0, hL]) (by decide), fun _ h => absurd h List.not_mem_nil⟩)⟩ ?_
  rw [gz_id (fun j => by simp [gup, gsA, filA_v, filA_ne, hz])]
  refine g_dup dX3_init_8 (c1_r _) ?_
  refine g_cIB_v (My := mX1_init) (gs := []) (st := [gr 1, gr 0]) (c_X1_init (hP_set (fun m hm => by rw [hP m hm]; omega) (by omega)) (by simp [gset]) (fun m j h1 h2 => hz m j (by omega))) mfX1_init rfl rfl wi_X1_init wm_X3_11 dX3_init_9 (Nat.le_of_ble_eq_true rfl) rfl (fun _ => (Nat.le_of_ble_eq_true rfl)) (Nat.le_of_ble_eq_true rfl) (Nat.le_of_ble_eq_true rfl) rfl ⟨(by simp only [List.forall_mem_cons]; exact ⟨okv_r (by simp [gset, gsL, h0, hL]) (by decide), fun _ h => absurd h List.not_mem_nil⟩), (by simp only [List.forall_mem_cons]; exact ⟨okv_r (by simp [gset, gsL, h0, hL]) (by decide), okv_r (by simp [gset, gsL, h0, hL]) (by decide), fun _ h => absurd h List.not_mem_nil⟩)⟩ rfl ?_
  refine g_putfr cf_4 0 (n := 0) rfl (by decide) (by decide) rfl rfl (by decide) wf_X3_12 (Or.inr ⟨rfl, rfl, rfl⟩) (Or.inl ⟨_, rfl⟩) dX3_init_12 (by simp [gset, gsL, h0, hL]) ?_
  refine g_aload_n 0 dX3_init_15 rfl rfl ?_
  refine g_new2 (n := 2) cf_0 rfl (by decide) (by simp [gset, gsL, h0, hL]) rfl (Nat.le_of_ble_eq_true rfl) (Nat.le_of_ble_eq_true rfl) wc_X3_16 wt_Jx4a65c wn_Jx4a65c dX3_init_16 (fun eD a j hj => def_0 _ 2 eD a j hj) (nr_low (hP_set (hP_gsL (hP_set (fun m hm => by rw [hP m hm]; omega) (by omega)) (fun m h1 h2 => by omega)) (by omega)) (by simp [gset, gsL, h0, hL]) (by decide) (by simp [ownF, gup, gsA, filA_v, filA_ne, hz])) ⟨(by simp only [List.forall_mem_cons]; exact ⟨okv_r (by simp [gset, gsL, h0, hL]) (by decide), fun _ h => absurd h List.not_mem_nil⟩), (by simp only [List.forall_mem_cons]; exact ⟨okv_r (by simp [gset, gsL, h0, hL]) (by decide), fun _ h => absurd h List.not_mem_nil⟩)⟩ ?_
  rw [gz_id (fun j => by simp [gup, gsA, filA_v, filA_ne, hz])]
  refine g_dup dX3_init_19 (c1_r _) ?_
  refine g_cI_v (My := mJx4a65c_init_da8c8) (gs := []) (st := [gr 2, gr 0]) (c_AL_init (n := 2) rfl (by simp [gset, gsL, h0, hL])) mfJx4a65c_init_da8c8 rfl rfl wi_Jx4a65c_init_da8c8 wm_X3_18 dX3_init_20 (Nat.le_of_ble_eq_true rfl) rfl (fun _ => (Nat.le_of_ble_eq_true rfl)) (Nat.le_of_ble_eq_true rfl) (Nat.le_of_ble_eq_true rfl) rfl rfl ?_
  refine g_made (n := 2) rfl (by simp [gset, gsL, h0, hL]) (fun j hj hr => absurd hr (by show ¬ rfk 0 j = true; simp [rfk])) ?_
  refine g_putfr cf_4 1 (n := 0) rfl (by decide) (by decide) rfl rfl (by decide) wf_X3_19 (Or.inr ⟨rfl, rfl, rfl⟩) (Or.inl ⟨_, rfl⟩) dX3_init_23 (by simp [gset, gsL, h0, hL]) ?_
  refine g_aload_n 0 dX3_init_26 rfl rfl ?_
  refine g_new2 (n := 3) cf_0 rfl (by decide) (by simp [gset, gsL, h0, hL]) rfl (Nat.le_of_ble_eq_true rfl) (Nat.le_of_ble_eq_true rfl) wc_X3_16 wt_Jx4a65c wn_Jx4a65c dX3_init_27 (fun eD a j hj => def_0 _ 3 eD a j hj) (nr_low (hP_set (hP_set (hP_set (hP_gsL (hP_set (fun m hm => by rw [hP m hm]; omega) (by omega)) (fun m h1 h2 => by omega)) (by omega)) (by omega)) (by omega)) (by simp [gset, gsL, h0, hL]) (by decide) (by simp [ownF, gup, gsA, filA_v, filA_ne, hz])) ⟨(by simp only [List.forall_mem_cons]; exact ⟨okv_r (by simp [gset, gsL, h0, hL]) (by decide), fun _ h => absurd h List.not_mem_nil⟩), (by simp only [List.forall_mem_cons]; exact ⟨okv_r (by simp [gset, gsL, h0, hL]) (by decide), fun _ h => absurd h List.not_mem_nil⟩)⟩ ?_
  rw [gz_id (fun j => by simp [gup, gsA, filA_v, filA_ne, hz])]
  refine g_dup dX3_init_30 (c1_r _) ?_
  refine g_cI_v (My := mJx4a65c_init_da8c8) (gs := []) (st := [gr 3, gr 0]) (c_AL_init (n := 3) rfl (by simp [gset, gsL, h0, hL])) mfJx4a65c_init_da8c8 rfl rfl wi_Jx4a65c_init_da8c8 wm_X3_18 dX3_init_31 (Nat.le_of_ble_eq_true rfl) rfl (fun _ => (Nat.le_of_ble_eq_true rfl)) (Nat.le_of_ble_eq_true rfl) (Nat.le_of_ble_eq_true rfl) rfl rfl ?_
  refine g_made (n := 3) rfl (by simp [gset, gsL, h0, hL]) (fun j hj hr => absurd hr (by show ¬ rfk 0 j = true; simp [rfk])) ?_
  refine g_putfr cf_4 2 (n := 0) rfl (by decide) (by decide) rfl rfl (by decide) wf_X3_23 (Or.inr ⟨rfl, rfl, rfl⟩) (Or.inl ⟨_, rfl⟩) dX3_init_34 (by simp [gset, gsL, h0, hL]) ?_
  refine g_aload_n 0 dX3_init_37 rfl rfl ?_
  refine g_bipush dX3_init_38 (by decide) ?_
  refine g_newi2 (n := 6) 8 rfl (by decide) rfl (by simp [gset, gsL, h0, hL]) rfl (Nat.le_of_ble_eq_true rfl) (Nat.le_of_ble_eq_true rfl) wa_int dX3_init_40 (nr_low (hP_set (hP_set (hP_set (hP_set (hP_set (hP_gsL (hP_set (fun m hm => by rw [hP m hm]; omega) (by omega)) (fun m h1 h2 => by omega)) (by omega)) (by omega)) (by omega)) (by omega)) (by omega)) (by simp [gset, gsL, h0, hL]) (by decide) (by simp [ownF, gup, gsA, filA_v, filA_ne, hz])) ⟨(by simp only [List.forall_mem_cons]; exact ⟨okv_r (by simp [gset, gsL, h0, hL]) (by decide), fun _ h => absurd h List.not_mem_nil⟩), (by simp only [List.forall_mem_cons]; exact ⟨okv_r (by simp [gset, gsL, h0, hL]) (by decide), fun _ h => absurd h List.not_mem_nil⟩)⟩ ?_
  rw [gz_id (fun j => by simp [gup, gsA, filA_v, filA_ne, hz])]
  refine g_putfr cf_4 3 (n := 0) rfl (by decide) (by decide) rfl rfl (by decide) wf_X3_26 (Or.inr ⟨rfl, rfl, rfl⟩) (Or.inr ⟨_, rfl⟩) dX3_init_42 (by simp [gset, gsL, h0, hL]) ?_
  refine g_aload_n 0 dX3_init_45 rfl rfl ?_
  refine g_bipush dX3_init_46 (by decide) ?_
  refine g_newi2 (n := 7) 8 rfl (by decide) rfl (by simp [gset, gsL, h0, hL]) rfl (Nat.le_of_ble_eq_true rfl) (Nat.le_of_ble_eq_true rfl) wa_int dX3_init_48 (nr_low (hP_set (hP_set (hP_set (hP_set (hP_set (hP_set (hP_gsL (hP_set (fun m hm => by rw [hP m hm]; omega) (by omega)) (fun m h1 h2 => by omega)) (by omega)) (by omega)) (by omega)) (by omega)) (by omega)) (by omega)) (by simp [gset, gsL, h0, hL]) (by decide) (by simp [ownF, gup, gsA, filA_v, filA_ne, hz])) ⟨(by simp only [List.forall_mem_cons]; exact ⟨okv_r (by simp [gset, gsL, h0, hL]) (by decide), fun _ h => absurd h List.not_mem_nil⟩), (by simp only [List.forall_mem_cons]; exact ⟨okv_r (by simp [gset, gsL, h0, hL]) (by decide), fun _ h => absurd h List.not_mem_nil⟩)⟩ ?_
  rw [gz_id (fun j => by simp [gup, gsA, filA_v, filA_ne, hz])]
  refine g_putfr cf_4 4 (n := 0) rfl (by decide) (by decide) rfl rfl (by decide) wf_X3_30 (Or.inr ⟨rfl, rfl, rfl⟩) (Or.inr ⟨_, rfl⟩) dX3_init_50 (by simp [gset, gsL, h0, hL]) ?_
  refine g_aload_n 0 dX3_init_53 rfl rfl ?_
  refine g_bipush dX3_init_54 (by decide) ?_
  refine g_newi2 (n := 8) 8 rfl (by decide) rfl (by simp [gset, gsL, h0, hL]) rfl (Nat.le_of_ble_eq_true rfl) (Nat.le_of_ble_eq_true rfl) wa_int dX3_init_56 (nr_low (hP_set (hP_set (hP_set (hP_set (hP_set (hP_set (hP_set (hP_gsL (hP_set (fun m hm => by rw [hP m hm]; omega) (by omega)) (fun m h1 h2 => by omega)) (by omega)) (by omega)) (by omega)) (by omega)) (by omega)) (by omega)) (by omega)) (by simp [gset, gsL, h0, hL]) (by decide) (by simp [ownF, gup, gsA, filA_v, filA_ne, hz])) ⟨(by simp only [List.forall_mem_cons]; exact ⟨okv_r (by simp [gset, gsL, h0, hL]) (by decide), fun _ h => absurd h List.not_mem_nil⟩), (by simp only [List.forall_mem_cons]; exact ⟨okv_r (by simp [gset, gsL, h0, hL]) (by decide), fun _ h => absurd h List.not_mem_nil⟩)⟩ ?_
  rw [gz_id (fun j => by simp [gup, gsA, filA_v, filA_ne, hz])]
  refine g_putfr cf_4 5 (n := 0) rfl (by decide) (by decide) rfl rfl (by decide) wf_X3_33 (Or.inr ⟨rfl, rfl, rfl⟩) (Or.inr ⟨_, rfl⟩) dX3_init_58 (by simp [gset, gsL, h0, hL]) ?_
  refine g_aload_n 0 dX3_init_61 rfl rfl ?_
  refine g_iconst dX3_init_62 ?_
  refine g_newi2 (n := 9) 5 rfl (by decide) rfl (by simp [gset, gsL, h0, hL]) rfl (Nat.le_of_ble_eq_true rfl) (Nat.le_of_ble_eq_true rfl) wa_int dX3_init_63 (nr_low (hP_set (hP_set (hP_set (hP_set (hP_set (hP_set (hP_set (hP_set (hP_gsL (hP_set (fun m hm => by rw [hP m hm]; omega) (by omega)) (fun m h1 h2 => by omega)) (by omega)) (by omega)) (by omega)) (by omega)) (by omega)) (by omega)) (by omega)) (by omega)) (by simp [gset, gsL, h0, hL]) (by decide) (by simp [ownF, gup, gsA, filA_v, filA_ne, hz])) ⟨(by simp only [List.forall_mem_cons]; exact ⟨okv_r (by simp [gset, gsL, h0, hL]) (by decide), fun _ h => absurd h List.not_mem_nil⟩), (by simp only [List.forall_mem_cons]; exact ⟨okv_r (by simp [gset, gsL, h0, hL]) (by decide), fun _ h => absurd h List.not_mem_nil⟩)⟩ ?_
  rw [gz_id (fun j => by simp [gup, gsA, filA_v, filA_ne, hz])]
  refine g_putfr cf_4 6 (n := 0) rfl (by decide) (by decide) rfl rfl (by decide) wf_X3_36 (Or.inr ⟨rfl, rfl, rfl⟩) (Or.inr ⟨_, rfl⟩) dX3_init_65 (by simp [gset, gsL, h0, hL]) ?_
  refine g_aload_n 0 dX3_init_68 rfl rfl ?_
  refine g_getfr1 cf_4 6 (n := 0) rfl (by decide) (by decide) rfl (by decide) wf_X3_36 dX3_init_69 (by simp [gset, gsL, h0, hL]) (by simp [gup]) ?_
  refine g_sipush dX3_init_72 (by decide) ?_
  refine g_cT_v (My := mJ7_fill_53178) (gs := [_, _]) (c_J7_fill_53178 (n := 9) (N := 5) rfl (by decide) (by simp [gset]) (by omega)) mfJ7_fill_53178 wst_J7_fill_53178 wm_X3_39 dX3_init_75 (Nat.le_of_ble_eq_true rfl) rfl (fun _ => (Nat.le_of_ble_eq_true rfl)) (Nat.le_of_ble_eq_true rfl) (Nat.le_of_ble_eq_true rfl) rfl rfl ?_
  refine g_aload_n 0 dX3_init_78 rfl rfl ?_
  refine g_bipush dX3_init_79 (by decide) ?_
  refine g_newi2 (n := 10) 8 rfl (by decide) rfl (by simp [gset, gsL, h0, hL]) rfl (Nat.le_of_ble_eq_true rfl) (Nat.le_of_ble_eq_true rfl) wa_int dX3_init_81 (nr_low (hP_set (hP_set (hP_set (hP_set (hP_set (hP_set (hP_set (hP_set (hP_set (hP_gsL (hP_set (fun m hm => by rw [hP m hm]; omega) (by omega)) (fun m h1 h2 => by omega)) (by omega)) (by omega)) (by omega)) (by omega)) (by omega)) (by omega)) (by omega)) (by omega)) (by omega)) (by simp [gset, gsL, h0, hL]) (by decide) (by simp [ownF, gup, gsA, filA_v, filA_ne, hz])) ⟨(by simp only [List.forall_mem_cons]; exact ⟨okv_r (by simp [gset, gsL, h0, hL]) (by decide), fun _ h => absurd h List.not_mem_nil⟩), (by simp only [List.forall_mem_cons]; exact ⟨okv_r (by simp [gset, gsL, h0, hL]) (by decide), fun _ h => absurd h List.not_mem_nil⟩)⟩ ?_
  rw [gz_id (fun j => by simp [gup, gsA, filA_v, filA_ne, hz])]
  refine g_putfr cf_4 7 (n := 0) rfl (by decide) (by decide) rfl rfl (by decide) wf_X3_45 (Or.inr ⟨rfl, rfl, rfl⟩) (Or.inr ⟨_, rfl⟩) dX3_init_83 (by simp [gset, gsL, h0, hL]) ?_
  refine g_aload_n 0 dX3_init_86 rfl rfl ?_
  refine g_bipush dX3_init_87 (by decide) ?_
  refine g_newi2 (n := 11) 16 rfl (by decide) rfl (by simp [gset, gsL, h0, hL]) rfl (Nat.le_of_ble_eq_true rfl) (Nat.le_of_ble_eq_true rfl) wa_int dX3_init_89 (nr_low (hP_set (hP_set (hP_set (hP_set (hP_set (hP_set (hP_set (hP_set (hP_set (hP_set (hP_gsL (hP_set (fun m hm => by rw [hP m hm]; omega) (by omega)) (fun m h1 h2 => by omega)) (by omega)) (by omega)) (by omega)) (by omega)) (by omega)) (by omega)) (by omega)) (by omega)) (by omega)) (by omega)) (by simp [gset, gsL, h0, hL]) (by decide) (by simp [ownF, gup, gsA, filA_v, filA_ne, hz])) ⟨(by simp only [List.forall_mem_cons]; exact ⟨okv_r (by simp [gset, gsL, h0, hL]) (by decide), fun _ h => absurd h List.not_mem_nil⟩), (by simp only [List.forall_mem_cons]; exact ⟨okv_r (by simp [gset, gsL, h0, hL]) (by decide), fun _ h => absurd h List.not_mem_nil⟩)⟩ ?_
  rw [gz_id (fun j => by simp [gup, gsA, filA_v, filA_ne, hz])]
  refine g_putfr cf_4 8 (n := 0) rfl (by decide) (by decide) rfl rfl (by decide) wf_X3_48 (Or.inr ⟨rfl, rfl, rfl⟩) (Or.inr ⟨_, rfl⟩) dX3_init_91 (by simp [gset, gsL, h0, hL]) ?_
  refine g_made (n := 0) rfl (by simp [gset, gsL, h0, hL]) (fun j hj hr => ?_) ?_
  · have h9 : j < 10 := hj
    rcases (show j = 0 ∨ j = 1 ∨ j = 2 ∨ j = 3 ∨ j = 4 ∨ j = 5 ∨ j = 6 ∨ j = 7 ∨ j = 8 ∨ j = 9 by omega) with rfl | rfl | rfl | rfl | rfl | rfl | rfl | rfl | rfl | rfl <;> first | exact absurd hr (by decide) | simp [gup, filA_ne]
  · exact g_vret dX3_init_94 rfl (Nat.le_of_ble_eq_true rfl) (Nat.le_of_ble_eq_true rfl) ⟨rfl, rfl, rfl⟩
