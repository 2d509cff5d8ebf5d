theorem bornZ (A : Mem) (h : ∀ m j, A m j = 0) (n : Nat) : gz A n = A := gz_id (fun j => h n j)
theorem clsL_P : ∀ m, clsL (gset (fun _ => 0) 0 1) m ≠ 0 → m < 18 ∧ m ≠ 4 ∧ m ≠ 5 := by
  unfold clsL
  refine hP_set (hP_set (hP_set (hP_set (hP_set (hP_set (hP_set (hP_set (hP_set (hP_set (hP_set (hP_set (hP_gsL (hP_set (hP_set (fun m hm => absurd rfl hm) (by omega)) (by omega)) (fun m h1 h2 => by omega)) (by omega)) (by omega)) (by omega)) (by omega)) (by omega)) (by omega)) (by omega)) (by omega)) (by omega)) (by omega)) (by omega)) (by omega)
theorem clsA_hi {m : Nat} (h : 18 ≤ m) (j : Nat) : clsA (fun _ _ => 0) m j = 0 := by
  unfold clsA
  repeat (first | rw [gup_ne (by omega)] | rw [filA_ne _ _ _ _ (by omega)])
  rw [gsA_ne (by omega)]
theorem clsA_18 : clsA (fun _ _ => 0) 1 8 = 0 ∧ clsA (fun _ _ => 0) 1 6 = 0 := ⟨rfl, rfl⟩
section GSTART
variable {P : Pst} {b Ls : Nat} {xs : Nat → Int32}
set_option maxHeartbeats 2000000 in
set_option maxRecDepth 20000 in
theorem x_start (hLs : Ls ≤ 2560) (hP : ∀ (L : Nat → Nat) (A : Mem), P (.inr (some (gi 1))) L A) : GX (SX b Ls xs) mL_law P 0 0 0 [(0, gx b)] [] (fun _ => 0) (fun _ _ => 0) := by
  refine x_new2 (n := 0) (ls := [(0, gx b)]) (st := []) cf_4 rfl (by decide) rfl rfl (Nat.le_of_ble_eq_true rfl) (Nat.le_of_ble_eq_true rfl) wc_L_8 wt_X3 wn_X3 dL_law_0 (fun eD a j hj => def_4 _ _ eD a j hj) (fun m hm => absurd rfl hm) ⟨(by simp only [List.forall_mem_cons]; exact ⟨trivial, fun _ h => absurd h List.not_mem_nil⟩), fun _ h => absurd h List.not_mem_nil⟩ ?_
  rw [gz_id (fun j => rfl)]
  refine x_dup dL_law_3 (c1_r _) ?_
  refine x_cIB_v (My := mX3_init) (gs := []) (st := [gr 0]) (c_X3_init (hP_set (fun m hm => absurd rfl hm) rfl) rfl (fun m j h => rfl)) mfX3_init rfl rfl wi_X3_init wm_L_95 dL_law_4 (Nat.le_of_ble_eq_true rfl) rfl (fun _ => (Nat.le_of_ble_eq_true rfl)) (Nat.le_of_ble_eq_true rfl) (Nat.le_of_ble_eq_true rfl) rfl ⟨(by simp only [List.forall_mem_cons]; exact ⟨trivial, fun _ h => absurd h List.not_mem_nil⟩), (by simp only [List.forall_mem_cons]; exact ⟨okv_r (by decide) (by decide), fun _ h => absurd h List.not_mem_nil⟩)⟩ rfl ?_
  refine x_sa (ls2 := [(1, gr 0), (0, gx b)]) dL_law_7 rfl (by decide) (c1_cx c1_0) rfl ?_
  have hc0 : clsL (gset (fun _ => 0) 0 1) 0 = 2 := rfl
  have hc20 : clsL (gset (fun _ => 0) 0 1) 20 = 0 := rfl
  refine x_new2 (n := 20) (ls := [(1, gr 0), (0, gx b)]) (st := []) cf_5 rfl (by decide) hc20 rfl (Nat.le_of_ble_eq_true rfl) (Nat.le_of_ble_eq_true rfl) wc_L_96 wt_X4 wn_X4 dL_law_8 (fun eD a j hj => def_5 _ _ eD a j hj) (nr_low (fun m hm => by have := clsL_P m hm; omega) hc20 (by decide) clsA_18.1) ⟨(by simp only [List.forall_mem_cons]; exact ⟨okv_r (n2 hc0) (by decide), trivial, fun _ h => absurd h List.not_mem_nil⟩), fun _ h => absurd h List.not_mem_nil⟩ ?_
  rw [gz_id (fun j => clsA_hi (by decide) j)]
  refine x_dup dL_law_11 (c1_r _) ?_
  refine x_cIB_v (My := mX4_init) (gs := []) (st := [gr 20]) (c_X4_init (hP_set (fun m hm => by have := clsL_P m hm; omega) (by omega)) rfl (fun m j h1 h2 => clsA_hi (by omega) j)) mfX4_init rfl rfl wi_X4_init wm_L_98 dL_law_12 (Nat.le_of_ble_eq_true rfl) rfl (fun _ => (Nat.le_of_ble_eq_true rfl)) (Nat.le_of_ble_eq_true rfl) (Nat.le_of_ble_eq_true rfl) rfl ⟨(by simp only [List.forall_mem_cons]; exact ⟨okv_r (by rw [gset_ne (by decide), hc0]; decide) (by decide), trivial, fun _ h => absurd h List.not_mem_nil⟩), (by simp only [List.forall_mem_cons]; exact ⟨okv_r (by decide) (by decide), fun _ h => absurd h List.not_mem_nil⟩)⟩ rfl ?_
  refine x_sa (ls2 := [(2, gr 20), (1, gr 0), (0, gx b)]) dL_law_15 rfl (by decide) (c1_cr (c1_cx c1_0)) rfl ?_
  refine x_iconst dL_law_16 ?_
  have hlP : ∀ m, gset (gsL (gset (clsL (gset (fun _ => 0) 0 1)) 20 1) 21 5 37) 20 2 m ≠ 0 → m < 100 ∧ m ≠ 4 ∧ m ≠ 5 := hP_set (hP_gsL (hP_set (fun m hm => by have := clsL_P m hm; omega) (by omega)) (fun m h1 h2 => by omega)) (by omega)
  refine x_newl (n := 18) (ls := [(2, gr 20), (1, gr 0), (0, gx b)]) (st := []) rfl rfl rfl rfl (Nat.le_of_ble_eq_true rfl) (Nat.le_of_ble_eq_true rfl) dL_law_17 (nr_low hlP rfl (by decide) rfl) ⟨(by simp only [List.forall_mem_cons]; exact ⟨okv_r (by decide) (by decide), okv_r (by decide) (by decide), trivial, fun _ h => absurd h List.not_mem_nil⟩), fun _ h => absurd h List.not_mem_nil⟩ ?_
  rw [gz_id (fun j => by show bornA 18 j = 0; rw [bornA_v 18 j (by decide)]; exact ini_0 (by decide) j)]
  refine x_sa (ls2 := [(3, gr 18), (2, gr 20), (1, gr 0), (0, gx b)]) dL_law_19 rfl (by decide) (c1_cr (c1_cr (c1_cx c1_0))) rfl ?_
  refine x_iconst dL_law_20 ?_
  refine x_st2 (ls2 := [(4, gi 0), (3, gr 18), (2, gr 20), (1, gr 0), (0, gx b)]) dL_law_21 (by decide) (c1_cr (c1_cr (c1_cr (c1_cx c1_0)))) rfl ?_
  refine x_sub [4, 3, 2, 1, 0] (ls2 := [(0, gx b), (1, gr 0), (2, gr 20), (3, gr 18), (4, gi 0)]) rfl ?_
  refine x_gh (n := 17) (N := 100) (A' := fun m => if m = 17 then iniA 17 else bornA m) rfl (fun m hm => if_neg hm) (fun j hj => by rw [if_pos rfl]; exact (show iniA 17 j = -1 from rfl).trans (bornA_17 hj).symm) (fun j => by rw [if_pos rfl]; exact ⟨by show (-2147483648 : Int) ≤ -1; decide, by show (-1 : Int) < 2147483648; decide⟩) ?_
  refine x_gh (n := 28) (N := 100) (A' := iniA) rfl (fun m hm => ?_) (fun j hj => ?_) (fun j => ⟨by show (-2147483648 : Int) ≤ -1; decide, by show (-1 : Int) < 2147483648; decide⟩) ?_
  · by_cases e : m = 17
    · rw [if_pos e, e]
    · rw [if_neg e]; funext j; exact (bornA_v m j ⟨e, hm⟩).symm
  · rw [if_neg (by decide)]; exact (show iniA 28 j = -1 from rfl).trans (bornA_28 hj).symm
  exact x_loop hLs hP (Ls / 5) 0 _ _ iniL iniA (by omega) (by show (0 + 1 + 30 + 1 + 40 + 1) + 100 * (Ls / 5) ≤ 601024; omega) (by show (0 + 10 + 1200 + 37 + 4000 + 1) + 2000 * (Ls / 5) ≤ 7293034; omega) LI_ini
end GSTART

