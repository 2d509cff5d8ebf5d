/-- how many of the first cells f takes in, at most 16, and the row that lists them -/
def ldN (f : Nat → Bool) : Nat → Nat
  | 0 => 0
  | c + 1 => if ldN f c < 16 ∧ f c = true then ldN f c + 1 else ldN f c
def ldM (A : Mem) (f : Nat → Bool) : Nat → Mem
  | 0 => A
  | c + 1 => if ldN f c < 16 ∧ f c = true then gup (ldM A f c) 11 (ldN f c) c else ldM A f c
theorem ldN_le (f : Nat → Bool) (n : Nat) : ldN f n ≤ 16 := by
  induction n with
  | zero => simp [ldN]
  | succ n ih => simp only [ldN]; split <;> omega
theorem ldM_ne (A : Mem) (f : Nat → Bool) (n : Nat) {m : Nat} (h : m ≠ 11) : ldM A f n m = A m := by
  induction n with
  | zero => rfl
  | succ n ih =>
    simp only [ldM]
    split
    · rw [gup_ne h, ih]
    · exact ih
theorem ld_stay {A : Mem} {f : Nat → Bool} {i n : Nat} (h : ¬ ldN f i < 16) (hn : i ≤ n) : ldN f n = ldN f i ∧ ldM A f n = ldM A f i := by
  induction n with
  | zero => rw [show i = 0 by omega]; exact ⟨rfl, rfl⟩
  | succ n ih =>
    by_cases e : i = n + 1
    · rw [e]; exact ⟨rfl, rfl⟩
    · have h1 := ih (by omega)
      simp only [ldN, ldM]
      rw [if_neg (by rw [h1.1]; exact fun q => h q.1), if_neg (by rw [h1.1]; exact fun q => h q.1)]
      exact h1
theorem covC_cg {B B' : Mem} (h : ∀ n, n ≠ 11 → B' n = B n) (x : Int) (k : Nat) : covC B' x k = covC B x k := by unfold covC; rw [h _ (by omega)]
theorem livC_cg {B B' : Mem} (h : ∀ n, n ≠ 11 → B' n = B n) (k : Nat) : livC B' k = livC B k := by unfold livC; rw [h 0 (by omega), h (100 + 3 * k) (by omega)]
theorem hldC_cg {B B' : Mem} (h : ∀ n, n ≠ 11 → B' n = B n) (x : Int) : hldC B' x = hldC B x := by
  unfold hldC
  rw [show covC B' x = covC B x from funext (covC_cg h x), show livC B' = livC B from funext (livC_cg h), show (fun k => B' (100 + 3 * k) 5) = fun k => B (100 + 3 * k) 5 from funext (fun k => by rw [h _ (by omega)]), h 2 (by omega)]
theorem opB_cg {B B' : Mem} (h : ∀ n, n ≠ 11 → B' n = B n) (x : Int) : opB B' x = opB B x := by unfold opB; rw [h 12 (by omega)]
/-- the cells that a claim's plan may dig -/
def ldF (A : Mem) (k : Nat) (c : Nat) : Bool := decide (covC A c k = true ∧ opB A c = false ∧ hldC A c = k)

set_option maxHeartbeats 1000000 in
set_option maxRecDepth 20000 in
theorem c_X3_listDiggable {L : Nat → Nat} {A : Mem} (hV : VC L A) {k : Nat} (hk : (k : Int) < A 2 2) : Ct mX3_listDiggable [gr 0, gi (k : Int)] L A (pr (some (gi (ldN (ldF A k) 100 : Nat))) L (ldM A (ldF A k) 100)) := by
  have hL := vc_L hV
  have hnc := vc_nc hV; have hns := vc_ns hV; have hp0 := (vc_p hV).1
  have hk12 := vc_k hV hk
  refine Ct_of (ls := [(0, _), (1, _)]) rfl (by decide) (fun _ => rfl) (fun _ => Nat.le_of_ble_eq_true rfl) ?_
  refine g_iconst dX3_listDiggable_0 ?_
  refine g_st (ls2 := [(2, _), (0, _), (1, _)]) dX3_listDiggable_1 rfl (by decide) (c1_cr (c1_ci c1_0)) rfl ?_
  refine g_iconst dX3_listDiggable_2 ?_
  refine g_st (ls2 := [(3, _), (2, _), (0, _), (1, _)]) dX3_listDiggable_3 rfl (by decide) (c1_ci (c1_cr (c1_ci c1_0))) rfl ?_
  refine g_sub [2, 3, 1, 0] (ls2 := [(0, _), (1, _), (2, _), (3, _)]) rfl ?_
  have hQ4 : (fun i : Nat => GW mX3_listDiggable (pr (some (gi (ldN (ldF A k) 100 : Nat))) L (ldM A (ldF A k) 100)) 0 0 4 [(0, gr (0)), (1, gi ((k : Int))), (2, gi ((ldN (ldF A k) i : Int))), (3, gi ((i : Int)))] [] L (ldM A (ldF A k) i)) 0 := by
    refine lp_up (Q := (fun i : Nat => GW mX3_listDiggable (pr (some (gi (ldN (ldF A k) 100 : Nat))) L (ldM A (ldF A k) 100)) 0 0 4 [(0, gr (0)), (1, gi ((k : Int))), (2, gi ((ldN (ldF A k) i : Int))), (3, gi ((i : Int)))] [] L (ldM A (ldF A k) i))) (n := 100) ?_ (fun i hi4 ih4 => ?_)
    · skip
      have hle := ldN_le (ldF A k) 100
      refine g_iload_n 3 dX3_listDiggable_4 rfl rfl ?_
      refine g_bipush dX3_listDiggable_5 (by decide) ?_
      refine g_icmp_ge (tgt := 67) (by omega) (by omega) dX3_listDiggable_7 (by decide) (fun h7_1 => ?_) (fun h7_1 => absurd h7_1 (by omega))
      refine g_iload_n 2 dX3_listDiggable_67 rfl rfl ?_
      exact g_iret dX3_listDiggable_68 rfl (Nat.le_of_ble_eq_true rfl) (Nat.le_of_ble_eq_true rfl) (pr_i (by first | exact congrArg (fun z : Nat => (z : Int)) (ld_stay (A := A) (f := ldF A k) (i := i) (n := 100) (by omega) (Nat.le_of_lt hi4)).1.symm | rfl) (by first | exact (ld_stay (A := A) (f := ldF A k) (i := i) (n := 100) (by omega) (Nat.le_of_lt hi4)).2.symm | rfl))
    · skip
      have hne : ∀ n, n ≠ 11 → ldM A (ldF A k) i n = A n := fun n h => ldM_ne A _ i h
      have hVi : VC L (ldM A (ldF A k) i) := vc_cg (fun n q => hne n (by omega)) hV
      have hki : (k : Int) < ldM A (ldF A k) i 2 2 := by rw [hne 2 (by omega)]; exact hk
      have hle := ldN_le (ldF A k) i
      refine g_iload_n 3 dX3_listDiggable_4 rfl rfl ?_
      refine g_bipush dX3_listDiggable_5 (by decide) ?_
      refine g_icmp_ge (tgt := 67) (by omega) (by omega) dX3_listDiggable_7 (by decide) (fun h7_2 => absurd h7_2 (by omega)) (fun h7_2 => ?_)
      refine g_iload_n 2 dX3_listDiggable_10 rfl rfl ?_
      refine g_aload_n 0 dX3_listDiggable_11 rfl rfl ?_
      refine g_getfr2 (r := 11) cf_4 8 rfl (by decide) (by decide) rfl (by decide) wf_X3_48 dX3_listDiggable_12 (hL 0 rfl) rfl ?_
      refine g_alen rfl (by decide) dX3_listDiggable_15 (n2 (hL 11 rfl)) ?_
      refine g_icmp_ge (tgt := 67) (by omega) (by omega) dX3_listDiggable_16 (by decide) (fun h16_3 => ?_) (fun h16_3 => ?_)
      · skip
        refine g_iload_n 2 dX3_listDiggable_67 rfl rfl ?_
        exact g_iret dX3_listDiggable_68 rfl (Nat.le_of_ble_eq_true rfl) (Nat.le_of_ble_eq_true rfl) (pr_i (by first | exact congrArg (fun z : Nat => (z : Int)) (ld_stay (A := A) (f := ldF A k) (i := i) (n := 100) (by omega) (Nat.le_of_lt hi4)).1.symm | rfl) (by first | exact (ld_stay (A := A) (f := ldF A k) (i := i) (n := 100) (by omega) (Nat.le_of_lt hi4)).2.symm | rfl))
      · skip
        refine g_aload_n 0 dX3_listDiggable_19 rfl rfl ?_
        refine g_iload_n 1 dX3_listDiggable_20 rfl rfl ?_
        refine g_cV_i (My := mX3_claimAt) (gs := [_]) (c_X3_claimAt hVi hki) mfX3_claimAt cf_4 wi_X3_claimAt wsl_X3_claimAt wm_X3_112 dX3_listDiggable_21 (Nat.le_of_ble_eq_true rfl) rfl (by decide) (n2 (hL 0 rfl)) rfl (fun _ => Nat.le_of_ble_eq_true rfl) (Nat.le_of_ble_eq_true rfl) (Nat.le_of_ble_eq_true rfl) rfl rfl ?_
        refine g_iload_n 3 dX3_listDiggable_24 rfl rfl ?_
        refine g_cV_i (My := mX0_covers) (gs := [_]) (c_X0_covers (A := ldM A (ldF A k) i) hk12 (vc_c hV hk) (vc_cv hVi hki).2.1 (x := (i : Int)) (by omega)) mfX0_covers cf_1 wi_X0_covers wsl_X0_covers wm_X3_372 dX3_listDiggable_25 (Nat.le_of_ble_eq_true rfl) (ly_c0 hk12) (by decide) (n2 (vc_c hV hk).1) rfl (fun _ => Nat.le_of_ble_eq_true rfl) (Nat.le_of_ble_eq_true rfl) (Nat.le_of_ble_eq_true rfl) rfl rfl ?_
        refine g_top (y := b2 (covC A i k)) (congrArg b2 (covC_cg hne i k)) ?_
        refine g_ifb_eq (tgt := 61) dX3_listDiggable_28 (by decide) (fun h28_4 => ?_) (fun h28_4 => ?_)
        · skip
          refine g_inc (ls2 := [(3, _), (0, _), (1, _), (2, _)]) 3 dX3_listDiggable_61 rfl (by decide) (c1_cr (c1_ci (c1_ci (c1_ci c1_0)))) rfl ?_
          refine g_goto (tgt := 4) dX3_listDiggable_64 (by decide) ?_
          refine g_sub [1, 2, 3, 0] (ls2 := [(0, _), (1, _), (2, _), (3, _)]) rfl ?_
          first | exact g_ls (by simp only [ldN]; rw [if_pos ⟨by omega, by unfold ldF; simp [*]⟩]; rfl) rfl (by simp only [ldM]; rw [if_pos ⟨by omega, by unfold ldF; simp [*]⟩]) ih4 | exact g_ls (by simp only [ldN]; rw [if_neg (fun q => by have q2 := q.2; unfold ldF at q2; simp [*] at q2)]; rfl) rfl (by simp only [ldM]; rw [if_neg (fun q => by have q2 := q.2; unfold ldF at q2; simp [*] at q2)]) ih4
        · skip
          refine g_aload_n 0 dX3_listDiggable_31 rfl rfl ?_
          refine g_getfr2 (r := 1) cf_4 0 rfl (by decide) (by decide) rfl (by decide) wf_X3_12 dX3_listDiggable_32 (hL 0 rfl) rfl ?_
          refine g_iload_n 3 dX3_listDiggable_35 rfl rfl ?_
          refine g_cV_i (My := mX1_isOpen) (gs := [_]) (c_X1_isOpen (A := ldM A (ldF A k) i) hL (x := (i : Int)) (by omega)) mfX1_isOpen cf_2 wi_X1_isOpen wsl_X1_isOpen wm_X3_154 dX3_listDiggable_36 (Nat.le_of_ble_eq_true rfl) rfl (by decide) (n2 (hL 1 rfl)) rfl (fun _ => Nat.le_of_ble_eq_true rfl) (Nat.le_of_ble_eq_true rfl) (Nat.le_of_ble_eq_true rfl) rfl rfl ?_
          refine g_top (y := b2 (opB A i)) (congrArg b2 (opB_cg hne i)) ?_
          refine g_ifb_ne (tgt := 61) dX3_listDiggable_39 (by decide) (fun h39_5 => ?_) (fun h39_5 => ?_)
          · skip
            refine g_inc (ls2 := [(3, _), (0, _), (1, _), (2, _)]) 3 dX3_listDiggable_61 rfl (by decide) (c1_cr (c1_ci (c1_ci (c1_ci c1_0)))) rfl ?_
            refine g_goto (tgt := 4) dX3_listDiggable_64 (by decide) ?_
            refine g_sub [1, 2, 3, 0] (ls2 := [(0, _), (1, _), (2, _), (3, _)]) rfl ?_
            first | exact g_ls (by simp only [ldN]; rw [if_pos ⟨by omega, by unfold ldF; simp [*]⟩]; rfl) rfl (by simp only [ldM]; rw [if_pos ⟨by omega, by unfold ldF; simp [*]⟩]) ih4 | exact g_ls (by simp only [ldN]; rw [if_neg (fun q => by have q2 := q.2; unfold ldF at q2; simp [*] at q2)]; rfl) rfl (by simp only [ldM]; rw [if_neg (fun q => by have q2 := q.2; unfold ldF at q2; simp [*] at q2)]) ih4
          · skip
            refine g_aload_n 0 dX3_listDiggable_42 rfl rfl ?_
            refine g_iload_n 3 dX3_listDiggable_43 rfl rfl ?_
            refine g_cV_i (My := mX3_holderOf) (gs := [_]) (c_X3_holderOf hVi (x := (i : Int)) (by omega)) mfX3_holderOf cf_4 wi_X3_holderOf wsl_X3_holderOf wm_X3_189 dX3_listDiggable_44 (Nat.le_of_ble_eq_true rfl) rfl (by decide) (n2 (hL 0 rfl)) rfl (fun _ => Nat.le_of_ble_eq_true rfl) (Nat.le_of_ble_eq_true rfl) (Nat.le_of_ble_eq_true rfl) rfl rfl ?_
            refine g_top (y := hldC A i) (hldC_cg hne i) ?_
            have hhr := hldC_rg hV (i : Int)
            refine g_iload_n 1 dX3_listDiggable_47 rfl rfl ?_
            refine g_icmp_ne (tgt := 61) (by omega) (by omega) dX3_listDiggable_48 (by decide) (fun h48_6 => ?_) (fun h48_6 => ?_)
            · skip
              refine g_inc (ls2 := [(3, _), (0, _), (1, _), (2, _)]) 3 dX3_listDiggable_61 rfl (by decide) (c1_cr (c1_ci (c1_ci (c1_ci c1_0)))) rfl ?_
              refine g_goto (tgt := 4) dX3_listDiggable_64 (by decide) ?_
              refine g_sub [1, 2, 3, 0] (ls2 := [(0, _), (1, _), (2, _), (3, _)]) rfl ?_
              first | exact g_ls (by simp only [ldN]; rw [if_pos ⟨by omega, by unfold ldF; simp [*]⟩]; rfl) rfl (by simp only [ldM]; rw [if_pos ⟨by omega, by unfold ldF; simp [*]⟩]) ih4 | exact g_ls (by simp only [ldN]; rw [if_neg (fun q => by have q2 := q.2; unfold ldF at q2; simp [*] at q2)]; rfl) rfl (by simp only [ldM]; rw [if_neg (fun q => by have q2 := q.2; unfold ldF at q2; simp [*] at q2)]) ih4
            · skip
              refine g_aload_n 0 dX3_listDiggable_51 rfl rfl ?_
              refine g_getfr2 (r := 11) cf_4 8 rfl (by decide) (by decide) rfl (by decide) wf_X3_48 dX3_listDiggable_52 (hL 0 rfl) rfl ?_
              refine g_iload_n 2 dX3_listDiggable_55 rfl rfl ?_
              refine g_iload_n 3 dX3_listDiggable_56 rfl rfl ?_
              refine g_iast (ldN (ldF A k) i) (by omega) (by omega) (by omega) rfl (by decide) dX3_listDiggable_57 (n2 (hL 11 rfl)) ?_
              refine g_inc (ls2 := [(2, _), (0, _), (1, _), (3, _)]) 2 dX3_listDiggable_58 rfl (by decide) (c1_cr (c1_ci (c1_ci (c1_ci c1_0)))) rfl ?_
              refine g_inc (ls2 := [(3, _), (2, _), (0, _), (1, _)]) 3 dX3_listDiggable_61 rfl (by decide) (c1_ci (c1_cr (c1_ci (c1_ci c1_0)))) rfl ?_
              refine g_goto (tgt := 4) dX3_listDiggable_64 (by decide) ?_
              refine g_sub [2, 3, 1, 0] (ls2 := [(0, _), (1, _), (2, _), (3, _)]) rfl ?_
              first | exact g_ls (by simp only [ldN]; rw [if_pos ⟨by omega, by unfold ldF; simp [*]⟩]; rfl) rfl (by simp only [ldM]; rw [if_pos ⟨by omega, by unfold ldF; simp [*]⟩]) ih4 | exact g_ls (by simp only [ldN]; rw [if_neg (fun q => by have q2 := q.2; unfold ldF at q2; simp [*] at q2)]; rfl) rfl (by simp only [ldM]; rw [if_neg (fun q => by have q2 := q.2; unfold ldF at q2; simp [*] at q2)]) ih4
  exact g_ls (by rfl) rfl rfl hQ4

