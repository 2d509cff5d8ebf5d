def capX (A : Mem) (n k : Nat) : Int := if k = 0 then 10 else (capF k (A (n + 2) 0).toNat : Nat)
def addM (A : Mem) (n k : Nat) : Mem := gup (gup (gup (gup (gup A n 0 (A n 0 + 1)) (n + 2) 0 (capX A n k)) n 1 2) (n + 2) 1 ((k : Int) + 1)) n 2 ((k : Int) + 1)
theorem addM_ne {A : Mem} {n k m : Nat} (h1 : m ≠ n) (h2 : m ≠ n + 2) : addM A n k m = A m := by unfold addM; rw [gup_ne h1, gup_ne h2, gup_ne h1, gup_ne h2, gup_ne h1]
theorem capF_le {k c : Nat} (h : k ≤ c) (hk : k ≤ 99) (hc : c ≤ 150) : k + 1 ≤ capF k c ∧ capF k c ≤ 150 := by
  unfold capF
  by_cases e : k = c
  · rw [if_pos e]; split <;> omega
  · rw [if_neg e]; omega
theorem c_addX {L : Nat → Nat} {A : Mem} {n ci k N9 : Nat} (hn : n = 2 ∨ n = 3) (hE : k = 0 → LsE L A n) (hF : 0 < k → LsF L A n ci) (hk : A n 2 = k) (hk1 : k ≤ 99) (hci : (ci = 1 ∧ N9 = 10) ∨ (ci = 3 ∧ N9 = 11)) (hx : L (eln (n + 2) k) = 2) (hyx : ly (eln (n + 2) k) = (ci, N9)) (hm : 0 ≤ A n 0 ∧ A n 0 ≤ 1000) :
    Ct mJx4a65c_add_9ea2d [gr n, gr (eln (n + 2) k)] L A (pr (some (gi 1)) (gset L (n + 2) 2) (addM A n k)) := by
  by_cases h0 : k = 0
  · subst h0
    have h := c_addE hn (hE rfl) hci hx hyx hm
    have e : addM A n 0 = gup (gup (gup (gup (gup A n 0 (A n 0 + 1)) (n + 2) 0 10) n 1 2) (n + 2) 1 1) n 2 1 := by unfold addM capX; rfl
    rw [e]; exact h
  · have hf := hF (by omega)
    have h := c_addF (c9 := (A (n + 2) 0).toNat) hn hf hk (by have := hf.2.2.2.2.2.1; omega) hk1 hci hx hyx hm
    have eL : gset L (n + 2) 2 = L := by funext x; by_cases e : x = n + 2 <;> simp [gset, e, hf.2.1]
    have e : addM A n k = gup (gup (gup (gup A n 0 (A n 0 + 1)) (n + 2) 0 (capF k (A (n + 2) 0).toNat)) (n + 2) 1 ((k : Int) + 1)) n 2 ((k : Int) + 1) := by
      have h1 := hf.2.2.1
      unfold addM capX
      rw [if_neg h0]
      funext m j
      simp only [gup_ap]
      by_cases hc : m = n ∧ j = 1
      · obtain ⟨rfl, rfl⟩ := hc
        simp [h1]
      · simp only [hc, if_false]
    rw [eL, e]; exact h
/-- what lives and what the lists hold, beside VC -/
def XC (L : Nat → Nat) (A : Mem) : Prop :=
  (∀ n, 100 + 3 * (A 2 2).toNat ≤ n → n < 200 → L n = 0 ∧ ∀ j, A n j = 0) ∧ (∀ n, 200 + 3 * (A 3 2).toNat ≤ n → L n = 0 ∧ ∀ j, A n j = 0) ∧
  (A 2 2 = 0 → LsE L A 2) ∧ (A 3 2 = 0 → LsE L A 3) ∧ (0 < A 2 2 → L 4 = 2 ∧ A 4 0 ≤ 150) ∧ (0 < A 3 2 → L 5 = 2 ∧ A 5 0 ≤ 150) ∧ A 2 0 = A 2 2 ∧ A 3 0 = A 3 2
theorem xc_F2 {L : Nat → Nat} {A : Mem} (hV : VC L A) (hX : XC L A) (h : 0 < A 2 2) : LsF L A 2 1 := by
  have hl := hV.2.2.2.1 h
  have h4 := hX.2.2.2.2.1 h
  refine ⟨hl.1, h4.1, hl.2.2.1, hl.2.2.2.1, h, hl.2.2.2.2.1, h4.2, Or.inl rfl, fun j hj => ?_⟩
  have := vc_c hV hj
  exact ⟨by show L (100 + 3 * j) ≠ 0; rw [this.1]; decide, 10, ly_c0 (vc_k hV hj)⟩
theorem xc_F3 {L : Nat → Nat} {A : Mem} (hV : VC L A) (hX : XC L A) (h : 0 < A 3 2) : LsF L A 3 3 := by
  have hl := hV.2.2.2.2.1 h
  have h4 := hX.2.2.2.2.2.1 h
  refine ⟨hl.1, h4.1, hl.2.2.1, hl.2.2.2.1, h, hl.2.2.2.2.1, h4.2, Or.inr rfl, fun j hj => ?_⟩
  have := vc_s hV hj
  exact ⟨by show L (200 + 3 * j) ≠ 0; rw [this.1]; decide, 11, ly_s0 j⟩
/-- the names of a claim, of a stone live, and the list's row -/
def pegL (L : Nat → Nat) (k : Nat) : Nat → Nat := fun m => if m = 4 ∨ (100 + 3 * k ≤ m ∧ m ≤ 102 + 3 * k) then 2 else L m
def stoL (L : Nat → Nat) (s : Nat) : Nat → Nat := fun m => if m = 5 ∨ (200 + 3 * s ≤ m ∧ m ≤ 202 + 3 * s) then 2 else L m
theorem pegL_eq (L : Nat → Nat) (k : Nat) : gset (gset (gset (gset (gset L (100 + 3 * k) 1) (101 + 3 * k) 2) (102 + 3 * k) 2) (100 + 3 * k) 2) 4 2 = pegL L k := by
  funext m
  unfold pegL gset
  by_cases h : m = 4 ∨ (100 + 3 * k ≤ m ∧ m ≤ 102 + 3 * k)
  · rw [if_pos h]
    rcases (show m = 4 ∨ m = 100 + 3 * k ∨ m = 101 + 3 * k ∨ m = 102 + 3 * k by omega) with e | e | e | e <;> simp [e]
  · rw [if_neg h, if_neg (by omega), if_neg (by omega), if_neg (by omega), if_neg (by omega), if_neg (by omega)]
theorem stoL_eq (L : Nat → Nat) (s : Nat) : gset (gset (gset (gset (gset L (200 + 3 * s) 1) (201 + 3 * s) 2) (202 + 3 * s) 2) (200 + 3 * s) 2) 5 2 = stoL L s := by
  funext m
  unfold stoL gset
  by_cases h : m = 5 ∨ (200 + 3 * s ≤ m ∧ m ≤ 202 + 3 * s)
  · rw [if_pos h]
    rcases (show m = 5 ∨ m = 200 + 3 * s ∨ m = 201 + 3 * s ∨ m = 202 + 3 * s by omega) with e | e | e | e <;> simp [e]
  · rw [if_neg h, if_neg (by omega), if_neg (by omega), if_neg (by omega), if_neg (by omega), if_neg (by omega)]
theorem clmA_ne {A : Mem} {s m : Nat} {p x r c w : Int} (h : m < 100 + 3 * s ∨ 102 + 3 * s < m) : clmA A s p x r c w m = A m := by
  unfold clmA
  rw [filA_ne _ _ _ _ (by omega), gup_ne (by omega)]
  unfold clmB
  repeat (first | rw [gup_ne (by omega)] | rw [gz_ne (by omega)])
theorem stnA_ne {A : Mem} {s m : Nat} {c w d k p : Int} (h : m < 200 + 3 * s ∨ 202 + 3 * s < m) : stnA A s c w d k p m = A m := by
  unfold stnA
  repeat (first | rw [gup_ne (by omega)] | rw [gz_ne (by omega)])
def pegC (A : Mem) (k : Nat) (p x r c : Int) : Mem := addM (clmA A k p x r c (A 0 9)) 2 k
abbrev mX3_pegB : MD := (yX3_peg, cX3_peg, 5, (some .int), 10, 4, 300, true, [])

theorem fx_lt : ∀ n, n < 100 → fxC n = true → n < 18 ∧ n ≠ 4 ∧ n ≠ 5 := by decide +kernel
theorem lc_keep {L L2 : Nat → Nat} (hL : LC L) (h : ∀ n, fxC n = true → L2 n = L n) : LC L2 := fun n hn => by rw [h n hn]; exact hL n hn
theorem xc_4 {L : Nat → Nat} {A : Mem} (hV : VC L A) (hX : XC L A) {k : Nat} (hk : A 2 2 = k) : L 4 ≠ 0 → A 4 1 ≤ k := fun h => by
  by_cases h0 : A 2 2 = 0
  · exact absurd (hX.2.2.1 h0).2.1 h
  · have hv := hV.2.1
    have := (hV.2.2.2.1 (by omega)).2.2.2.1
    have h9 : A 4 1 = A 2 2 := this
    omega
theorem xc_5 {L : Nat → Nat} {A : Mem} (hV : VC L A) (hX : XC L A) {k : Nat} (hk : A 3 2 = k) : L 5 ≠ 0 → A 5 1 ≤ k := fun h => by
  by_cases h0 : A 3 2 = 0
  · exact absurd (hX.2.2.2.1 h0).2.1 h
  · have hv := hV.2.2.1
    have := (hV.2.2.2.2.1 (by omega)).2.2.2.1
    have h9 : A 5 1 = A 3 2 := this
    omega
set_option maxHeartbeats 1000000 in
set_option maxRecDepth 20000 in
theorem t_peg {P : Pst} {L : Nat → Nat} {A : Mem} {k : Nat} {p x r c : Int} (hV : VC L A) (hX : XC L A) (hk : A 2 2 = k) (hk12 : k < 12) (hp : 0 ≤ p ∧ p < 8) (hx : 0 ≤ x ∧ x < 100) (hr : -2147483648 ≤ r ∧ r < 2147483648) (hc : -2147483648 ≤ c ∧ c < 2147483648) (hw : -2147483648 ≤ A 0 9 ∧ A 0 9 < 2147483648)
    (hP : P (.inr (some (gi (k : Int)))) (pegL L k) (pegC A k p x r c)) : GW mX3_pegB P 0 0 81 [(0, gr 0), (1, gi p), (2, gi x), (3, gi r), (4, gi c)] [] L A := by
  have hL := vc_L hV
  have h0 : L 0 = 2 := hL 0 rfl
  have h2 : L 2 = 2 := hL 2 rfl
  have hd0 : ∀ n, 100 + 3 * k ≤ n → n < 200 → L n = 0 := fun n h1 h2 => (hX.1 n (by omega) h2).1
  have hz0 : ∀ n, 100 + 3 * k ≤ n → n < 200 → ∀ j, A n j = 0 := fun n h1 h2 => (hX.1 n (by omega) h2).2
  have hne : ∀ m, m < 100 → (gset (gset (gset (gset L (100 + 3 * k) 1) (101 + 3 * k) 2) (102 + 3 * k) 2) (100 + 3 * k) 2) m = L m := fun m hm => by rw [gset_ne (by omega), gset_ne (by omega), gset_ne (by omega), gset_ne (by omega)]
  have hne2 : ∀ m, m < 100 + 3 * k → (gset (gset (gset (gset L (100 + 3 * k) 1) (101 + 3 * k) 2) (102 + 3 * k) 2) (100 + 3 * k) 2) m = L m := fun m hm => by rw [gset_ne (by omega), gset_ne (by omega), gset_ne (by omega), gset_ne (by omega)]
  refine g_aload_n 0 dX3_peg_81 rfl rfl ?_
  refine g_getfr cf_4 1 (n := 0) rfl (by decide) (by decide) rfl (by decide) wf_X3_19 dX3_peg_82 h0 ?_
  refine g_new2 (n := 100 + 3 * k) cf_1 (ly_c0 hk12) (by decide) (hd0 _ (by omega) (by omega)) rfl (Nat.le_of_ble_eq_true rfl) (Nat.le_of_ble_eq_true rfl) wc_X3_103 wt_X0 wn_X0 dX3_peg_85 (fun eD a j hj => def_1 _ _ eD a j hj) (nr_claim (s := k) (t := 0) (by omega) (by omega) hk12 (fun m h1 h2 => hd0 m (by omega) h2) (xc_4 hV hX hk) (fun h => absurd h (by omega))) ⟨(by simp only [List.forall_mem_cons]; exact ⟨okv_r (n2 h0) (by decide), okv_i _, okv_i _, okv_i _, okv_i _, fun _ h => absurd h List.not_mem_nil⟩), (by simp only [List.forall_mem_cons]; exact ⟨okv_r (n2 h2) (by decide), fun _ h => absurd h List.not_mem_nil⟩)⟩ ?_
  rw [gz_id (hz0 _ (by omega) (by omega))]
  refine g_dup dX3_peg_88 (c1_r _) ?_
  refine g_iload_n 1 dX3_peg_89 rfl rfl ?_
  refine g_iload_n 2 dX3_peg_90 rfl rfl ?_
  refine g_iload_n 3 dX3_peg_91 rfl rfl ?_
  refine g_iload 4 dX3_peg_92 rfl ?_
  refine g_aload_n 0 dX3_peg_94 rfl rfl ?_
  refine g_getfi cf_4 9 (n := 0) rfl (by decide) (by decide) rfl (by decide) wf_X3_80 dX3_peg_95 (by rw [gset_ne (by omega)]; exact n2 h0) (fun _ => ?_)
  refine g_cIB_v (My := mX0_init) (gs := [_, _, _, _, _]) (st := [gr (100 + 3 * k), gr 2]) (c_X0_init hk12 hp hx hr hc hw gset_eq (fun n h1 h2 => by rw [gset_ne (by omega)]; exact hd0 n (by omega) h2) (fun h => by rw [gset_ne (by omega)] at h; exact xc_4 hV hX hk h) (hz0 _ (by omega) (by omega))) mfX0_init rfl rfl wi_X0_init wm_X3_105 dX3_peg_98 (Nat.le_of_ble_eq_true rfl) rfl (fun _ => Nat.le_of_ble_eq_true rfl) (Nat.le_of_ble_eq_true rfl) (Nat.le_of_ble_eq_true rfl) rfl ⟨(by simp only [List.forall_mem_cons]; exact ⟨okv_r (by rw [gset_ne (by omega)]; exact n2 h0) (by decide), okv_i _, okv_i _, okv_i _, okv_i _, fun _ h => absurd h List.not_mem_nil⟩), (by simp only [List.forall_mem_cons]; exact ⟨okv_r (by rw [gset_eq]; decide) (by rw [ly_c0 hk12]; decide), okv_r (by rw [gset_ne (by omega)]; exact n2 h2) (by decide), fun _ h => absurd h List.not_mem_nil⟩)⟩ rfl ?_
  have hC := c_addX (L := gset (gset (gset (gset L (100 + 3 * k) 1) (101 + 3 * k) 2) (102 + 3 * k) 2) (100 + 3 * k) 2) (A := clmA A k p x r c (A 0 9)) (n := 2) (ci := 1) (k := k) (N9 := 10) (Or.inl rfl)
    (fun e => by
      have h := hX.2.2.1 (by omega)
      refine ⟨?_, ?_, ?_, ?_, ?_⟩
      · rw [hne 2 (by decide)]; exact h.1
      · rw [hne (2 + 2) (by decide)]; exact h.2.1
      · rw [clmA_ne (by omega)]; exact h.2.2.1
      · rw [clmA_ne (by omega)]; exact h.2.2.2.1
      · rw [clmA_ne (by omega)]; exact h.2.2.2.2)
    (fun e => by
      have h := xc_F2 hV hX (by omega)
      refine ⟨?_, ?_, ?_, ?_, ?_, ?_, ?_, Or.inl rfl, ?_⟩
      · rw [hne 2 (by decide)]; exact h.1
      · rw [hne (2 + 2) (by decide)]; exact h.2.1
      · rw [clmA_ne (by omega)]; exact h.2.2.1
      · rw [clmA_ne (by omega), clmA_ne (by omega)]; exact h.2.2.2.1
      · rw [clmA_ne (by omega)]; exact h.2.2.2.2.1
      · rw [clmA_ne (by omega), clmA_ne (by omega)]; exact h.2.2.2.2.2.1
      · rw [clmA_ne (by omega)]; exact h.2.2.2.2.2.2.1
      · rw [clmA_ne (by omega)]
        intro j hj
        have h9 := h.2.2.2.2.2.2.2.2 j hj
        rw [hne2 _ (by rw [eln_4]; omega)]
        exact h9)
    (by rw [clmA_ne (by omega)]; exact hk) (by omega) (Or.inl ⟨rfl, rfl⟩) gset_eq (ly_c0 hk12) (by rw [clmA_ne (by omega), hX.2.2.2.2.2.2.1]; omega)
  rw [pegL_eq] at hC
  refine g_cVB_i (My := mJx4a65c_add_9ea2d) (gs := [_]) (st := []) hC mfJx4a65c_add_9ea2d cf_0 wi_Jx4a65c_add_9ea2d wsl_Jx4a65c_add_9ea2d wm_X3_108 dX3_peg_101 (Nat.le_of_ble_eq_true rfl) rfl (by decide) (by rw [hne 2 (by decide)]; exact n2 h2) rfl (fun _ => Nat.le_of_ble_eq_true rfl) (Nat.le_of_ble_eq_true rfl) (Nat.le_of_ble_eq_true rfl) rfl ⟨(by simp only [List.forall_mem_cons]; exact ⟨okv_r (by rw [hne 0 (by decide)]; exact n2 h0) (by decide), okv_i _, okv_i _, okv_i _, okv_i _, fun _ h => absurd h List.not_mem_nil⟩), fun _ h => absurd h List.not_mem_nil⟩ rfl ?_
  refine g_pop dX3_peg_104 (c1_i _) ?_
  have hp0 : pegL L k 0 = 2 := by unfold pegL; rw [if_neg (by omega)]; exact h0
  have hp2 : pegL L k 2 = 2 := by unfold pegL; rw [if_neg (by omega)]; exact h2
  refine g_aload_n 0 dX3_peg_105 rfl rfl ?_
  refine g_getfr cf_4 1 (n := 0) rfl (by decide) (by decide) rfl (by decide) wf_X3_19 dX3_peg_106 hp0 ?_
  refine g_cV_i (My := mJx4a65c_size_8abf5) (gs := []) (st := []) (c_AL_size rfl (n2 hp2)) mfJx4a65c_size_8abf5 cf_0 wi_Jx4a65c_size_8abf5 wsl_Jx4a65c_size_8abf5 wm_X3_94 dX3_peg_109 (Nat.le_of_ble_eq_true rfl) rfl (by decide) (n2 hp2) rfl (fun _ => Nat.le_of_ble_eq_true rfl) (Nat.le_of_ble_eq_true rfl) (Nat.le_of_ble_eq_true rfl) rfl rfl ?_
  refine g_iconst dX3_peg_112 ?_
  refine g_isub dX3_peg_113 ?_
  have ev9 : addM (clmA A k p x r c (A 0 9)) 2 k 2 2 - 1 = (k : Int) := by unfold addM; rw [gup_ap, if_pos ⟨rfl, rfl⟩]; omega
  exact g_iret dX3_peg_114 rfl (Nat.le_of_ble_eq_true rfl) (Nat.le_of_ble_eq_true rfl) (by rw [ev9]; exact hP)

set_option maxHeartbeats 2000000 in
set_option maxRecDepth 20000 in
theorem c_X3_peg {L : Nat → Nat} {A : Mem} (hV : VC L A) (hX : XC L A) {p x r c : Int} (hp : -2147483648 ≤ p ∧ p < 2147483648) (hx : -2147483648 ≤ x ∧ x < 2147483648) (hr : -2147483648 ≤ r ∧ r < 2147483648) (hc : -2147483648 ≤ c ∧ c < 2147483648) : Ct mX3_pegB [gr 0, gi p, gi x, gi r, gi c] L A (exP [xIOE, xIAE, xISE] (pegE A p x r c) (some (gi (A 2 2))) (pegL L (A 2 2).toNat) (pegC A (A 2 2).toNat p x r c) L A) := by
  have hL := vc_L hV
  have hnc := vc_nc hV; have hns := vc_ns hV; have hp0 := (vc_p hV).1
  refine Ct_of (ls := [(0, _), (1, _), (2, _), (3, _), (4, _)]) rfl (by decide) (fun _ => rfl) (fun _ => Nat.le_of_ble_eq_true rfl) ?_
  refine g_iload_n 1 dX3_peg_0 rfl rfl ?_
  by_cases hs1 : 0 ≤ p ∧ p < 8
  · skip
    refine g_cS_v (My := mX3_needPerson) (gs := [_]) (c_X3_needPerson hp hs1) mfX3_needPerson rfl wst_X3_needPerson wm_X3_86 dX3_peg_1 (Nat.le_of_ble_eq_true rfl) rfl (fun _ => Nat.le_of_ble_eq_true rfl) (Nat.le_of_ble_eq_true rfl) (Nat.le_of_ble_eq_true rfl) rfl rfl ?_
    refine g_iload_n 2 dX3_peg_4 rfl rfl ?_
    by_cases hs5 : 0 ≤ x ∧ x < 100
    · skip
      refine g_cS_v (My := mX3_needCell) (gs := [_]) (c_X3_needCell hx hs5) mfX3_needCell rfl wst_X3_needCell wm_X3_51 dX3_peg_5 (Nat.le_of_ble_eq_true rfl) rfl (fun _ => Nat.le_of_ble_eq_true rfl) (Nat.le_of_ble_eq_true rfl) (Nat.le_of_ble_eq_true rfl) rfl rfl ?_
      refine g_iload_n 3 dX3_peg_8 rfl rfl ?_
      refine g_iconst dX3_peg_9 ?_
      refine g_iconst dX3_peg_10 ?_
      by_cases hs11 : 1 ≤ r ∧ r ≤ 4
      · skip
        refine g_cS_v (My := mX3_needRange) (gs := [_, _, _]) (c_X3_needRange (x := r) (y := 1) (z := 4) (by omega) (by omega) (by omega) hs11) mfX3_needRange rfl wst_X3_needRange wm_X3_55 dX3_peg_11 (Nat.le_of_ble_eq_true rfl) rfl (fun _ => Nat.le_of_ble_eq_true rfl) (Nat.le_of_ble_eq_true rfl) (Nat.le_of_ble_eq_true rfl) rfl rfl ?_
        refine g_iload 4 dX3_peg_14 rfl ?_
        refine g_iconst dX3_peg_16 ?_
        refine g_iconst dX3_peg_17 ?_
        by_cases hs18 : 1 ≤ c ∧ c ≤ 4
        · skip
          refine g_cS_v (My := mX3_needRange) (gs := [_, _, _]) (c_X3_needRange (x := c) (y := 1) (z := 4) (by omega) (by omega) (by omega) hs18) mfX3_needRange rfl wst_X3_needRange wm_X3_55 dX3_peg_18 (Nat.le_of_ble_eq_true rfl) rfl (fun _ => Nat.le_of_ble_eq_true rfl) (Nat.le_of_ble_eq_true rfl) (Nat.le_of_ble_eq_true rfl) rfl rfl ?_
          refine g_iload_n 2 dX3_peg_21 rfl rfl ?_
          refine g_bipush dX3_peg_22 (by decide) ?_
          refine g_idiv (by omega) (by omega) dX3_peg_24 ?_
          refine g_iload_n 3 dX3_peg_25 rfl rfl ?_
          refine g_iadd dX3_peg_26 ?_
          refine g_bipush dX3_peg_27 (by decide) ?_
          refine g_icmp_gt (tgt := 44) (by omega) (by omega) dX3_peg_29 (by decide) (fun h29_1 => ?_) (fun h29_1 => ?_)
          · skip
            exact g_throw thX3_peg_44 (Nat.le_of_ble_eq_true rfl) (Nat.le_of_ble_eq_true rfl) (by decide) (ex_th 1 (by unfold pegE; grind) rfl)
          · skip
            refine g_iload_n 2 dX3_peg_32 rfl rfl ?_
            refine g_bipush dX3_peg_33 (by decide) ?_
            refine g_irem (by omega) (by omega) dX3_peg_35 ?_
            refine g_iload 4 dX3_peg_36 rfl ?_
            refine g_iadd dX3_peg_38 ?_
            refine g_bipush dX3_peg_39 (by decide) ?_
            refine g_icmp_le (tgt := 54) (by omega) (by omega) dX3_peg_41 (by decide) (fun h41_2 => ?_) (fun h41_2 => ?_)
            · skip
              refine g_aload_n 0 dX3_peg_54 rfl rfl ?_
              refine g_getfr2 (r := 2) cf_4 1 rfl (by decide) (by decide) rfl (by decide) wf_X3_19 dX3_peg_55 (hL 0 rfl) rfl ?_
              refine g_cV_i (My := mJx4a65c_size_8abf5) (gs := []) (c_AL_size rfl (n2 (vc_L hV 2 rfl))) mfJx4a65c_size_8abf5 cf_0 wi_Jx4a65c_size_8abf5 wsl_Jx4a65c_size_8abf5 wm_X3_94 dX3_peg_58 (Nat.le_of_ble_eq_true rfl) rfl (by decide) (n2 (hL 2 rfl)) rfl (fun _ => Nat.le_of_ble_eq_true rfl) (Nat.le_of_ble_eq_true rfl) (Nat.le_of_ble_eq_true rfl) rfl rfl ?_
              refine g_bipush dX3_peg_61 (by decide) ?_
              refine g_icmp_lt (tgt := 76) (by omega) (by omega) dX3_peg_63 (by decide) (fun h63_3 => ?_) (fun h63_3 => ?_)
              · skip
                refine g_aload_n 0 dX3_peg_76 rfl rfl ?_
                refine g_iload_n 1 dX3_peg_77 rfl rfl ?_
                by_cases hs78 : brdC A p = 0
                · skip
                  refine g_cV_v (My := mX3_needFree) (gs := [_]) (c_X3_needFree hV (by omega) hs78) mfX3_needFree cf_4 wi_X3_needFree wsl_X3_needFree wm_X3_100 dX3_peg_78 (Nat.le_of_ble_eq_true rfl) rfl (by decide) (n2 (hL 0 rfl)) rfl (fun _ => Nat.le_of_ble_eq_true rfl) (Nat.le_of_ble_eq_true rfl) (Nat.le_of_ble_eq_true rfl) rfl rfl ?_
                  refine g_sub [0, 1, 2, 3, 4] (ls2 := [(0, _), (1, _), (2, _), (3, _), (4, _)]) rfl ?_
                  exact g_ls (by rfl) rfl rfl (t_peg hV hX (k := (A 2 2).toNat) (by omega) (by omega) (by omega) (by omega) (by omega) (by omega) (by omega) (ex_ok (by unfold pegE; grind) (by rw [show ((A 2 2).toNat : Int) = A 2 2 by omega]) rfl rfl))
                · skip
                  exact g_cV_t (My := mX3_needFree_x) (gs := [_]) (c_X3_needFree_x hV (by omega) hs78) mfX3_needFree_x cf_4 wi_X3_needFree wsl_X3_needFree wm_X3_100 dX3_peg_78 (Nat.le_of_ble_eq_true rfl) rfl (by decide) (n2 (hL 0 rfl)) rfl (fun _ => Nat.le_of_ble_eq_true rfl) (Nat.le_of_ble_eq_true rfl) (Nat.le_of_ble_eq_true rfl) rfl rfl rfl (ex_th 2 (by unfold pegE; grind) rfl)
              · skip
                exact g_throw thX3_peg_66 (Nat.le_of_ble_eq_true rfl) (Nat.le_of_ble_eq_true rfl) (by decide) (ex_th 2 (by unfold pegE; grind) rfl)
            · skip
              exact g_throw thX3_peg_44 (Nat.le_of_ble_eq_true rfl) (Nat.le_of_ble_eq_true rfl) (by decide) (ex_th 1 (by unfold pegE; grind) rfl)
        · skip
          exact g_cS_t (My := mX3_needRange_x) (gs := [_, _, _]) (c_X3_needRange_x (x := c) (y := 1) (z := 4) (by omega) (by omega) (by omega) hs18) mfX3_needRange_x rfl wst_X3_needRange wm_X3_55 dX3_peg_18 (Nat.le_of_ble_eq_true rfl) rfl (fun _ => Nat.le_of_ble_eq_true rfl) (Nat.le_of_ble_eq_true rfl) (Nat.le_of_ble_eq_true rfl) rfl rfl rfl (ex_th 1 (by unfold pegE; grind) rfl)
      · skip
        exact g_cS_t (My := mX3_needRange_x) (gs := [_, _, _]) (c_X3_needRange_x (x := r) (y := 1) (z := 4) (by omega) (by omega) (by omega) hs11) mfX3_needRange_x rfl wst_X3_needRange wm_X3_55 dX3_peg_11 (Nat.le_of_ble_eq_true rfl) rfl (fun _ => Nat.le_of_ble_eq_true rfl) (Nat.le_of_ble_eq_true rfl) (Nat.le_of_ble_eq_true rfl) rfl rfl rfl (ex_th 1 (by unfold pegE; grind) rfl)
    · skip
      exact g_cS_t (My := mX3_needCell_x) (gs := [_]) (c_X3_needCell_x hx hs5) mfX3_needCell_x rfl wst_X3_needCell wm_X3_51 dX3_peg_5 (Nat.le_of_ble_eq_true rfl) rfl (fun _ => Nat.le_of_ble_eq_true rfl) (Nat.le_of_ble_eq_true rfl) (Nat.le_of_ble_eq_true rfl) rfl rfl rfl (ex_th 0 (by unfold pegE; grind) rfl)
  · skip
    exact g_cS_t (My := mX3_needPerson_x) (gs := [_]) (c_X3_needPerson_x hp hs1) mfX3_needPerson_x rfl wst_X3_needPerson wm_X3_86 dX3_peg_1 (Nat.le_of_ble_eq_true rfl) rfl (fun _ => Nat.le_of_ble_eq_true rfl) (Nat.le_of_ble_eq_true rfl) (Nat.le_of_ble_eq_true rfl) rfl rfl rfl (ex_th 0 (by unfold pegE; grind) rfl)

