def minF (h : Nat → Int) : Nat → Int
  | 0 => -1
  | n + 1 => if h n ≠ -1 ∧ (cntH h 8 - 1) / 2 < leH h (h n) 8 ∧ (minF h n = -1 ∨ h n < minF h n) then h n else minF h n
theorem minF_rg {h : Nat → Int} {M : Int} (hb : ∀ p, -1 ≤ h p ∧ h p ≤ M) (n : Nat) : minF h n = -1 ∨ (-1 ≤ minF h n ∧ minF h n ≤ M) := by
  induction n with
  | zero => exact Or.inl rfl
  | succ n ih =>
    have := hb n
    simp only [minF]
    split <;> omega
def hourM (h : Nat → Int) (pg : Int) : Int := if cntH h 8 = 0 then pg else minF h 8
def RelK (B A : Mem) (k : Nat) : Prop := A 31 k = B (100 + 3 * k) 0 ∧ A 32 k = 10 * B (100 + 3 * k) 1 + B (100 + 3 * k) 2 ∧ A 33 k = B (100 + 3 * k) 3 ∧ A 34 k = B (100 + 3 * k) 4 ∧ A 36 k = B (100 + 3 * k) 6 ∧ A 37 k = B (100 + 3 * k) 7 ∧
  (∀ p : Nat, p < 8 → A 38 (8 * k + p) = if (p : Int) = B (100 + 3 * k) 0 then 0 else B (101 + 3 * k) p) ∧ (∀ p : Nat, p < 8 → A 39 (8 * k + p) = B (102 + 3 * k) p) ∧ B (101 + 3 * k) (B (100 + 3 * k) 0).toNat = 12 - sumF (fun p => A 38 (8 * k + p)) 8 ∧ B (100 + 3 * k) 5 = hourM (B (102 + 3 * k)) (A 35 k)
def RelS (B A : Mem) (s : Nat) : Prop := A 45 s = B (200 + 3 * s) 3 ∧ A 46 s = B (200 + 3 * s) 1 ∧ A 47 s = B (200 + 3 * s) 5 ∧ A 48 s = B (200 + 3 * s) 6 ∧ A 49 s = B (200 + 3 * s) 2 ∧ A 50 s = B (200 + 3 * s) 0 ∧ A 51 s = B (200 + 3 * s) 7 ∧ A 52 s = B (200 + 3 * s) 8 ∧
  (∀ b : Nat, b < 5 → A 53 (5 * s + b) = B (201 + 3 * s) b) ∧ ∀ b : Nat, b < 5 → A 54 (5 * s + b) = B (202 + 3 * s) b
/-- the class's memory B beside the reference's in A -/
def Rel (B A : Mem) : Prop := A 20 1 = B 0 9 ∧ A 20 9 = B 2 2 ∧ A 20 23 = B 3 2 ∧ A 23 = B 12 ∧ A 24 = B 14 ∧ A 25 = B 15 ∧ (∀ c, A 26 c = if 0 < B 13 c then 1 else 0) ∧ A 27 = B 16 ∧ A 28 = B 17 ∧ A 40 = B 7 ∧ A 41 = B 6 ∧ A 42 = B 8 ∧ A 55 = B 9 ∧ A 20 35 = sumF (B 13) 100 ∧ A 20 36 = sumF (fun s => B (200 + 3 * s) 4) (B 3 2).toNat ∧
  (∀ k : Nat, (k : Int) < B 2 2 → RelK B A k) ∧ (∀ k : Nat, ¬ (k : Int) < B 2 2 → A 37 k = 0 ∧ ∀ p : Nat, p < 8 → A 38 (8 * k + p) = 0) ∧ (∀ s : Nat, (s : Int) < B 3 2 → RelS B A s) ∧ ∀ s : Nat, ¬ (s : Int) < B 3 2 → A 47 s = 0 ∧ A 52 s = 0 ∧ ∀ b : Nat, b < 5 → A 53 (5 * s + b) = 0 ∧ A 54 (5 * s + b) = 0
section GRel
variable {B A : Mem}
theorem rl_now (h : Rel B A) : A 20 1 = B 0 9 := h.1
theorem rl_nc (h : Rel B A) : A 20 9 = B 2 2 := h.2.1
theorem rl_ns (h : Rel B A) : A 20 23 = B 3 2 := h.2.2.1
theorem rl_st (h : Rel B A) : A 23 = B 12 := h.2.2.2.1
theorem rl_ca (h : Rel B A) : A 24 = B 14 := h.2.2.2.2.1
theorem rl_de (h : Rel B A) : A 25 = B 15 := h.2.2.2.2.2.1
theorem rl_to (h : Rel B A) : ∀ c, A 26 c = if 0 < B 13 c then 1 else 0 := h.2.2.2.2.2.2.1
theorem rl_pr (h : Rel B A) : A 27 = B 16 := h.2.2.2.2.2.2.2.1
theorem rl_tr (h : Rel B A) : A 28 = B 17 := h.2.2.2.2.2.2.2.2.1
theorem rl_ba (h : Rel B A) : A 40 = B 7 := h.2.2.2.2.2.2.2.2.2.1
theorem rl_mo (h : Rel B A) : A 41 = B 6 := h.2.2.2.2.2.2.2.2.2.2.1
theorem rl_cg (h : Rel B A) : A 42 = B 8 := h.2.2.2.2.2.2.2.2.2.2.2.1
theorem rl_pu (h : Rel B A) : A 55 = B 9 := h.2.2.2.2.2.2.2.2.2.2.2.2.1
theorem rl_told (h : Rel B A) : A 20 35 = sumF (B 13) 100 := h.2.2.2.2.2.2.2.2.2.2.2.2.2.1
theorem rl_lost (h : Rel B A) : A 20 36 = sumF (fun s => B (200 + 3 * s) 4) (B 3 2).toNat := h.2.2.2.2.2.2.2.2.2.2.2.2.2.2.1
theorem rl_k (h : Rel B A) {k : Nat} (hk : (k : Int) < B 2 2) : RelK B A k := h.2.2.2.2.2.2.2.2.2.2.2.2.2.2.2.1 k hk
theorem rl_k0 (h : Rel B A) {k : Nat} (hk : ¬ (k : Int) < B 2 2) : A 37 k = 0 ∧ ∀ p : Nat, p < 8 → A 38 (8 * k + p) = 0 := h.2.2.2.2.2.2.2.2.2.2.2.2.2.2.2.2.1 k hk
theorem rl_s (h : Rel B A) {s : Nat} (hs : (s : Int) < B 3 2) : RelS B A s := h.2.2.2.2.2.2.2.2.2.2.2.2.2.2.2.2.2.1 s hs
theorem rl_s0 (h : Rel B A) {s : Nat} (hs : ¬ (s : Int) < B 3 2) : A 47 s = 0 ∧ A 52 s = 0 ∧ ∀ b : Nat, b < 5 → A 53 (5 * s + b) = 0 ∧ A 54 (5 * s + b) = 0 := h.2.2.2.2.2.2.2.2.2.2.2.2.2.2.2.2.2.2 s hs
end GRel
def inB (x l h : Int) : Bool := decide (l ≤ x ∧ x ≤ h)
def bsdF (c : Int) (s : Nat) : Int := if s = 0 then (if 10 ≤ c then c - 10 else -1) else if s = 1 then (if c < 90 then c + 10 else -1) else if s = 2 then (if 0 < c % 10 then c - 1 else -1) else (if c % 10 < 9 then c + 1 else -1)
theorem bsdF_rg {c : Int} (hc : 0 ≤ c ∧ c < 100) (s : Nat) : bsdF c s = -1 ∨ (0 ≤ bsdF c s ∧ bsdF c s < 100) := by unfold bsdF; split <;> (try split) <;> (try split) <;> (try split) <;> omega
def bsoF (B : Mem) (c : Int) : Nat → Bool
  | 0 => false
  | i + 1 => decide (bsoF B c i = true ∨ (bsdF c i ≠ -1 ∧ B 12 (bsdF c i).toNat = 1))
def besB (B : Mem) (x : Int) : Bool := decide (opB B (x - 10) = true ∨ opB B (x + 10) = true ∨ (0 < x % 10 ∧ opB B (x - 1) = true) ∨ (x % 10 < 9 ∧ opB B (x + 1) = true))
theorem bsoF_4 {B : Mem} {c : Int} (hc : 0 ≤ c ∧ c < 100) : bsoF B c 4 = besB B c := by
  have k0 : (bsdF c 0 ≠ -1 ∧ B 12 (bsdF c 0).toNat = 1) ↔ opB B (c - 10) = true := by
    rw [show bsdF c 0 = if 10 ≤ c then c - 10 else -1 from rfl]; unfold opB; simp only [decide_eq_true_eq]; split <;> constructor <;> intro q <;> grind
  have k1 : (bsdF c 1 ≠ -1 ∧ B 12 (bsdF c 1).toNat = 1) ↔ opB B (c + 10) = true := by
    rw [show bsdF c 1 = if c < 90 then c + 10 else -1 from rfl]; unfold opB; simp only [decide_eq_true_eq]; split <;> constructor <;> intro q <;> grind
  have k2 : (bsdF c 2 ≠ -1 ∧ B 12 (bsdF c 2).toNat = 1) ↔ (0 < c % 10 ∧ opB B (c - 1) = true) := by
    rw [show bsdF c 2 = if 0 < c % 10 then c - 1 else -1 from rfl]; unfold opB; simp only [decide_eq_true_eq]; split <;> constructor <;> intro q <;> grind
  have k3 : (bsdF c 3 ≠ -1 ∧ B 12 (bsdF c 3).toNat = 1) ↔ (c % 10 < 9 ∧ opB B (c + 1) = true) := by
    rw [show bsdF c 3 = if c % 10 < 9 then c + 1 else -1 from rfl]; unfold opB; simp only [decide_eq_true_eq]; split <;> constructor <;> intro q <;> grind
  simp only [bsoF, besB, k0, k1, k2, k3, decide_eq_true_eq, Bool.false_eq_true, false_or]
  simp only [or_assoc]
theorem digB_eq (A : Mem) (x : Int) : digB A x = decide (opB A x = false ∧ besB A x = true) := by unfold digB besB; grind

set_option maxRecDepth 20000 in
theorem c_X4_in {L : Nat → Nat} {A : Mem} {x l h : Int} (hx : -2147483648 ≤ x ∧ x < 2147483648) (hl : -2147483648 ≤ l ∧ l < 2147483648) (hh : -2147483648 ≤ h ∧ h < 2147483648) : Ct mX4_in [gi x, gi l, gi h] L A (pr (some (gi (b2 (inB x l h)))) L A) := by
  refine Ct_of (ls := [(0, _), (1, _), (2, _)]) rfl (by decide) (fun _ => rfl) (fun _ => Nat.le_of_ble_eq_true rfl) ?_
  refine g_iload_n 0 dX4_in_0 rfl rfl ?_
  refine g_iload_n 1 dX4_in_1 rfl rfl ?_
  refine g_icmp_lt (tgt := 14) (by omega) (by omega) dX4_in_2 (by decide) (fun h2_1 => ?_) (fun h2_1 => ?_)
  · skip
    refine g_iconst dX4_in_14 ?_
    exact g_zret dX4_in_15 rfl (Or.inl rfl) (Nat.le_of_ble_eq_true rfl) (Nat.le_of_ble_eq_true rfl) (pr_i (b2_0 (by simp only [inB, decide_eq_true_eq, decide_eq_false_iff_not] at *; omega)) (rfl))
  · skip
    refine g_iload_n 0 dX4_in_5 rfl rfl ?_
    refine g_iload_n 2 dX4_in_6 rfl rfl ?_
    refine g_icmp_gt (tgt := 14) (by omega) (by omega) dX4_in_7 (by decide) (fun h7_2 => ?_) (fun h7_2 => ?_)
    · skip
      refine g_iconst dX4_in_14 ?_
      exact g_zret dX4_in_15 rfl (Or.inl rfl) (Nat.le_of_ble_eq_true rfl) (Nat.le_of_ble_eq_true rfl) (pr_i (b2_0 (by simp only [inB, decide_eq_true_eq, decide_eq_false_iff_not] at *; omega)) (rfl))
    · skip
      refine g_iconst dX4_in_10 ?_
      refine g_goto (tgt := 15) dX4_in_11 (by decide) ?_
      exact g_zret dX4_in_15 rfl (Or.inr rfl) (Nat.le_of_ble_eq_true rfl) (Nat.le_of_ble_eq_true rfl) (pr_i (b2_1 (by simp only [inB, decide_eq_true_eq, decide_eq_false_iff_not] at *; omega)) (rfl))

set_option maxRecDepth 20000 in
theorem c_X4_isCell {L : Nat → Nat} {A : Mem} {x : Int} (hx : -2147483648 ≤ x ∧ x < 2147483648) : Ct mX4_isCell [gi x] L A (pr (some (gi (b2 (cellB x)))) L A) := by
  refine Ct_of (ls := [(0, _)]) rfl (by decide) (fun _ => rfl) (fun _ => Nat.le_of_ble_eq_true rfl) ?_
  refine g_iload_n 0 dX4_isCell_0 rfl rfl ?_
  refine g_iconst dX4_isCell_1 ?_
  refine g_bipush dX4_isCell_2 (by decide) ?_
  refine g_cS_i (My := mX4_in) (gs := [_, _, _]) (c_X4_in (by omega) (by omega) (by omega)) mfX4_in rfl wst_X4_in wm_X4_108 dX4_isCell_4 (Nat.le_of_ble_eq_true rfl) rfl (fun _ => Nat.le_of_ble_eq_true rfl) (Nat.le_of_ble_eq_true rfl) (Nat.le_of_ble_eq_true rfl) rfl rfl ?_
  exact g_zret dX4_isCell_7 rfl (b2_01 _) (Nat.le_of_ble_eq_true rfl) (Nat.le_of_ble_eq_true rfl) (pr_i (by unfold inB cellB; grind) (rfl))

set_option maxRecDepth 20000 in
theorem c_X4_isPerson {L : Nat → Nat} {A : Mem} {x : Int} (hx : -2147483648 ≤ x ∧ x < 2147483648) : Ct mX4_isPerson [gi x] L A (pr (some (gi (b2 (decide (0 ≤ x ∧ x < 8))))) L A) := by
  refine Ct_of (ls := [(0, _)]) rfl (by decide) (fun _ => rfl) (fun _ => Nat.le_of_ble_eq_true rfl) ?_
  refine g_iload_n 0 dX4_isPerson_0 rfl rfl ?_
  refine g_iconst dX4_isPerson_1 ?_
  refine g_bipush dX4_isPerson_2 (by decide) ?_
  refine g_cS_i (My := mX4_in) (gs := [_, _, _]) (c_X4_in (by omega) (by omega) (by omega)) mfX4_in rfl wst_X4_in wm_X4_108 dX4_isPerson_4 (Nat.le_of_ble_eq_true rfl) rfl (fun _ => Nat.le_of_ble_eq_true rfl) (Nat.le_of_ble_eq_true rfl) (Nat.le_of_ble_eq_true rfl) rfl rfl ?_
  exact g_zret dX4_isPerson_7 rfl (b2_01 _) (Nat.le_of_ble_eq_true rfl) (Nat.le_of_ble_eq_true rfl) (pr_i (by unfold inB; grind) (rfl))

set_option maxRecDepth 20000 in
theorem c_X4_isBuyer {L : Nat → Nat} {A : Mem} {x : Int} (hx : -2147483648 ≤ x ∧ x < 2147483648) : Ct mX4_isBuyer [gi x] L A (pr (some (gi (b2 (decide (0 ≤ x ∧ x < 5))))) L A) := by
  refine Ct_of (ls := [(0, _)]) rfl (by decide) (fun _ => rfl) (fun _ => Nat.le_of_ble_eq_true rfl) ?_
  refine g_iload_n 0 dX4_isBuyer_0 rfl rfl ?_
  refine g_iconst dX4_isBuyer_1 ?_
  refine g_iconst dX4_isBuyer_2 ?_
  refine g_cS_i (My := mX4_in) (gs := [_, _, _]) (c_X4_in (by omega) (by omega) (by omega)) mfX4_in rfl wst_X4_in wm_X4_108 dX4_isBuyer_3 (Nat.le_of_ble_eq_true rfl) rfl (fun _ => Nat.le_of_ble_eq_true rfl) (Nat.le_of_ble_eq_true rfl) (Nat.le_of_ble_eq_true rfl) rfl rfl ?_
  exact g_zret dX4_isBuyer_6 rfl (b2_01 _) (Nat.le_of_ble_eq_true rfl) (Nat.le_of_ble_eq_true rfl) (pr_i (by unfold inB; grind) (rfl))

set_option maxRecDepth 20000 in
theorem c_X4_isClaim {L : Nat → Nat} {A B : Mem} (hM : LM L) (hV : VC L B) (hR : Rel B A) {x : Int} (hx : -2147483648 ≤ x ∧ x < 2147483648) : Ct mX4_isClaim [gr 20, gi x] L A (pr (some (gi (b2 (decide (0 ≤ x ∧ x < B 2 2))))) L A) := by
  have hnc := vc_nc hV; have hns := vc_ns hV; have hp0 := (vc_p hV).1
  have rnow := rl_now hR; have rnc := rl_nc hR; have rns := rl_ns hR
  refine Ct_of (ls := [(0, _), (1, _)]) rfl (by decide) (fun _ => rfl) (fun _ => Nat.le_of_ble_eq_true rfl) ?_
  refine g_iload_n 1 dX4_isClaim_0 rfl rfl ?_
  refine g_iconst dX4_isClaim_1 ?_
  refine g_aload_n 0 dX4_isClaim_2 rfl rfl ?_
  refine g_getfi cf_5 9 rfl (by decide) (by decide) rfl (by decide) wf_X4_112 dX4_isClaim_3 (n2 (hM 20 rfl)) (fun h3_1 => ?_)
  refine g_iconst dX4_isClaim_6 ?_
  refine g_isub dX4_isClaim_7 ?_
  refine g_cS_i (My := mX4_in) (gs := [_, _, _]) (c_X4_in (by omega) (by omega) (by omega)) mfX4_in rfl wst_X4_in wm_X4_108 dX4_isClaim_8 (Nat.le_of_ble_eq_true rfl) rfl (fun _ => Nat.le_of_ble_eq_true rfl) (Nat.le_of_ble_eq_true rfl) (Nat.le_of_ble_eq_true rfl) rfl rfl ?_
  exact g_zret dX4_isClaim_11 rfl (b2_01 _) (Nat.le_of_ble_eq_true rfl) (Nat.le_of_ble_eq_true rfl) (pr_i (by unfold inB; grind) (rfl))

set_option maxRecDepth 20000 in
theorem c_X4_isStone {L : Nat → Nat} {A B : Mem} (hM : LM L) (hV : VC L B) (hR : Rel B A) {x : Int} (hx : -2147483648 ≤ x ∧ x < 2147483648) : Ct mX4_isStone [gr 20, gi x] L A (pr (some (gi (b2 (decide (0 ≤ x ∧ x < B 3 2))))) L A) := by
  have hnc := vc_nc hV; have hns := vc_ns hV; have hp0 := (vc_p hV).1
  have rnow := rl_now hR; have rnc := rl_nc hR; have rns := rl_ns hR
  refine Ct_of (ls := [(0, _), (1, _)]) rfl (by decide) (fun _ => rfl) (fun _ => Nat.le_of_ble_eq_true rfl) ?_
  refine g_iload_n 1 dX4_isStone_0 rfl rfl ?_
  refine g_iconst dX4_isStone_1 ?_
  refine g_aload_n 0 dX4_isStone_2 rfl rfl ?_
  refine g_getfi cf_5 23 rfl (by decide) (by decide) rfl (by decide) wf_X4_115 dX4_isStone_3 (n2 (hM 20 rfl)) (fun h3_1 => ?_)
  refine g_iconst dX4_isStone_6 ?_
  refine g_isub dX4_isStone_7 ?_
  refine g_cS_i (My := mX4_in) (gs := [_, _, _]) (c_X4_in (by omega) (by omega) (by omega)) mfX4_in rfl wst_X4_in wm_X4_108 dX4_isStone_8 (Nat.le_of_ble_eq_true rfl) rfl (fun _ => Nat.le_of_ble_eq_true rfl) (Nat.le_of_ble_eq_true rfl) (Nat.le_of_ble_eq_true rfl) rfl rfl ?_
  exact g_zret dX4_isStone_11 rfl (b2_01 _) (Nat.le_of_ble_eq_true rfl) (Nat.le_of_ble_eq_true rfl) (pr_i (by unfold inB; grind) (rfl))

set_option maxRecDepth 20000 in
theorem c_X4_isBarred {L : Nat → Nat} {A B : Mem} (hM : LM L) (hV : VC L B) (hR : Rel B A) {p : Int} (hp : 0 ≤ p ∧ p < 8) : Ct mX4_isBarred [gr 20, gi p] L A (pr (some (gi (b2 (decide (0 < brdC B p))))) L A) := by
  have hnc := vc_nc hV; have hns := vc_ns hV; have hp0 := (vc_p hV).1
  have rnow := rl_now hR; have rnc := rl_nc hR; have rns := rl_ns hR
  have hp7 := (vc_p hV).2.2.1 p.toNat
  have rba := congrFun (rl_ba hR) p.toNat
  refine Ct_of (ls := [(0, _), (1, _)]) rfl (by decide) (fun _ => rfl) (fun _ => Nat.le_of_ble_eq_true rfl) ?_
  refine g_aload_n 0 dX4_isBarred_0 rfl rfl ?_
  refine g_getfi cf_5 1 rfl (by decide) (by decide) rfl (by decide) wf_X4_118 dX4_isBarred_1 (n2 (hM 20 rfl)) (fun h1_4 => ?_)
  refine g_aload_n 0 dX4_isBarred_4 rfl rfl ?_
  refine g_getfr2 (r := 40) cf_5 19 rfl (by decide) (by decide) rfl (by decide) wf_X4_59 dX4_isBarred_5 (hM 20 rfl) rfl ?_
  refine g_iload_n 1 dX4_isBarred_8 rfl rfl ?_
  refine g_ia (by omega) (by omega) rfl (by decide) dX4_isBarred_9 (n2 (hM 40 rfl)) (fun h9_5 => ?_)
  refine g_icmp_ge (tgt := 17) (by omega) (by omega) dX4_isBarred_10 (by decide) (fun h10_6 => ?_) (fun h10_6 => ?_)
  · skip
    refine g_iconst dX4_isBarred_17 ?_
    exact g_zret dX4_isBarred_18 rfl (Or.inl rfl) (Nat.le_of_ble_eq_true rfl) (Nat.le_of_ble_eq_true rfl) (pr_i (b2_0 (by unfold brdC; grind)) (rfl))
  · skip
    refine g_iconst dX4_isBarred_13 ?_
    refine g_goto (tgt := 18) dX4_isBarred_14 (by decide) ?_
    exact g_zret dX4_isBarred_18 rfl (Or.inr rfl) (Nat.le_of_ble_eq_true rfl) (Nat.le_of_ble_eq_true rfl) (pr_i (b2_1 (by unfold brdC; grind)) (rfl))

set_option maxHeartbeats 1000000 in
set_option maxRecDepth 20000 in
theorem c_X4_beside {L : Nat → Nat} {A : Mem} {c : Int} {s : Nat} (hc : 0 ≤ c ∧ c < 100) (hs : s = 0 ∨ s = 1 ∨ s = 2 ∨ s = 3) : Ct mX4_beside [gi c, gi (s : Int)] L A (pr (some (gi (bsdF c s))) L A) := by
  refine Ct_of (ls := [(0, _), (1, _)]) rfl (by decide) (fun _ => rfl) (fun _ => Nat.le_of_ble_eq_true rfl) ?_
  refine g_iload_n 0 dX4_beside_0 rfl rfl ?_
  refine g_bipush dX4_beside_1 (by decide) ?_
  refine g_idiv (by omega) (by omega) dX4_beside_3 ?_
  refine g_iload_n 1 dX4_beside_4 rfl rfl ?_
  refine g_if_ne (tgt := 12) (by omega) dX4_beside_5 (by decide) (fun h5_1 => ?_) (fun h5_1 => ?_)
  · skip
    refine g_iload_n 1 dX4_beside_12 rfl rfl ?_
    refine g_iconst dX4_beside_13 ?_
    refine g_icmp_ne (tgt := 21) (by omega) (by omega) dX4_beside_14 (by decide) (fun h14_2 => ?_) (fun h14_2 => ?_)
    · skip
      refine g_iconst dX4_beside_21 ?_
      refine g_iadd dX4_beside_22 ?_
      refine g_st (ls2 := [(2, _), (0, _), (1, _)]) dX4_beside_23 rfl (by decide) (c1_ci (c1_ci c1_0)) rfl ?_
      refine g_iload_n 1 dX4_beside_24 rfl rfl ?_
      refine g_bipush dX4_beside_25 (by decide) ?_
      refine g_irem (by omega) (by omega) dX4_beside_27 ?_
      refine g_iload_n 2 dX4_beside_28 rfl rfl ?_
      refine g_iconst dX4_beside_29 ?_
      refine g_icmp_ne (tgt := 37) (by omega) (by omega) dX4_beside_30 (by decide) (fun h30_3 => ?_) (fun h30_3 => ?_)
      · skip
        refine g_iload_n 2 dX4_beside_37 rfl rfl ?_
        refine g_iconst dX4_beside_38 ?_
        refine g_icmp_ne (tgt := 46) (by omega) (by omega) dX4_beside_39 (by decide) (fun h39_4 => ?_) (fun h39_4 => ?_)
        · skip
          refine g_iconst dX4_beside_46 ?_
          refine g_iadd dX4_beside_47 ?_
          refine g_st (ls2 := [(3, _), (2, _), (0, _), (1, _)]) dX4_beside_48 rfl (by decide) (c1_ci (c1_ci (c1_ci c1_0))) rfl ?_
          refine g_iload_n 1 dX4_beside_49 rfl rfl ?_
          refine g_iconst dX4_beside_50 ?_
          refine g_bipush dX4_beside_51 (by decide) ?_
          refine g_cS_i (My := mX4_in) (gs := [_, _, _]) (c_X4_in (by omega) (by omega) (by omega)) mfX4_in rfl wst_X4_in wm_X4_108 dX4_beside_53 (Nat.le_of_ble_eq_true rfl) rfl (fun _ => Nat.le_of_ble_eq_true rfl) (Nat.le_of_ble_eq_true rfl) (Nat.le_of_ble_eq_true rfl) rfl rfl ?_
          refine g_ifb_eq (tgt := 78) dX4_beside_56 (by decide) (fun h56_5 => ?_) (fun h56_5 => ?_)
          · skip
            refine g_iconst dX4_beside_78 ?_
            exact g_iret dX4_beside_79 rfl (Nat.le_of_ble_eq_true rfl) (Nat.le_of_ble_eq_true rfl) (pr_i (by unfold bsdF; simp only [inB, decide_eq_true_eq, decide_eq_false_iff_not] at *; rcases hs with rfl | rfl | rfl | rfl <;> simp <;> (try split) <;> omega) (rfl))
          · skip
            refine g_iload_n 0 dX4_beside_59 rfl rfl ?_
            refine g_iconst dX4_beside_60 ?_
            refine g_bipush dX4_beside_61 (by decide) ?_
            refine g_cS_i (My := mX4_in) (gs := [_, _, _]) (c_X4_in (by omega) (by omega) (by omega)) mfX4_in rfl wst_X4_in wm_X4_108 dX4_beside_63 (Nat.le_of_ble_eq_true rfl) rfl (fun _ => Nat.le_of_ble_eq_true rfl) (Nat.le_of_ble_eq_true rfl) (Nat.le_of_ble_eq_true rfl) rfl rfl ?_
            refine g_ifb_eq (tgt := 78) dX4_beside_66 (by decide) (fun h66_6 => ?_) (fun h66_6 => ?_)
            · skip
              refine g_iconst dX4_beside_78 ?_
              exact g_iret dX4_beside_79 rfl (Nat.le_of_ble_eq_true rfl) (Nat.le_of_ble_eq_true rfl) (pr_i (by unfold bsdF; simp only [inB, decide_eq_true_eq, decide_eq_false_iff_not] at *; rcases hs with rfl | rfl | rfl | rfl <;> simp <;> (try split) <;> omega) (rfl))
            · skip
              refine g_bipush dX4_beside_69 (by decide) ?_
              refine g_iload_n 1 dX4_beside_71 rfl rfl ?_
              refine g_imul dX4_beside_72 ?_
              refine g_iload_n 0 dX4_beside_73 rfl rfl ?_
              refine g_iadd dX4_beside_74 ?_
              refine g_goto (tgt := 79) dX4_beside_75 (by decide) ?_
              exact g_iret dX4_beside_79 rfl (Nat.le_of_ble_eq_true rfl) (Nat.le_of_ble_eq_true rfl) (pr_i (by unfold bsdF; simp only [inB, decide_eq_true_eq, decide_eq_false_iff_not] at *; rcases hs with rfl | rfl | rfl | rfl <;> simp <;> (try split) <;> omega) (rfl))
        · skip
          refine g_iconst dX4_beside_42 ?_
          refine g_goto (tgt := 47) dX4_beside_43 (by decide) ?_
          refine g_iadd dX4_beside_47 ?_
          refine g_st (ls2 := [(3, _), (2, _), (0, _), (1, _)]) dX4_beside_48 rfl (by decide) (c1_ci (c1_ci (c1_ci c1_0))) rfl ?_
          refine g_iload_n 1 dX4_beside_49 rfl rfl ?_
          refine g_iconst dX4_beside_50 ?_
          refine g_bipush dX4_beside_51 (by decide) ?_
          refine g_cS_i (My := mX4_in) (gs := [_, _, _]) (c_X4_in (by omega) (by omega) (by omega)) mfX4_in rfl wst_X4_in wm_X4_108 dX4_beside_53 (Nat.le_of_ble_eq_true rfl) rfl (fun _ => Nat.le_of_ble_eq_true rfl) (Nat.le_of_ble_eq_true rfl) (Nat.le_of_ble_eq_true rfl) rfl rfl ?_
          refine g_ifb_eq (tgt := 78) dX4_beside_56 (by decide) (fun h56_7 => ?_) (fun h56_7 => ?_)
          · skip
            refine g_iconst dX4_beside_78 ?_
            exact g_iret dX4_beside_79 rfl (Nat.le_of_ble_eq_true rfl) (Nat.le_of_ble_eq_true rfl) (pr_i (by unfold bsdF; simp only [inB, decide_eq_true_eq, decide_eq_false_iff_not] at *; rcases hs with rfl | rfl | rfl | rfl <;> simp <;> (try split) <;> omega) (rfl))
          · skip
            refine g_iload_n 0 dX4_beside_59 rfl rfl ?_
            refine g_iconst dX4_beside_60 ?_
            refine g_bipush dX4_beside_61 (by decide) ?_
            refine g_cS_i (My := mX4_in) (gs := [_, _, _]) (c_X4_in (by omega) (by omega) (by omega)) mfX4_in rfl wst_X4_in wm_X4_108 dX4_beside_63 (Nat.le_of_ble_eq_true rfl) rfl (fun _ => Nat.le_of_ble_eq_true rfl) (Nat.le_of_ble_eq_true rfl) (Nat.le_of_ble_eq_true rfl) rfl rfl ?_
            refine g_ifb_eq (tgt := 78) dX4_beside_66 (by decide) (fun h66_8 => ?_) (fun h66_8 => ?_)
            · skip
              refine g_iconst dX4_beside_78 ?_
              exact g_iret dX4_beside_79 rfl (Nat.le_of_ble_eq_true rfl) (Nat.le_of_ble_eq_true rfl) (pr_i (by unfold bsdF; simp only [inB, decide_eq_true_eq, decide_eq_false_iff_not] at *; rcases hs with rfl | rfl | rfl | rfl <;> simp <;> (try split) <;> omega) (rfl))
            · skip
              refine g_bipush dX4_beside_69 (by decide) ?_
              refine g_iload_n 1 dX4_beside_71 rfl rfl ?_
              refine g_imul dX4_beside_72 ?_
              refine g_iload_n 0 dX4_beside_73 rfl rfl ?_
              refine g_iadd dX4_beside_74 ?_
              refine g_goto (tgt := 79) dX4_beside_75 (by decide) ?_
              exact g_iret dX4_beside_79 rfl (Nat.le_of_ble_eq_true rfl) (Nat.le_of_ble_eq_true rfl) (pr_i (by unfold bsdF; simp only [inB, decide_eq_true_eq, decide_eq_false_iff_not] at *; rcases hs with rfl | rfl | rfl | rfl <;> simp <;> (try split) <;> omega) (rfl))
      · skip
        refine g_iconst dX4_beside_33 ?_
        refine g_goto (tgt := 47) dX4_beside_34 (by decide) ?_
        refine g_iadd dX4_beside_47 ?_
        refine g_st (ls2 := [(3, _), (2, _), (0, _), (1, _)]) dX4_beside_48 rfl (by decide) (c1_ci (c1_ci (c1_ci c1_0))) rfl ?_
        refine g_iload_n 1 dX4_beside_49 rfl rfl ?_
        refine g_iconst dX4_beside_50 ?_
        refine g_bipush dX4_beside_51 (by decide) ?_
        refine g_cS_i (My := mX4_in) (gs := [_, _, _]) (c_X4_in (by omega) (by omega) (by omega)) mfX4_in rfl wst_X4_in wm_X4_108 dX4_beside_53 (Nat.le_of_ble_eq_true rfl) rfl (fun _ => Nat.le_of_ble_eq_true rfl) (Nat.le_of_ble_eq_true rfl) (Nat.le_of_ble_eq_true rfl) rfl rfl ?_
        refine g_ifb_eq (tgt := 78) dX4_beside_56 (by decide) (fun h56_9 => ?_) (fun h56_9 => ?_)
        · skip
          refine g_iconst dX4_beside_78 ?_
          exact g_iret dX4_beside_79 rfl (Nat.le_of_ble_eq_true rfl) (Nat.le_of_ble_eq_true rfl) (pr_i (by unfold bsdF; simp only [inB, decide_eq_true_eq, decide_eq_false_iff_not] at *; rcases hs with rfl | rfl | rfl | rfl <;> simp <;> (try split) <;> omega) (rfl))
        · skip
          refine g_iload_n 0 dX4_beside_59 rfl rfl ?_
          refine g_iconst dX4_beside_60 ?_
          refine g_bipush dX4_beside_61 (by decide) ?_
          refine g_cS_i (My := mX4_in) (gs := [_, _, _]) (c_X4_in (by omega) (by omega) (by omega)) mfX4_in rfl wst_X4_in wm_X4_108 dX4_beside_63 (Nat.le_of_ble_eq_true rfl) rfl (fun _ => Nat.le_of_ble_eq_true rfl) (Nat.le_of_ble_eq_true rfl) (Nat.le_of_ble_eq_true rfl) rfl rfl ?_
          refine g_ifb_eq (tgt := 78) dX4_beside_66 (by decide) (fun h66_10 => ?_) (fun h66_10 => ?_)
          · skip
            refine g_iconst dX4_beside_78 ?_
            exact g_iret dX4_beside_79 rfl (Nat.le_of_ble_eq_true rfl) (Nat.le_of_ble_eq_true rfl) (pr_i (by unfold bsdF; simp only [inB, decide_eq_true_eq, decide_eq_false_iff_not] at *; rcases hs with rfl | rfl | rfl | rfl <;> simp <;> (try split) <;> omega) (rfl))
          · skip
            refine g_bipush dX4_beside_69 (by decide) ?_
            refine g_iload_n 1 dX4_beside_71 rfl rfl ?_
            refine g_imul dX4_beside_72 ?_
            refine g_iload_n 0 dX4_beside_73 rfl rfl ?_
            refine g_iadd dX4_beside_74 ?_
            refine g_goto (tgt := 79) dX4_beside_75 (by decide) ?_
            exact g_iret dX4_beside_79 rfl (Nat.le_of_ble_eq_true rfl) (Nat.le_of_ble_eq_true rfl) (pr_i (by unfold bsdF; simp only [inB, decide_eq_true_eq, decide_eq_false_iff_not] at *; rcases hs with rfl | rfl | rfl | rfl <;> simp <;> (try split) <;> omega) (rfl))
    · skip
      refine g_iconst dX4_beside_17 ?_
      refine g_goto (tgt := 22) dX4_beside_18 (by decide) ?_
      refine g_iadd dX4_beside_22 ?_
      refine g_st (ls2 := [(2, _), (0, _), (1, _)]) dX4_beside_23 rfl (by decide) (c1_ci (c1_ci c1_0)) rfl ?_
      refine g_iload_n 1 dX4_beside_24 rfl rfl ?_
      refine g_bipush dX4_beside_25 (by decide) ?_
      refine g_irem (by omega) (by omega) dX4_beside_27 ?_
      refine g_iload_n 2 dX4_beside_28 rfl rfl ?_
      refine g_iconst dX4_beside_29 ?_
      refine g_icmp_ne (tgt := 37) (by omega) (by omega) dX4_beside_30 (by decide) (fun h30_11 => ?_) (fun h30_11 => ?_)
      · skip
        refine g_iload_n 2 dX4_beside_37 rfl rfl ?_
        refine g_iconst dX4_beside_38 ?_
        refine g_icmp_ne (tgt := 46) (by omega) (by omega) dX4_beside_39 (by decide) (fun h39_12 => ?_) (fun h39_12 => ?_)
        · skip
          refine g_iconst dX4_beside_46 ?_
          refine g_iadd dX4_beside_47 ?_
          refine g_st (ls2 := [(3, _), (2, _), (0, _), (1, _)]) dX4_beside_48 rfl (by decide) (c1_ci (c1_ci (c1_ci c1_0))) rfl ?_
          refine g_iload_n 1 dX4_beside_49 rfl rfl ?_
          refine g_iconst dX4_beside_50 ?_
          refine g_bipush dX4_beside_51 (by decide) ?_
          refine g_cS_i (My := mX4_in) (gs := [_, _, _]) (c_X4_in (by omega) (by omega) (by omega)) mfX4_in rfl wst_X4_in wm_X4_108 dX4_beside_53 (Nat.le_of_ble_eq_true rfl) rfl (fun _ => Nat.le_of_ble_eq_true rfl) (Nat.le_of_ble_eq_true rfl) (Nat.le_of_ble_eq_true rfl) rfl rfl ?_
          refine g_ifb_eq (tgt := 78) dX4_beside_56 (by decide) (fun h56_13 => ?_) (fun h56_13 => ?_)
          · skip
            refine g_iconst dX4_beside_78 ?_
            exact g_iret dX4_beside_79 rfl (Nat.le_of_ble_eq_true rfl) (Nat.le_of_ble_eq_true rfl) (pr_i (by unfold bsdF; simp only [inB, decide_eq_true_eq, decide_eq_false_iff_not] at *; rcases hs with rfl | rfl | rfl | rfl <;> simp <;> (try split) <;> omega) (rfl))
          · skip
            refine g_iload_n 0 dX4_beside_59 rfl rfl ?_
            refine g_iconst dX4_beside_60 ?_
            refine g_bipush dX4_beside_61 (by decide) ?_
            refine g_cS_i (My := mX4_in) (gs := [_, _, _]) (c_X4_in (by omega) (by omega) (by omega)) mfX4_in rfl wst_X4_in wm_X4_108 dX4_beside_63 (Nat.le_of_ble_eq_true rfl) rfl (fun _ => Nat.le_of_ble_eq_true rfl) (Nat.le_of_ble_eq_true rfl) (Nat.le_of_ble_eq_true rfl) rfl rfl ?_
            refine g_ifb_eq (tgt := 78) dX4_beside_66 (by decide) (fun h66_14 => ?_) (fun h66_14 => ?_)
            · skip
              refine g_iconst dX4_beside_78 ?_
              exact g_iret dX4_beside_79 rfl (Nat.le_of_ble_eq_true rfl) (Nat.le_of_ble_eq_true rfl) (pr_i (by unfold bsdF; simp only [inB, decide_eq_true_eq, decide_eq_false_iff_not] at *; rcases hs with rfl | rfl | rfl | rfl <;> simp <;> (try split) <;> omega) (rfl))
            · skip
              refine g_bipush dX4_beside_69 (by decide) ?_
              refine g_iload_n 1 dX4_beside_71 rfl rfl ?_
              refine g_imul dX4_beside_72 ?_
              refine g_iload_n 0 dX4_beside_73 rfl rfl ?_
              refine g_iadd dX4_beside_74 ?_
              refine g_goto (tgt := 79) dX4_beside_75 (by decide) ?_
              exact g_iret dX4_beside_79 rfl (Nat.le_of_ble_eq_true rfl) (Nat.le_of_ble_eq_true rfl) (pr_i (by unfold bsdF; simp only [inB, decide_eq_true_eq, decide_eq_false_iff_not] at *; rcases hs with rfl | rfl | rfl | rfl <;> simp <;> (try split) <;> omega) (rfl))
        · skip
          refine g_iconst dX4_beside_42 ?_
          refine g_goto (tgt := 47) dX4_beside_43 (by decide) ?_
          refine g_iadd dX4_beside_47 ?_
          refine g_st (ls2 := [(3, _), (2, _), (0, _), (1, _)]) dX4_beside_48 rfl (by decide) (c1_ci (c1_ci (c1_ci c1_0))) rfl ?_
          refine g_iload_n 1 dX4_beside_49 rfl rfl ?_
          refine g_iconst dX4_beside_50 ?_
          refine g_bipush dX4_beside_51 (by decide) ?_
          refine g_cS_i (My := mX4_in) (gs := [_, _, _]) (c_X4_in (by omega) (by omega) (by omega)) mfX4_in rfl wst_X4_in wm_X4_108 dX4_beside_53 (Nat.le_of_ble_eq_true rfl) rfl (fun _ => Nat.le_of_ble_eq_true rfl) (Nat.le_of_ble_eq_true rfl) (Nat.le_of_ble_eq_true rfl) rfl rfl ?_
          refine g_ifb_eq (tgt := 78) dX4_beside_56 (by decide) (fun h56_15 => ?_) (fun h56_15 => ?_)
          · skip
            refine g_iconst dX4_beside_78 ?_
            exact g_iret dX4_beside_79 rfl (Nat.le_of_ble_eq_true rfl) (Nat.le_of_ble_eq_true rfl) (pr_i (by unfold bsdF; simp only [inB, decide_eq_true_eq, decide_eq_false_iff_not] at *; rcases hs with rfl | rfl | rfl | rfl <;> simp <;> (try split) <;> omega) (rfl))
          · skip
            refine g_iload_n 0 dX4_beside_59 rfl rfl ?_
            refine g_iconst dX4_beside_60 ?_
            refine g_bipush dX4_beside_61 (by decide) ?_
            refine g_cS_i (My := mX4_in) (gs := [_, _, _]) (c_X4_in (by omega) (by omega) (by omega)) mfX4_in rfl wst_X4_in wm_X4_108 dX4_beside_63 (Nat.le_of_ble_eq_true rfl) rfl (fun _ => Nat.le_of_ble_eq_true rfl) (Nat.le_of_ble_eq_true rfl) (Nat.le_of_ble_eq_true rfl) rfl rfl ?_
            refine g_ifb_eq (tgt := 78) dX4_beside_66 (by decide) (fun h66_16 => ?_) (fun h66_16 => ?_)
            · skip
              refine g_iconst dX4_beside_78 ?_
              exact g_iret dX4_beside_79 rfl (Nat.le_of_ble_eq_true rfl) (Nat.le_of_ble_eq_true rfl) (pr_i (by unfold bsdF; simp only [inB, decide_eq_true_eq, decide_eq_false_iff_not] at *; rcases hs with rfl | rfl | rfl | rfl <;> simp <;> (try split) <;> omega) (rfl))
            · skip
              refine g_bipush dX4_beside_69 (by decide) ?_
              refine g_iload_n 1 dX4_beside_71 rfl rfl ?_
              refine g_imul dX4_beside_72 ?_
              refine g_iload_n 0 dX4_beside_73 rfl rfl ?_
              refine g_iadd dX4_beside_74 ?_
              refine g_goto (tgt := 79) dX4_beside_75 (by decide) ?_
              exact g_iret dX4_beside_79 rfl (Nat.le_of_ble_eq_true rfl) (Nat.le_of_ble_eq_true rfl) (pr_i (by unfold bsdF; simp only [inB, decide_eq_true_eq, decide_eq_false_iff_not] at *; rcases hs with rfl | rfl | rfl | rfl <;> simp <;> (try split) <;> omega) (rfl))
      · skip
        refine g_iconst dX4_beside_33 ?_
        refine g_goto (tgt := 47) dX4_beside_34 (by decide) ?_
        refine g_iadd dX4_beside_47 ?_
        refine g_st (ls2 := [(3, _), (2, _), (0, _), (1, _)]) dX4_beside_48 rfl (by decide) (c1_ci (c1_ci (c1_ci c1_0))) rfl ?_
        refine g_iload_n 1 dX4_beside_49 rfl rfl ?_
        refine g_iconst dX4_beside_50 ?_
        refine g_bipush dX4_beside_51 (by decide) ?_
        refine g_cS_i (My := mX4_in) (gs := [_, _, _]) (c_X4_in (by omega) (by omega) (by omega)) mfX4_in rfl wst_X4_in wm_X4_108 dX4_beside_53 (Nat.le_of_ble_eq_true rfl) rfl (fun _ => Nat.le_of_ble_eq_true rfl) (Nat.le_of_ble_eq_true rfl) (Nat.le_of_ble_eq_true rfl) rfl rfl ?_
        refine g_ifb_eq (tgt := 78) dX4_beside_56 (by decide) (fun h56_17 => ?_) (fun h56_17 => ?_)
        · skip
          refine g_iconst dX4_beside_78 ?_
          exact g_iret dX4_beside_79 rfl (Nat.le_of_ble_eq_true rfl) (Nat.le_of_ble_eq_true rfl) (pr_i (by unfold bsdF; simp only [inB, decide_eq_true_eq, decide_eq_false_iff_not] at *; rcases hs with rfl | rfl | rfl | rfl <;> simp <;> (try split) <;> omega) (rfl))
        · skip
          refine g_iload_n 0 dX4_beside_59 rfl rfl ?_
          refine g_iconst dX4_beside_60 ?_
          refine g_bipush dX4_beside_61 (by decide) ?_
          refine g_cS_i (My := mX4_in) (gs := [_, _, _]) (c_X4_in (by omega) (by omega) (by omega)) mfX4_in rfl wst_X4_in wm_X4_108 dX4_beside_63 (Nat.le_of_ble_eq_true rfl) rfl (fun _ => Nat.le_of_ble_eq_true rfl) (Nat.le_of_ble_eq_true rfl) (Nat.le_of_ble_eq_true rfl) rfl rfl ?_
          refine g_ifb_eq (tgt := 78) dX4_beside_66 (by decide) (fun h66_18 => ?_) (fun h66_18 => ?_)
          · skip
            refine g_iconst dX4_beside_78 ?_
            exact g_iret dX4_beside_79 rfl (Nat.le_of_ble_eq_true rfl) (Nat.le_of_ble_eq_true rfl) (pr_i (by unfold bsdF; simp only [inB, decide_eq_true_eq, decide_eq_false_iff_not] at *; rcases hs with rfl | rfl | rfl | rfl <;> simp <;> (try split) <;> omega) (rfl))
          · skip
            refine g_bipush dX4_beside_69 (by decide) ?_
            refine g_iload_n 1 dX4_beside_71 rfl rfl ?_
            refine g_imul dX4_beside_72 ?_
            refine g_iload_n 0 dX4_beside_73 rfl rfl ?_
            refine g_iadd dX4_beside_74 ?_
            refine g_goto (tgt := 79) dX4_beside_75 (by decide) ?_
            exact g_iret dX4_beside_79 rfl (Nat.le_of_ble_eq_true rfl) (Nat.le_of_ble_eq_true rfl) (pr_i (by unfold bsdF; simp only [inB, decide_eq_true_eq, decide_eq_false_iff_not] at *; rcases hs with rfl | rfl | rfl | rfl <;> simp <;> (try split) <;> omega) (rfl))
  · skip
    refine g_iconst dX4_beside_8 ?_
    refine g_goto (tgt := 22) dX4_beside_9 (by decide) ?_
    refine g_iadd dX4_beside_22 ?_
    refine g_st (ls2 := [(2, _), (0, _), (1, _)]) dX4_beside_23 rfl (by decide) (c1_ci (c1_ci c1_0)) rfl ?_
    refine g_iload_n 1 dX4_beside_24 rfl rfl ?_
    refine g_bipush dX4_beside_25 (by decide) ?_
    refine g_irem (by omega) (by omega) dX4_beside_27 ?_
    refine g_iload_n 2 dX4_beside_28 rfl rfl ?_
    refine g_iconst dX4_beside_29 ?_
    refine g_icmp_ne (tgt := 37) (by omega) (by omega) dX4_beside_30 (by decide) (fun h30_19 => ?_) (fun h30_19 => ?_)
    · skip
      refine g_iload_n 2 dX4_beside_37 rfl rfl ?_
      refine g_iconst dX4_beside_38 ?_
      refine g_icmp_ne (tgt := 46) (by omega) (by omega) dX4_beside_39 (by decide) (fun h39_20 => ?_) (fun h39_20 => ?_)
      · skip
        refine g_iconst dX4_beside_46 ?_
        refine g_iadd dX4_beside_47 ?_
        refine g_st (ls2 := [(3, _), (2, _), (0, _), (1, _)]) dX4_beside_48 rfl (by decide) (c1_ci (c1_ci (c1_ci c1_0))) rfl ?_
        refine g_iload_n 1 dX4_beside_49 rfl rfl ?_
        refine g_iconst dX4_beside_50 ?_
        refine g_bipush dX4_beside_51 (by decide) ?_
        refine g_cS_i (My := mX4_in) (gs := [_, _, _]) (c_X4_in (by omega) (by omega) (by omega)) mfX4_in rfl wst_X4_in wm_X4_108 dX4_beside_53 (Nat.le_of_ble_eq_true rfl) rfl (fun _ => Nat.le_of_ble_eq_true rfl) (Nat.le_of_ble_eq_true rfl) (Nat.le_of_ble_eq_true rfl) rfl rfl ?_
        refine g_ifb_eq (tgt := 78) dX4_beside_56 (by decide) (fun h56_21 => ?_) (fun h56_21 => ?_)
        · skip
          refine g_iconst dX4_beside_78 ?_
          exact g_iret dX4_beside_79 rfl (Nat.le_of_ble_eq_true rfl) (Nat.le_of_ble_eq_true rfl) (pr_i (by unfold bsdF; simp only [inB, decide_eq_true_eq, decide_eq_false_iff_not] at *; rcases hs with rfl | rfl | rfl | rfl <;> simp <;> (try split) <;> omega) (rfl))
        · skip
          refine g_iload_n 0 dX4_beside_59 rfl rfl ?_
          refine g_iconst dX4_beside_60 ?_
          refine g_bipush dX4_beside_61 (by decide) ?_
          refine g_cS_i (My := mX4_in) (gs := [_, _, _]) (c_X4_in (by omega) (by omega) (by omega)) mfX4_in rfl wst_X4_in wm_X4_108 dX4_beside_63 (Nat.le_of_ble_eq_true rfl) rfl (fun _ => Nat.le_of_ble_eq_true rfl) (Nat.le_of_ble_eq_true rfl) (Nat.le_of_ble_eq_true rfl) rfl rfl ?_
          refine g_ifb_eq (tgt := 78) dX4_beside_66 (by decide) (fun h66_22 => ?_) (fun h66_22 => ?_)
          · skip
            refine g_iconst dX4_beside_78 ?_
            exact g_iret dX4_beside_79 rfl (Nat.le_of_ble_eq_true rfl) (Nat.le_of_ble_eq_true rfl) (pr_i (by unfold bsdF; simp only [inB, decide_eq_true_eq, decide_eq_false_iff_not] at *; rcases hs with rfl | rfl | rfl | rfl <;> simp <;> (try split) <;> omega) (rfl))
          · skip
            refine g_bipush dX4_beside_69 (by decide) ?_
            refine g_iload_n 1 dX4_beside_71 rfl rfl ?_
            refine g_imul dX4_beside_72 ?_
            refine g_iload_n 0 dX4_beside_73 rfl rfl ?_
            refine g_iadd dX4_beside_74 ?_
            refine g_goto (tgt := 79) dX4_beside_75 (by decide) ?_
            exact g_iret dX4_beside_79 rfl (Nat.le_of_ble_eq_true rfl) (Nat.le_of_ble_eq_true rfl) (pr_i (by unfold bsdF; simp only [inB, decide_eq_true_eq, decide_eq_false_iff_not] at *; rcases hs with rfl | rfl | rfl | rfl <;> simp <;> (try split) <;> omega) (rfl))
      · skip
        refine g_iconst dX4_beside_42 ?_
        refine g_goto (tgt := 47) dX4_beside_43 (by decide) ?_
        refine g_iadd dX4_beside_47 ?_
        refine g_st (ls2 := [(3, _), (2, _), (0, _), (1, _)]) dX4_beside_48 rfl (by decide) (c1_ci (c1_ci (c1_ci c1_0))) rfl ?_
        refine g_iload_n 1 dX4_beside_49 rfl rfl ?_
        refine g_iconst dX4_beside_50 ?_
        refine g_bipush dX4_beside_51 (by decide) ?_
        refine g_cS_i (My := mX4_in) (gs := [_, _, _]) (c_X4_in (by omega) (by omega) (by omega)) mfX4_in rfl wst_X4_in wm_X4_108 dX4_beside_53 (Nat.le_of_ble_eq_true rfl) rfl (fun _ => Nat.le_of_ble_eq_true rfl) (Nat.le_of_ble_eq_true rfl) (Nat.le_of_ble_eq_true rfl) rfl rfl ?_
        refine g_ifb_eq (tgt := 78) dX4_beside_56 (by decide) (fun h56_23 => ?_) (fun h56_23 => ?_)
        · skip
          refine g_iconst dX4_beside_78 ?_
          exact g_iret dX4_beside_79 rfl (Nat.le_of_ble_eq_true rfl) (Nat.le_of_ble_eq_true rfl) (pr_i (by unfold bsdF; simp only [inB, decide_eq_true_eq, decide_eq_false_iff_not] at *; rcases hs with rfl | rfl | rfl | rfl <;> simp <;> (try split) <;> omega) (rfl))
        · skip
          refine g_iload_n 0 dX4_beside_59 rfl rfl ?_
          refine g_iconst dX4_beside_60 ?_
          refine g_bipush dX4_beside_61 (by decide) ?_
          refine g_cS_i (My := mX4_in) (gs := [_, _, _]) (c_X4_in (by omega) (by omega) (by omega)) mfX4_in rfl wst_X4_in wm_X4_108 dX4_beside_63 (Nat.le_of_ble_eq_true rfl) rfl (fun _ => Nat.le_of_ble_eq_true rfl) (Nat.le_of_ble_eq_true rfl) (Nat.le_of_ble_eq_true rfl) rfl rfl ?_
          refine g_ifb_eq (tgt := 78) dX4_beside_66 (by decide) (fun h66_24 => ?_) (fun h66_24 => ?_)
          · skip
            refine g_iconst dX4_beside_78 ?_
            exact g_iret dX4_beside_79 rfl (Nat.le_of_ble_eq_true rfl) (Nat.le_of_ble_eq_true rfl) (pr_i (by unfold bsdF; simp only [inB, decide_eq_true_eq, decide_eq_false_iff_not] at *; rcases hs with rfl | rfl | rfl | rfl <;> simp <;> (try split) <;> omega) (rfl))
          · skip
            refine g_bipush dX4_beside_69 (by decide) ?_
            refine g_iload_n 1 dX4_beside_71 rfl rfl ?_
            refine g_imul dX4_beside_72 ?_
            refine g_iload_n 0 dX4_beside_73 rfl rfl ?_
            refine g_iadd dX4_beside_74 ?_
            refine g_goto (tgt := 79) dX4_beside_75 (by decide) ?_
            exact g_iret dX4_beside_79 rfl (Nat.le_of_ble_eq_true rfl) (Nat.le_of_ble_eq_true rfl) (pr_i (by unfold bsdF; simp only [inB, decide_eq_true_eq, decide_eq_false_iff_not] at *; rcases hs with rfl | rfl | rfl | rfl <;> simp <;> (try split) <;> omega) (rfl))
    · skip
      refine g_iconst dX4_beside_33 ?_
      refine g_goto (tgt := 47) dX4_beside_34 (by decide) ?_
      refine g_iadd dX4_beside_47 ?_
      refine g_st (ls2 := [(3, _), (2, _), (0, _), (1, _)]) dX4_beside_48 rfl (by decide) (c1_ci (c1_ci (c1_ci c1_0))) rfl ?_
      refine g_iload_n 1 dX4_beside_49 rfl rfl ?_
      refine g_iconst dX4_beside_50 ?_
      refine g_bipush dX4_beside_51 (by decide) ?_
      refine g_cS_i (My := mX4_in) (gs := [_, _, _]) (c_X4_in (by omega) (by omega) (by omega)) mfX4_in rfl wst_X4_in wm_X4_108 dX4_beside_53 (Nat.le_of_ble_eq_true rfl) rfl (fun _ => Nat.le_of_ble_eq_true rfl) (Nat.le_of_ble_eq_true rfl) (Nat.le_of_ble_eq_true rfl) rfl rfl ?_
      refine g_ifb_eq (tgt := 78) dX4_beside_56 (by decide) (fun h56_25 => ?_) (fun h56_25 => ?_)
      · skip
        refine g_iconst dX4_beside_78 ?_
        exact g_iret dX4_beside_79 rfl (Nat.le_of_ble_eq_true rfl) (Nat.le_of_ble_eq_true rfl) (pr_i (by unfold bsdF; simp only [inB, decide_eq_true_eq, decide_eq_false_iff_not] at *; rcases hs with rfl | rfl | rfl | rfl <;> simp <;> (try split) <;> omega) (rfl))
      · skip
        refine g_iload_n 0 dX4_beside_59 rfl rfl ?_
        refine g_iconst dX4_beside_60 ?_
        refine g_bipush dX4_beside_61 (by decide) ?_
        refine g_cS_i (My := mX4_in) (gs := [_, _, _]) (c_X4_in (by omega) (by omega) (by omega)) mfX4_in rfl wst_X4_in wm_X4_108 dX4_beside_63 (Nat.le_of_ble_eq_true rfl) rfl (fun _ => Nat.le_of_ble_eq_true rfl) (Nat.le_of_ble_eq_true rfl) (Nat.le_of_ble_eq_true rfl) rfl rfl ?_
        refine g_ifb_eq (tgt := 78) dX4_beside_66 (by decide) (fun h66_26 => ?_) (fun h66_26 => ?_)
        · skip
          refine g_iconst dX4_beside_78 ?_
          exact g_iret dX4_beside_79 rfl (Nat.le_of_ble_eq_true rfl) (Nat.le_of_ble_eq_true rfl) (pr_i (by unfold bsdF; simp only [inB, decide_eq_true_eq, decide_eq_false_iff_not] at *; rcases hs with rfl | rfl | rfl | rfl <;> simp <;> (try split) <;> omega) (rfl))
        · skip
          refine g_bipush dX4_beside_69 (by decide) ?_
          refine g_iload_n 1 dX4_beside_71 rfl rfl ?_
          refine g_imul dX4_beside_72 ?_
          refine g_iload_n 0 dX4_beside_73 rfl rfl ?_
          refine g_iadd dX4_beside_74 ?_
          refine g_goto (tgt := 79) dX4_beside_75 (by decide) ?_
          exact g_iret dX4_beside_79 rfl (Nat.le_of_ble_eq_true rfl) (Nat.le_of_ble_eq_true rfl) (pr_i (by unfold bsdF; simp only [inB, decide_eq_true_eq, decide_eq_false_iff_not] at *; rcases hs with rfl | rfl | rfl | rfl <;> simp <;> (try split) <;> omega) (rfl))

set_option maxRecDepth 20000 in
theorem c_X4_isBesideOpen {L : Nat → Nat} {A B : Mem} (hM : LM L) (hV : VC L B) (hR : Rel B A) {c : Int} (hc : 0 ≤ c ∧ c < 100) : Ct mX4_isBesideOpen [gr 20, gi c] L A (pr (some (gi (b2 (besB B c)))) L A) := by
  have hnc := vc_nc hV; have hns := vc_ns hV; have hp0 := (vc_p hV).1
  have rnow := rl_now hR; have rnc := rl_nc hR; have rns := rl_ns hR
  refine Ct_of (ls := [(0, _), (1, _)]) rfl (by decide) (fun _ => rfl) (fun _ => Nat.le_of_ble_eq_true rfl) ?_
  refine g_iconst dX4_isBesideOpen_0 ?_
  refine g_st (ls2 := [(2, _), (0, _), (1, _)]) dX4_isBesideOpen_1 rfl (by decide) (c1_cr (c1_ci c1_0)) rfl ?_
  refine g_iconst dX4_isBesideOpen_2 ?_
  refine g_st (ls2 := [(3, _), (2, _), (0, _), (1, _)]) dX4_isBesideOpen_3 rfl (by decide) (c1_ci (c1_cr (c1_ci c1_0))) rfl ?_
  refine g_sub [2, 3, 1, 0] (ls2 := [(0, _), (1, _), (2, _), (3, _)]) rfl ?_
  have hQ4 : (fun i : Nat => GW mX4_isBesideOpen (pr (some (gi (b2 (besB B c)))) L A) 0 0 4 [(0, gr (20)), (1, gi (c)), (2, gi (b2 (bsoF B c i))), (3, gi ((i : Int)))] [] L (A)) 0 := by
    refine lp_up (Q := (fun i : Nat => GW mX4_isBesideOpen (pr (some (gi (b2 (besB B c)))) L A) 0 0 4 [(0, gr (20)), (1, gi (c)), (2, gi (b2 (bsoF B c i))), (3, gi ((i : Int)))] [] L (A))) (n := 4) ?_ (fun i hi4 ih4 => ?_)
    · skip
      refine g_iload_n 3 dX4_isBesideOpen_4 rfl rfl ?_
      refine g_iconst dX4_isBesideOpen_5 ?_
      refine g_icmp_ge (tgt := 49) (by omega) (by omega) dX4_isBesideOpen_6 (by decide) (fun h6_1 => ?_) (fun h6_1 => absurd h6_1 (by omega))
      refine g_iload_n 2 dX4_isBesideOpen_49 rfl rfl ?_
      exact g_zret dX4_isBesideOpen_50 rfl (b2_01 _) (Nat.le_of_ble_eq_true rfl) (Nat.le_of_ble_eq_true rfl) (pr_i (by rw [bsoF_4 hc]) (rfl))
    · skip
      refine g_iload_n 3 dX4_isBesideOpen_4 rfl rfl ?_
      refine g_iconst dX4_isBesideOpen_5 ?_
      refine g_icmp_ge (tgt := 49) (by omega) (by omega) dX4_isBesideOpen_6 (by decide) (fun h6_2 => absurd h6_2 (by omega)) (fun h6_2 => ?_)
      refine g_iload_n 1 dX4_isBesideOpen_9 rfl rfl ?_
      refine g_iload_n 3 dX4_isBesideOpen_10 rfl rfl ?_
      refine g_cS_i (My := mX4_beside) (gs := [_, _]) (c_X4_beside (c := c) (s := i) (by omega) (by omega)) mfX4_beside rfl wst_X4_beside wm_X4_158 dX4_isBesideOpen_11 (Nat.le_of_ble_eq_true rfl) rfl (fun _ => Nat.le_of_ble_eq_true rfl) (Nat.le_of_ble_eq_true rfl) (Nat.le_of_ble_eq_true rfl) rfl rfl ?_
      refine g_st2 (ls2 := [(4, _), (0, _), (1, _), (2, _), (3, _)]) dX4_isBesideOpen_14 (by decide) (c1_cr (c1_ci (c1_ci (c1_ci c1_0)))) rfl ?_
      refine g_iload_n 3 dX4_isBesideOpen_16 rfl rfl ?_
      refine g_ifb_ne (tgt := 37) dX4_isBesideOpen_17 (by decide) (fun h17_3 => ?_) (fun h17_3 => ?_)
      · skip
        refine g_iconst dX4_isBesideOpen_37 ?_
        refine g_goto (tgt := 42) dX4_isBesideOpen_38 (by decide) ?_
        refine g_top (y := b2 (bsoF B c (i + 1))) (by simp only [bsoF]; grind [b2]) ?_
        refine g_st (ls2 := [(2, _), (4, _), (0, _), (1, _), (3, _)]) dX4_isBesideOpen_42 rfl (by decide) (c1_ci (c1_cr (c1_ci (c1_ci (c1_ci c1_0))))) rfl ?_
        refine g_inc (ls2 := [(3, _), (2, _), (4, _), (0, _), (1, _)]) 4 dX4_isBesideOpen_43 rfl (by decide) (c1_ci (c1_ci (c1_cr (c1_ci (c1_ci c1_0))))) rfl ?_
        refine g_goto (tgt := 4) dX4_isBesideOpen_46 (by decide) ?_
        refine g_sub [3, 4, 1, 0] (ls2 := [(0, _), (1, _), (2, _), (3, _)]) rfl ?_
        exact g_ls (by rfl) rfl rfl ih4
      · skip
        refine g_iload 0 dX4_isBesideOpen_20 rfl ?_
        have hbr := bsdF_rg hc i
        have rst := congrFun (rl_st hR) (bsdF c i).toNat
        refine g_iconst dX4_isBesideOpen_22 ?_
        refine g_icmp_eq (tgt := 41) (by omega) (by omega) dX4_isBesideOpen_23 (by decide) (fun h23_4 => ?_) (fun h23_4 => ?_)
        · skip
          refine g_iconst dX4_isBesideOpen_41 ?_
          refine g_top (y := b2 (bsoF B c (i + 1))) (by simp only [bsoF]; grind [b2]) ?_
          refine g_st (ls2 := [(2, _), (4, _), (0, _), (1, _), (3, _)]) dX4_isBesideOpen_42 rfl (by decide) (c1_ci (c1_cr (c1_ci (c1_ci (c1_ci c1_0))))) rfl ?_
          refine g_inc (ls2 := [(3, _), (2, _), (4, _), (0, _), (1, _)]) 4 dX4_isBesideOpen_43 rfl (by decide) (c1_ci (c1_ci (c1_cr (c1_ci (c1_ci c1_0))))) rfl ?_
          refine g_goto (tgt := 4) dX4_isBesideOpen_46 (by decide) ?_
          refine g_sub [3, 4, 1, 0] (ls2 := [(0, _), (1, _), (2, _), (3, _)]) rfl ?_
          exact g_ls (by rfl) rfl rfl ih4
        · skip
          refine g_aload_n 1 dX4_isBesideOpen_26 rfl rfl ?_
          refine g_getfr2 (r := 23) cf_5 2 rfl (by decide) (by decide) rfl (by decide) wf_X4_7 dX4_isBesideOpen_27 (hM 20 rfl) rfl ?_
          refine g_iload 0 dX4_isBesideOpen_30 rfl ?_
          refine g_ia (by omega) (by omega) rfl (by decide) dX4_isBesideOpen_32 (n2 (hM 23 rfl)) (fun h32_5 => ?_)
          refine g_iconst dX4_isBesideOpen_33 ?_
          refine g_icmp_ne (tgt := 41) (by omega) (by omega) dX4_isBesideOpen_34 (by decide) (fun h34_6 => ?_) (fun h34_6 => ?_)
          · skip
            refine g_iconst dX4_isBesideOpen_41 ?_
            refine g_top (y := b2 (bsoF B c (i + 1))) (by simp only [bsoF]; grind [b2]) ?_
            refine g_st (ls2 := [(2, _), (4, _), (0, _), (1, _), (3, _)]) dX4_isBesideOpen_42 rfl (by decide) (c1_ci (c1_cr (c1_ci (c1_ci (c1_ci c1_0))))) rfl ?_
            refine g_inc (ls2 := [(3, _), (2, _), (4, _), (0, _), (1, _)]) 4 dX4_isBesideOpen_43 rfl (by decide) (c1_ci (c1_ci (c1_cr (c1_ci (c1_ci c1_0))))) rfl ?_
            refine g_goto (tgt := 4) dX4_isBesideOpen_46 (by decide) ?_
            refine g_sub [3, 4, 1, 0] (ls2 := [(0, _), (1, _), (2, _), (3, _)]) rfl ?_
            exact g_ls (by rfl) rfl rfl ih4
          · skip
            refine g_iconst dX4_isBesideOpen_37 ?_
            refine g_goto (tgt := 42) dX4_isBesideOpen_38 (by decide) ?_
            refine g_top (y := b2 (bsoF B c (i + 1))) (by simp only [bsoF]; grind [b2]) ?_
            refine g_st (ls2 := [(2, _), (4, _), (0, _), (1, _), (3, _)]) dX4_isBesideOpen_42 rfl (by decide) (c1_ci (c1_cr (c1_ci (c1_ci (c1_ci c1_0))))) rfl ?_
            refine g_inc (ls2 := [(3, _), (2, _), (4, _), (0, _), (1, _)]) 4 dX4_isBesideOpen_43 rfl (by decide) (c1_ci (c1_ci (c1_cr (c1_ci (c1_ci c1_0))))) rfl ?_
            refine g_goto (tgt := 4) dX4_isBesideOpen_46 (by decide) ?_
            refine g_sub [3, 4, 1, 0] (ls2 := [(0, _), (1, _), (2, _), (3, _)]) rfl ?_
            exact g_ls (by rfl) rfl rfl ih4
  exact g_ls (by rfl) rfl rfl hQ4

set_option maxRecDepth 20000 in
theorem c_X4_isLoose {L : Nat → Nat} {A B : Mem} (hM : LM L) (hV : VC L B) (hR : Rel B A) {c : Int} (hc : c = -1 ∨ (0 ≤ c ∧ c < 100)) : Ct mX4_isLoose [gr 20, gi c] L A (pr (some (gi (b2 (loB B c)))) L A) := by
  have hnc := vc_nc hV; have hns := vc_ns hV; have hp0 := (vc_p hV).1
  have rnow := rl_now hR; have rnc := rl_nc hR; have rns := rl_ns hR
  have rst := congrFun (rl_st hR) c.toNat; have rpr := congrFun (rl_pr hR) c.toNat; have hz16 := (vc_g hV).2.2.2.2.1 c.toNat
  refine Ct_of (ls := [(0, _), (1, _)]) rfl (by decide) (fun _ => rfl) (fun _ => Nat.le_of_ble_eq_true rfl) ?_
  refine g_iload_n 1 dX4_isLoose_0 rfl rfl ?_
  refine g_iconst dX4_isLoose_1 ?_
  refine g_icmp_eq (tgt := 28) (by omega) (by omega) dX4_isLoose_2 (by decide) (fun h2_1 => ?_) (fun h2_1 => ?_)
  · skip
    refine g_iconst dX4_isLoose_28 ?_
    exact g_zret dX4_isLoose_29 rfl (Or.inl rfl) (Nat.le_of_ble_eq_true rfl) (Nat.le_of_ble_eq_true rfl) (pr_i (b2_0 (by unfold loB; grind)) (rfl))
  · skip
    refine g_aload_n 0 dX4_isLoose_5 rfl rfl ?_
    refine g_getfr2 (r := 23) cf_5 2 rfl (by decide) (by decide) rfl (by decide) wf_X4_7 dX4_isLoose_6 (hM 20 rfl) rfl ?_
    refine g_iload_n 1 dX4_isLoose_9 rfl rfl ?_
    refine g_ia (by omega) (by omega) rfl (by decide) dX4_isLoose_10 (n2 (hM 23 rfl)) (fun h10_2 => ?_)
    refine g_iconst dX4_isLoose_11 ?_
    refine g_icmp_ne (tgt := 28) (by omega) (by omega) dX4_isLoose_12 (by decide) (fun h12_3 => ?_) (fun h12_3 => ?_)
    · skip
      refine g_iconst dX4_isLoose_28 ?_
      exact g_zret dX4_isLoose_29 rfl (Or.inl rfl) (Nat.le_of_ble_eq_true rfl) (Nat.le_of_ble_eq_true rfl) (pr_i (b2_0 (by unfold loB; grind)) (rfl))
    · skip
      refine g_aload_n 0 dX4_isLoose_15 rfl rfl ?_
      refine g_getfr2 (r := 27) cf_5 6 rfl (by decide) (by decide) rfl (by decide) wf_X4_23 dX4_isLoose_16 (hM 20 rfl) rfl ?_
      refine g_iload_n 1 dX4_isLoose_19 rfl rfl ?_
      refine g_za (by omega) (by omega) rfl (by decide) dX4_isLoose_20 (n2 (hM 27 rfl)) (fun h20_4 => ?_)
      refine g_if_ne (tgt := 28) (by omega) dX4_isLoose_21 (by decide) (fun h21_5 => ?_) (fun h21_5 => ?_)
      · skip
        refine g_iconst dX4_isLoose_28 ?_
        exact g_zret dX4_isLoose_29 rfl (Or.inl rfl) (Nat.le_of_ble_eq_true rfl) (Nat.le_of_ble_eq_true rfl) (pr_i (b2_0 (by unfold loB; grind)) (rfl))
      · skip
        refine g_iconst dX4_isLoose_24 ?_
        refine g_goto (tgt := 29) dX4_isLoose_25 (by decide) ?_
        exact g_zret dX4_isLoose_29 rfl (Or.inr rfl) (Nat.le_of_ble_eq_true rfl) (Nat.le_of_ble_eq_true rfl) (pr_i (b2_1 (by unfold loB; grind)) (rfl))

set_option maxRecDepth 20000 in
theorem c_X4_isLive {L : Nat → Nat} {A B : Mem} (hM : LM L) (hV : VC L B) (hR : Rel B A) {k : Nat} (hk : (k : Int) < B 2 2) : Ct mX4_isLive [gr 20, gi (k : Int)] L A (pr (some (gi (b2 (livC B k)))) L A) := by
  have hnc := vc_nc hV; have hns := vc_ns hV; have hp0 := (vc_p hV).1
  have rnow := rl_now hR; have rnc := rl_nc hR; have rns := rl_ns hR
  have rk := rl_k hR hk; have hcv := vc_cv hV hk; have hk12 := vc_k hV hk
  refine Ct_of (ls := [(0, _), (1, _)]) rfl (by decide) (fun _ => rfl) (fun _ => Nat.le_of_ble_eq_true rfl) ?_
  refine g_aload_n 0 dX4_isLive_0 rfl rfl ?_
  refine g_getfi cf_5 1 rfl (by decide) (by decide) rfl (by decide) wf_X4_118 dX4_isLive_1 (n2 (hM 20 rfl)) (fun h1_1 => ?_)
  refine g_aload_n 0 dX4_isLive_4 rfl rfl ?_
  refine g_getfr2 (r := 36) cf_5 15 rfl (by decide) (by decide) rfl (by decide) wf_X4_47 dX4_isLive_5 (hM 20 rfl) rfl ?_
  refine g_iload_n 1 dX4_isLive_8 rfl rfl ?_
  refine g_iald (k) (by omega) (by omega) rfl (by decide) dX4_isLive_9 (n2 (hM 36 rfl)) (fun h9_2 => ?_)
  refine g_isub dX4_isLive_10 ?_
  refine g_bipush dX4_isLive_11 (by decide) ?_
  have h4 := hcv.2.2.2.1; have h5 := rk.2.2.2.2.1
  refine g_icmp_ge (tgt := 20) (by omega) (by omega) dX4_isLive_13 (by decide) (fun h13_3 => ?_) (fun h13_3 => ?_)
  · skip
    refine g_iconst dX4_isLive_20 ?_
    exact g_zret dX4_isLive_21 rfl (Or.inl rfl) (Nat.le_of_ble_eq_true rfl) (Nat.le_of_ble_eq_true rfl) (pr_i (b2_0 (by unfold livC livB; have := rk.2.2.2.2.1; grind)) (rfl))
  · skip
    refine g_iconst dX4_isLive_16 ?_
    refine g_goto (tgt := 21) dX4_isLive_17 (by decide) ?_
    exact g_zret dX4_isLive_21 rfl (Or.inr rfl) (Nat.le_of_ble_eq_true rfl) (Nat.le_of_ble_eq_true rfl) (pr_i (b2_1 (by unfold livC livB; have := rk.2.2.2.2.1; grind)) (rfl))

set_option maxHeartbeats 1000000 in
set_option maxRecDepth 20000 in
theorem c_X4_covers {L : Nat → Nat} {A B : Mem} (hM : LM L) (hV : VC L B) (hR : Rel B A) {k : Nat} (hk : (k : Int) < B 2 2) {x : Int} (hx : 0 ≤ x ∧ x < 100) : Ct mX4_covers [gr 20, gi (k : Int), gi x] L A (pr (some (gi (b2 (covC B x k)))) L A) := by
  have hnc := vc_nc hV; have hns := vc_ns hV; have hp0 := (vc_p hV).1
  have rnow := rl_now hR; have rnc := rl_nc hR; have rns := rl_ns hR
  have rk := rl_k hR hk; have hcv := vc_cv hV hk; have hk12 := vc_k hV hk
  refine Ct_of (ls := [(0, _), (1, _), (2, _)]) rfl (by decide) (fun _ => rfl) (fun _ => Nat.le_of_ble_eq_true rfl) ?_
  refine g_iload_n 2 dX4_covers_0 rfl rfl ?_
  refine g_bipush dX4_covers_1 (by decide) ?_
  refine g_idiv (by omega) (by omega) dX4_covers_3 ?_
  refine g_aload_n 0 dX4_covers_4 rfl rfl ?_
  refine g_getfr2 (r := 32) cf_5 11 rfl (by decide) (by decide) rfl (by decide) wf_X4_35 dX4_covers_5 (hM 20 rfl) rfl ?_
  refine g_iload_n 1 dX4_covers_8 rfl rfl ?_
  refine g_iald (k) (by omega) (by omega) rfl (by decide) dX4_covers_9 (n2 (hM 32 rfl)) (fun h9_1 => ?_)
  have hc2 := rk.2.1; have hgg := hcv.2.1
  refine g_bipush dX4_covers_10 (by decide) ?_
  refine g_idiv (by omega) (by omega) dX4_covers_12 ?_
  refine g_isub dX4_covers_13 ?_
  refine g_st (ls2 := [(3, _), (0, _), (1, _), (2, _)]) dX4_covers_14 rfl (by decide) (c1_cr (c1_ci (c1_ci c1_0))) rfl ?_
  refine g_iload_n 3 dX4_covers_15 rfl rfl ?_
  refine g_bipush dX4_covers_16 (by decide) ?_
  refine g_irem (by omega) (by omega) dX4_covers_18 ?_
  refine g_aload_n 1 dX4_covers_19 rfl rfl ?_
  refine g_getfr2 (r := 32) cf_5 11 rfl (by decide) (by decide) rfl (by decide) wf_X4_35 dX4_covers_20 (hM 20 rfl) rfl ?_
  refine g_iload_n 2 dX4_covers_23 rfl rfl ?_
  refine g_iald (k) (by omega) (by omega) rfl (by decide) dX4_covers_24 (n2 (hM 32 rfl)) (fun h24_2 => ?_)
  refine g_bipush dX4_covers_25 (by decide) ?_
  refine g_irem (by omega) (by omega) dX4_covers_27 ?_
  refine g_isub dX4_covers_28 ?_
  refine g_st2 (ls2 := [(4, _), (3, _), (0, _), (1, _), (2, _)]) dX4_covers_29 (by decide) (c1_ci (c1_cr (c1_ci (c1_ci c1_0)))) rfl ?_
  refine g_iload_n 1 dX4_covers_31 rfl rfl ?_
  refine g_iconst dX4_covers_32 ?_
  refine g_aload_n 2 dX4_covers_33 rfl rfl ?_
  refine g_getfr2 (r := 33) cf_5 12 rfl (by decide) (by decide) rfl (by decide) wf_X4_38 dX4_covers_34 (hM 20 rfl) rfl ?_
  refine g_iload_n 3 dX4_covers_37 rfl rfl ?_
  refine g_iald (k) (by omega) (by omega) rfl (by decide) dX4_covers_38 (n2 (hM 33 rfl)) (fun h38_3 => ?_)
  have hc3 := rk.2.2.1
  refine g_iconst dX4_covers_39 ?_
  refine g_isub dX4_covers_40 ?_
  refine g_cS_i (My := mX4_in) (gs := [_, _, _]) (c_X4_in (by omega) (by omega) (by omega)) mfX4_in rfl wst_X4_in wm_X4_108 dX4_covers_41 (Nat.le_of_ble_eq_true rfl) rfl (fun _ => Nat.le_of_ble_eq_true rfl) (Nat.le_of_ble_eq_true rfl) (Nat.le_of_ble_eq_true rfl) rfl rfl ?_
  refine g_ifb_eq (tgt := 68) dX4_covers_44 (by decide) (fun h44_4 => ?_) (fun h44_4 => ?_)
  · skip
    refine g_iconst dX4_covers_68 ?_
    exact g_zret dX4_covers_69 rfl (Or.inl rfl) (Nat.le_of_ble_eq_true rfl) (Nat.le_of_ble_eq_true rfl) (pr_i (b2_0 (by unfold covC covB; simp only [inB] at *; grind)) (rfl))
  · skip
    have hxx : -2147483648 ≤ x % 10 - A 32 k % 10 ∧ x % 10 - A 32 k % 10 < 2147483648 := by (rw [hc2]; omega)
    refine g_iload 0 dX4_covers_47 rfl ?_
    refine g_iconst dX4_covers_49 ?_
    refine g_aload_n 2 dX4_covers_50 rfl rfl ?_
    refine g_getfr2 (r := 34) cf_5 13 rfl (by decide) (by decide) rfl (by decide) wf_X4_41 dX4_covers_51 (hM 20 rfl) rfl ?_
    refine g_iload_n 3 dX4_covers_54 rfl rfl ?_
    refine g_iald (k) (by omega) (by omega) rfl (by decide) dX4_covers_55 (n2 (hM 34 rfl)) (fun h55_5 => ?_)
    have hc4 := rk.2.2.2.1
    refine g_iconst dX4_covers_56 ?_
    refine g_isub dX4_covers_57 ?_
    refine g_cS_i (My := mX4_in) (gs := [_, _, _]) (c_X4_in (by omega) (by omega) (by omega)) mfX4_in rfl wst_X4_in wm_X4_108 dX4_covers_58 (Nat.le_of_ble_eq_true rfl) rfl (fun _ => Nat.le_of_ble_eq_true rfl) (Nat.le_of_ble_eq_true rfl) (Nat.le_of_ble_eq_true rfl) rfl rfl ?_
    refine g_ifb_eq (tgt := 68) dX4_covers_61 (by decide) (fun h61_6 => ?_) (fun h61_6 => ?_)
    · skip
      refine g_iconst dX4_covers_68 ?_
      exact g_zret dX4_covers_69 rfl (Or.inl rfl) (Nat.le_of_ble_eq_true rfl) (Nat.le_of_ble_eq_true rfl) (pr_i (b2_0 (by unfold covC covB; simp only [inB] at *; grind)) (rfl))
    · skip
      refine g_iconst dX4_covers_64 ?_
      refine g_goto (tgt := 69) dX4_covers_65 (by decide) ?_
      exact g_zret dX4_covers_69 rfl (Or.inr rfl) (Nat.le_of_ble_eq_true rfl) (Nat.le_of_ble_eq_true rfl) (pr_i (b2_1 (by unfold covC covB; simp only [inB] at *; grind)) (rfl))

set_option maxRecDepth 20000 in
theorem c_X4_upTo {L : Nat → Nat} {A B : Mem} (hM : LM L) (hV : VC L B) (hR : Rel B A) {k : Nat} (hk : (k : Int) < B 2 2) {q : Int} (hq : -2147483648 ≤ q ∧ q < 2147483648) : Ct mX4_upTo [gr 20, gi (k : Int), gi q] L A (pr (some (gi (leH (B (102 + 3 * k)) q 8))) L A) := by
  have hnc := vc_nc hV; have hns := vc_ns hV; have hp0 := (vc_p hV).1
  have rnow := rl_now hR; have rnc := rl_nc hR; have rns := rl_ns hR
  have rk := rl_k hR hk; have hcv := vc_cv hV hk; have hk12 := vc_k hV hk
  refine Ct_of (ls := [(0, _), (1, _), (2, _)]) rfl (by decide) (fun _ => rfl) (fun _ => Nat.le_of_ble_eq_true rfl) ?_
  refine g_iconst dX4_upTo_0 ?_
  refine g_st (ls2 := [(3, _), (0, _), (1, _), (2, _)]) dX4_upTo_1 rfl (by decide) (c1_cr (c1_ci (c1_ci c1_0))) rfl ?_
  refine g_iconst dX4_upTo_2 ?_
  refine g_st2 (ls2 := [(4, _), (3, _), (0, _), (1, _), (2, _)]) dX4_upTo_3 (by decide) (c1_ci (c1_cr (c1_ci (c1_ci c1_0)))) rfl ?_
  refine g_sub [2, 3, 4, 1, 0] (ls2 := [(0, _), (1, _), (2, _), (3, _), (4, _)]) rfl ?_
  have hQ5 : (fun i : Nat => GW mX4_upTo (pr (some (gi (leH (B (102 + 3 * k)) q 8))) L A) 0 0 5 [(0, gr (20)), (1, gi ((k : Int))), (2, gi (q)), (3, gi (leH (B (102 + 3 * k)) q i)), (4, gi ((i : Int)))] [] L (A)) 0 := by
    refine lp_up (Q := (fun i : Nat => GW mX4_upTo (pr (some (gi (leH (B (102 + 3 * k)) q 8))) L A) 0 0 5 [(0, gr (20)), (1, gi ((k : Int))), (2, gi (q)), (3, gi (leH (B (102 + 3 * k)) q i)), (4, gi ((i : Int)))] [] L (A))) (n := 8) ?_ (fun i hi5 ih5 => ?_)
    · skip
      refine g_iload 4 dX4_upTo_5 rfl ?_
      refine g_bipush dX4_upTo_7 (by decide) ?_
      refine g_icmp_ge (tgt := 52) (by omega) (by omega) dX4_upTo_9 (by decide) (fun h9_1 => ?_) (fun h9_1 => absurd h9_1 (by omega))
      refine g_iload_n 3 dX4_upTo_52 rfl rfl ?_
      exact g_iret dX4_upTo_53 rfl (Nat.le_of_ble_eq_true rfl) (Nat.le_of_ble_eq_true rfl) (pr_i (rfl) (rfl))
    · skip
      refine g_iload 4 dX4_upTo_5 rfl ?_
      refine g_bipush dX4_upTo_7 (by decide) ?_
      refine g_icmp_ge (tgt := 52) (by omega) (by omega) dX4_upTo_9 (by decide) (fun h9_2 => absurd h9_2 (by omega)) (fun h9_2 => ?_)
      refine g_aload_n 0 dX4_upTo_12 rfl rfl ?_
      refine g_getfr2 (r := 39) cf_5 18 rfl (by decide) (by decide) rfl (by decide) wf_X4_56 dX4_upTo_13 (hM 20 rfl) rfl ?_
      refine g_bipush dX4_upTo_16 (by decide) ?_
      refine g_iload_n 1 dX4_upTo_18 rfl rfl ?_
      refine g_imul dX4_upTo_19 ?_
      refine g_iload 4 dX4_upTo_20 rfl ?_
      refine g_iadd dX4_upTo_22 ?_
      refine g_iald (8 * k + i) (by omega) (by omega) rfl (by decide) dX4_upTo_23 (n2 (hM 39 rfl)) (fun h23_3 => ?_)
      have h39 := rk.2.2.2.2.2.2.2.1 i hi5
      refine g_top (y := B (102 + 3 * k) i) h39 ?_
      have hh9 := hcv.2.2.2.2.2.2 i
      refine g_st2 (ls2 := [(5, _), (0, _), (1, _), (2, _), (3, _), (4, _)]) dX4_upTo_24 (by decide) (c1_cr (c1_ci (c1_ci (c1_ci (c1_ci c1_0))))) rfl ?_
      refine g_iload_n 4 dX4_upTo_26 rfl rfl ?_
      refine g_iload 0 dX4_upTo_27 rfl ?_
      refine g_iconst dX4_upTo_29 ?_
      refine g_icmp_eq (tgt := 43) (by omega) (by omega) dX4_upTo_30 (by decide) (fun h30_4 => ?_) (fun h30_4 => ?_)
      · skip
        refine g_iconst dX4_upTo_43 ?_
        refine g_top (y := if B (102 + 3 * k) i = -1 then 0 else b2 (decide (B (102 + 3 * k) i ≤ q))) (by grind [b2]) ?_
        refine g_iadd dX4_upTo_44 ?_
        refine g_st (ls2 := [(3, _), (5, _), (0, _), (1, _), (2, _), (4, _)]) dX4_upTo_45 rfl (by decide) (c1_ci (c1_cr (c1_ci (c1_ci (c1_ci (c1_ci c1_0)))))) rfl ?_
        refine g_inc (ls2 := [(4, _), (3, _), (5, _), (0, _), (1, _), (2, _)]) 5 dX4_upTo_46 rfl (by decide) (c1_ci (c1_ci (c1_cr (c1_ci (c1_ci (c1_ci c1_0)))))) rfl ?_
        refine g_goto (tgt := 5) dX4_upTo_49 (by decide) ?_
        refine g_sub [3, 4, 5, 1, 0] (ls2 := [(0, _), (1, _), (2, _), (3, _), (4, _)]) rfl ?_
        exact g_ls (by simp only [leH]; split <;> simp) rfl rfl ih5
      · skip
        refine g_iload 0 dX4_upTo_33 rfl ?_
        refine g_iload_n 3 dX4_upTo_35 rfl rfl ?_
        refine g_icmp_gt (tgt := 43) (by omega) (by omega) dX4_upTo_36 (by decide) (fun h36_5 => ?_) (fun h36_5 => ?_)
        · skip
          refine g_iconst dX4_upTo_43 ?_
          refine g_top (y := if B (102 + 3 * k) i = -1 then 0 else b2 (decide (B (102 + 3 * k) i ≤ q))) (by grind [b2]) ?_
          refine g_iadd dX4_upTo_44 ?_
          refine g_st (ls2 := [(3, _), (5, _), (0, _), (1, _), (2, _), (4, _)]) dX4_upTo_45 rfl (by decide) (c1_ci (c1_cr (c1_ci (c1_ci (c1_ci (c1_ci c1_0)))))) rfl ?_
          refine g_inc (ls2 := [(4, _), (3, _), (5, _), (0, _), (1, _), (2, _)]) 5 dX4_upTo_46 rfl (by decide) (c1_ci (c1_ci (c1_cr (c1_ci (c1_ci (c1_ci c1_0)))))) rfl ?_
          refine g_goto (tgt := 5) dX4_upTo_49 (by decide) ?_
          refine g_sub [3, 4, 5, 1, 0] (ls2 := [(0, _), (1, _), (2, _), (3, _), (4, _)]) rfl ?_
          exact g_ls (by simp only [leH]; split <;> simp) rfl rfl ih5
        · skip
          refine g_iconst dX4_upTo_39 ?_
          refine g_goto (tgt := 44) dX4_upTo_40 (by decide) ?_
          refine g_top (y := if B (102 + 3 * k) i = -1 then 0 else b2 (decide (B (102 + 3 * k) i ≤ q))) (by grind [b2]) ?_
          refine g_iadd dX4_upTo_44 ?_
          refine g_st (ls2 := [(3, _), (5, _), (0, _), (1, _), (2, _), (4, _)]) dX4_upTo_45 rfl (by decide) (c1_ci (c1_cr (c1_ci (c1_ci (c1_ci (c1_ci c1_0)))))) rfl ?_
          refine g_inc (ls2 := [(4, _), (3, _), (5, _), (0, _), (1, _), (2, _)]) 5 dX4_upTo_46 rfl (by decide) (c1_ci (c1_ci (c1_cr (c1_ci (c1_ci (c1_ci c1_0)))))) rfl ?_
          refine g_goto (tgt := 5) dX4_upTo_49 (by decide) ?_
          refine g_sub [3, 4, 5, 1, 0] (ls2 := [(0, _), (1, _), (2, _), (3, _), (4, _)]) rfl ?_
          exact g_ls (by simp only [leH]; split <;> simp) rfl rfl ih5
  exact g_ls (by rfl) rfl rfl hQ5

theorem leH_all {h : Nat → Int} {M : Int} (hb : ∀ p, -1 ≤ h p ∧ h p ≤ M) (n : Nat) : leH h M n = cntH h n := by
  induction n with
  | zero => rfl
  | succ n ih =>
    simp only [leH, cntH, ih]
    split
    · rfl
    · rw [show decide (h n ≤ M) = true from decide_eq_true (hb n).2]; rfl

set_option maxHeartbeats 1000000 in
set_option maxRecDepth 20000 in
theorem c_X4_hourOf {L : Nat → Nat} {A B : Mem} (hM : LM L) (hV : VC L B) (hR : Rel B A) {k : Nat} (hk : (k : Int) < B 2 2) : Ct mX4_hourOf [gr 20, gi (k : Int)] L A (pr (some (gi (B (100 + 3 * k) 5))) L A) := by
  have hnc := vc_nc hV; have hns := vc_ns hV; have hp0 := (vc_p hV).1
  have rnow := rl_now hR; have rnc := rl_nc hR; have rns := rl_ns hR
  have rk := rl_k hR hk; have hcv := vc_cv hV hk; have hk12 := vc_k hV hk
  refine Ct_of (ls := [(0, _), (1, _)]) rfl (by decide) (fun _ => rfl) (fun _ => Nat.le_of_ble_eq_true rfl) ?_
  refine g_aload_n 0 dX4_hourOf_0 rfl rfl ?_
  refine g_iload_n 1 dX4_hourOf_1 rfl rfl ?_
  refine g_sipush dX4_hourOf_2 (by decide) ?_
  refine g_cV_i (My := mX4_upTo) (gs := [_, _]) (c_X4_upTo hM hV hR hk (q := 5000) (by omega)) mfX4_upTo cf_5 wi_X4_upTo wsl_X4_upTo wm_X4_138 dX4_hourOf_5 (Nat.le_of_ble_eq_true rfl) rfl (by decide) (n2 (hM 20 rfl)) rfl (fun _ => Nat.le_of_ble_eq_true rfl) (Nat.le_of_ble_eq_true rfl) (Nat.le_of_ble_eq_true rfl) rfl rfl ?_
  rw [leH_all hcv.2.2.2.2.2.2]
  have hcr := cntH_rg (B (102 + 3 * k)) 8
  have hho := rk.2.2.2.2.2.2.2.2.2; unfold hourM at hho
  refine g_st (ls2 := [(2, _), (0, _), (1, _)]) dX4_hourOf_8 rfl (by decide) (c1_cr (c1_ci c1_0)) rfl ?_
  refine g_iload_n 0 dX4_hourOf_9 rfl rfl ?_
  refine g_if_ne (tgt := 20) (by omega) dX4_hourOf_10 (by decide) (fun h10_1 => ?_) (fun h10_1 => ?_)
  · skip
    refine g_iconst dX4_hourOf_20 ?_
    refine g_st (ls2 := [(3, _), (2, _), (0, _), (1, _)]) dX4_hourOf_21 rfl (by decide) (c1_ci (c1_cr (c1_ci c1_0))) rfl ?_
    refine g_iconst dX4_hourOf_22 ?_
    refine g_st2 (ls2 := [(4, _), (3, _), (2, _), (0, _), (1, _)]) dX4_hourOf_23 (by decide) (c1_ci (c1_ci (c1_cr (c1_ci c1_0)))) rfl ?_
    refine g_sub [3, 4, 2, 1, 0] (ls2 := [(0, _), (1, _), (2, _), (3, _), (4, _)]) rfl ?_
    have hQ25 : (fun i : Nat => GW mX4_hourOf (pr (some (gi (B (100 + 3 * k) 5))) L A) 0 0 25 [(0, gr (20)), (1, gi ((k : Int))), (2, gi (cntH (B (102 + 3 * k)) 8)), (3, gi (minF (B (102 + 3 * k)) i)), (4, gi ((i : Int)))] [] L (A)) 0 := by
      refine lp_up (Q := (fun i : Nat => GW mX4_hourOf (pr (some (gi (B (100 + 3 * k) 5))) L A) 0 0 25 [(0, gr (20)), (1, gi ((k : Int))), (2, gi (cntH (B (102 + 3 * k)) 8)), (3, gi (minF (B (102 + 3 * k)) i)), (4, gi ((i : Int)))] [] L (A))) (n := 8) ?_ (fun i hi25 ih25 => ?_)
      · skip
        refine g_iload 4 dX4_hourOf_25 rfl ?_
        refine g_bipush dX4_hourOf_27 (by decide) ?_
        refine g_icmp_ge (tgt := 103) (by omega) (by omega) dX4_hourOf_29 (by decide) (fun h29_2 => ?_) (fun h29_2 => absurd h29_2 (by omega))
        refine g_iload_n 3 dX4_hourOf_103 rfl rfl ?_
        exact g_iret dX4_hourOf_104 rfl (Nat.le_of_ble_eq_true rfl) (Nat.le_of_ble_eq_true rfl) (pr_i (by rw [hho, if_neg (by assumption)]) (rfl))
      · skip
        have hmr := minF_rg hcv.2.2.2.2.2.2 i
        refine g_iload 4 dX4_hourOf_25 rfl ?_
        refine g_bipush dX4_hourOf_27 (by decide) ?_
        refine g_icmp_ge (tgt := 103) (by omega) (by omega) dX4_hourOf_29 (by decide) (fun h29_3 => absurd h29_3 (by omega)) (fun h29_3 => ?_)
        refine g_aload_n 0 dX4_hourOf_32 rfl rfl ?_
        refine g_getfr2 (r := 39) cf_5 18 rfl (by decide) (by decide) rfl (by decide) wf_X4_56 dX4_hourOf_33 (hM 20 rfl) rfl ?_
        refine g_bipush dX4_hourOf_36 (by decide) ?_
        refine g_iload_n 1 dX4_hourOf_38 rfl rfl ?_
        refine g_imul dX4_hourOf_39 ?_
        refine g_iload 4 dX4_hourOf_40 rfl ?_
        refine g_iadd dX4_hourOf_42 ?_
        refine g_iald (8 * k + i) (by omega) (by omega) rfl (by decide) dX4_hourOf_43 (n2 (hM 39 rfl)) (fun h43_4 => ?_)
        have h39 := rk.2.2.2.2.2.2.2.1 i hi25
        refine g_top (y := B (102 + 3 * k) i) h39 ?_
        have hh9 := hcv.2.2.2.2.2.2 i
        refine g_st2 (ls2 := [(5, _), (0, _), (1, _), (2, _), (3, _), (4, _)]) dX4_hourOf_44 (by decide) (c1_cr (c1_ci (c1_ci (c1_ci (c1_ci c1_0))))) rfl ?_
        refine g_iload 0 dX4_hourOf_46 rfl ?_
        refine g_iconst dX4_hourOf_48 ?_
        refine g_icmp_eq (tgt := 71) (by omega) (by omega) dX4_hourOf_49 (by decide) (fun h49_5 => ?_) (fun h49_5 => ?_)
        · skip
          refine g_iconst dX4_hourOf_71 ?_
          refine g_top (y := b2 (decide (B (102 + 3 * k) i ≠ -1 ∧ (cntH (B (102 + 3 * k)) 8 - 1) / 2 < leH (B (102 + 3 * k)) (B (102 + 3 * k) i) 8))) (by grind [b2]) ?_
          refine g_st2 (ls2 := [(6, _), (5, _), (0, _), (1, _), (2, _), (3, _), (4, _)]) dX4_hourOf_72 (by decide) (c1_ci (c1_cr (c1_ci (c1_ci (c1_ci (c1_ci c1_0)))))) rfl ?_
          refine g_iload 0 dX4_hourOf_74 rfl ?_
          refine g_ifb_eq (tgt := 95) dX4_hourOf_76 (by decide) (fun h76_6 => ?_) (fun h76_6 => ?_)
          · skip
            refine g_iload_n 5 dX4_hourOf_95 rfl rfl ?_
            refine g_top (y := minF (B (102 + 3 * k)) (i + 1)) (by simp only [minF]; grind) ?_
            refine g_st (ls2 := [(3, _), (6, _), (5, _), (0, _), (1, _), (2, _), (4, _)]) dX4_hourOf_96 rfl (by decide) (c1_ci (c1_ci (c1_cr (c1_ci (c1_ci (c1_ci (c1_ci c1_0))))))) rfl ?_
            refine g_inc (ls2 := [(4, _), (3, _), (6, _), (5, _), (0, _), (1, _), (2, _)]) 6 dX4_hourOf_97 rfl (by decide) (c1_ci (c1_ci (c1_ci (c1_cr (c1_ci (c1_ci (c1_ci c1_0))))))) rfl ?_
            refine g_goto (tgt := 25) dX4_hourOf_100 (by decide) ?_
            refine g_sub [4, 5, 6, 1, 0] (ls2 := [(0, _), (1, _), (2, _), (3, _), (4, _)]) rfl ?_
            exact g_ls (by rfl) rfl rfl ih25
          · skip
            refine g_iload_n 5 dX4_hourOf_79 rfl rfl ?_
            refine g_iconst dX4_hourOf_80 ?_
            refine g_icmp_eq (tgt := 90) (by omega) (by omega) dX4_hourOf_81 (by decide) (fun h81_7 => ?_) (fun h81_7 => ?_)
            · skip
              refine g_iload 1 dX4_hourOf_90 rfl ?_
              refine g_goto (tgt := 96) dX4_hourOf_92 (by decide) ?_
              refine g_top (y := minF (B (102 + 3 * k)) (i + 1)) (by simp only [minF]; grind) ?_
              refine g_st (ls2 := [(3, _), (6, _), (5, _), (0, _), (1, _), (2, _), (4, _)]) dX4_hourOf_96 rfl (by decide) (c1_ci (c1_ci (c1_cr (c1_ci (c1_ci (c1_ci (c1_ci c1_0))))))) rfl ?_
              refine g_inc (ls2 := [(4, _), (3, _), (6, _), (5, _), (0, _), (1, _), (2, _)]) 6 dX4_hourOf_97 rfl (by decide) (c1_ci (c1_ci (c1_ci (c1_cr (c1_ci (c1_ci (c1_ci c1_0))))))) rfl ?_
              refine g_goto (tgt := 25) dX4_hourOf_100 (by decide) ?_
              refine g_sub [4, 5, 6, 1, 0] (ls2 := [(0, _), (1, _), (2, _), (3, _), (4, _)]) rfl ?_
              exact g_ls (by rfl) rfl rfl ih25
            · skip
              refine g_iload 1 dX4_hourOf_84 rfl ?_
              refine g_iload_n 5 dX4_hourOf_86 rfl rfl ?_
              refine g_icmp_ge (tgt := 95) (by omega) (by omega) dX4_hourOf_87 (by decide) (fun h87_8 => ?_) (fun h87_8 => ?_)
              · skip
                refine g_iload_n 5 dX4_hourOf_95 rfl rfl ?_
                refine g_top (y := minF (B (102 + 3 * k)) (i + 1)) (by simp only [minF]; grind) ?_
                refine g_st (ls2 := [(3, _), (6, _), (5, _), (0, _), (1, _), (2, _), (4, _)]) dX4_hourOf_96 rfl (by decide) (c1_ci (c1_ci (c1_cr (c1_ci (c1_ci (c1_ci (c1_ci c1_0))))))) rfl ?_
                refine g_inc (ls2 := [(4, _), (3, _), (6, _), (5, _), (0, _), (1, _), (2, _)]) 6 dX4_hourOf_97 rfl (by decide) (c1_ci (c1_ci (c1_ci (c1_cr (c1_ci (c1_ci (c1_ci c1_0))))))) rfl ?_
                refine g_goto (tgt := 25) dX4_hourOf_100 (by decide) ?_
                refine g_sub [4, 5, 6, 1, 0] (ls2 := [(0, _), (1, _), (2, _), (3, _), (4, _)]) rfl ?_
                exact g_ls (by rfl) rfl rfl ih25
              · skip
                refine g_iload 1 dX4_hourOf_90 rfl ?_
                refine g_goto (tgt := 96) dX4_hourOf_92 (by decide) ?_
                refine g_top (y := minF (B (102 + 3 * k)) (i + 1)) (by simp only [minF]; grind) ?_
                refine g_st (ls2 := [(3, _), (6, _), (5, _), (0, _), (1, _), (2, _), (4, _)]) dX4_hourOf_96 rfl (by decide) (c1_ci (c1_ci (c1_cr (c1_ci (c1_ci (c1_ci (c1_ci c1_0))))))) rfl ?_
                refine g_inc (ls2 := [(4, _), (3, _), (6, _), (5, _), (0, _), (1, _), (2, _)]) 6 dX4_hourOf_97 rfl (by decide) (c1_ci (c1_ci (c1_ci (c1_cr (c1_ci (c1_ci (c1_ci c1_0))))))) rfl ?_
                refine g_goto (tgt := 25) dX4_hourOf_100 (by decide) ?_
                refine g_sub [4, 5, 6, 1, 0] (ls2 := [(0, _), (1, _), (2, _), (3, _), (4, _)]) rfl ?_
                exact g_ls (by rfl) rfl rfl ih25
        · skip
          refine g_aload_n 1 dX4_hourOf_52 rfl rfl ?_
          refine g_iload_n 2 dX4_hourOf_53 rfl rfl ?_
          refine g_iload 0 dX4_hourOf_54 rfl ?_
          refine g_cV_i (My := mX4_upTo) (gs := [_, _]) (c_X4_upTo hM hV hR hk (q := B (102 + 3 * k) i) (by omega)) mfX4_upTo cf_5 wi_X4_upTo wsl_X4_upTo wm_X4_138 dX4_hourOf_56 (Nat.le_of_ble_eq_true rfl) rfl (by decide) (n2 (hM 20 rfl)) rfl (fun _ => Nat.le_of_ble_eq_true rfl) (Nat.le_of_ble_eq_true rfl) (Nat.le_of_ble_eq_true rfl) rfl rfl ?_
          have hlr := leH_rg (B (102 + 3 * k)) (B (102 + 3 * k) i) 8; have hcp : 1 ≤ cntH (B (102 + 3 * k)) 8 := cntH_pos hi25 (by omega)
          refine g_iload_n 3 dX4_hourOf_59 rfl rfl ?_
          refine g_iconst dX4_hourOf_60 ?_
          refine g_isub dX4_hourOf_61 ?_
          refine g_iconst dX4_hourOf_62 ?_
          refine g_idiv (by omega) (by omega) dX4_hourOf_63 ?_
          refine g_icmp_le (tgt := 71) (by omega) (by omega) dX4_hourOf_64 (by decide) (fun h64_9 => ?_) (fun h64_9 => ?_)
          · skip
            refine g_iconst dX4_hourOf_71 ?_
            refine g_top (y := b2 (decide (B (102 + 3 * k) i ≠ -1 ∧ (cntH (B (102 + 3 * k)) 8 - 1) / 2 < leH (B (102 + 3 * k)) (B (102 + 3 * k) i) 8))) (by grind [b2]) ?_
            refine g_st2 (ls2 := [(6, _), (5, _), (0, _), (1, _), (2, _), (3, _), (4, _)]) dX4_hourOf_72 (by decide) (c1_ci (c1_cr (c1_ci (c1_ci (c1_ci (c1_ci c1_0)))))) rfl ?_
            refine g_iload 0 dX4_hourOf_74 rfl ?_
            refine g_ifb_eq (tgt := 95) dX4_hourOf_76 (by decide) (fun h76_10 => ?_) (fun h76_10 => ?_)
            · skip
              refine g_iload_n 5 dX4_hourOf_95 rfl rfl ?_
              refine g_top (y := minF (B (102 + 3 * k)) (i + 1)) (by simp only [minF]; grind) ?_
              refine g_st (ls2 := [(3, _), (6, _), (5, _), (0, _), (1, _), (2, _), (4, _)]) dX4_hourOf_96 rfl (by decide) (c1_ci (c1_ci (c1_cr (c1_ci (c1_ci (c1_ci (c1_ci c1_0))))))) rfl ?_
              refine g_inc (ls2 := [(4, _), (3, _), (6, _), (5, _), (0, _), (1, _), (2, _)]) 6 dX4_hourOf_97 rfl (by decide) (c1_ci (c1_ci (c1_ci (c1_cr (c1_ci (c1_ci (c1_ci c1_0))))))) rfl ?_
              refine g_goto (tgt := 25) dX4_hourOf_100 (by decide) ?_
              refine g_sub [4, 5, 6, 1, 0] (ls2 := [(0, _), (1, _), (2, _), (3, _), (4, _)]) rfl ?_
              exact g_ls (by rfl) rfl rfl ih25
            · skip
              refine g_iload_n 5 dX4_hourOf_79 rfl rfl ?_
              refine g_iconst dX4_hourOf_80 ?_
              refine g_icmp_eq (tgt := 90) (by omega) (by omega) dX4_hourOf_81 (by decide) (fun h81_11 => ?_) (fun h81_11 => ?_)
              · skip
                refine g_iload 1 dX4_hourOf_90 rfl ?_
                refine g_goto (tgt := 96) dX4_hourOf_92 (by decide) ?_
                refine g_top (y := minF (B (102 + 3 * k)) (i + 1)) (by simp only [minF]; grind) ?_
                refine g_st (ls2 := [(3, _), (6, _), (5, _), (0, _), (1, _), (2, _), (4, _)]) dX4_hourOf_96 rfl (by decide) (c1_ci (c1_ci (c1_cr (c1_ci (c1_ci (c1_ci (c1_ci c1_0))))))) rfl ?_
                refine g_inc (ls2 := [(4, _), (3, _), (6, _), (5, _), (0, _), (1, _), (2, _)]) 6 dX4_hourOf_97 rfl (by decide) (c1_ci (c1_ci (c1_ci (c1_cr (c1_ci (c1_ci (c1_ci c1_0))))))) rfl ?_
                refine g_goto (tgt := 25) dX4_hourOf_100 (by decide) ?_
                refine g_sub [4, 5, 6, 1, 0] (ls2 := [(0, _), (1, _), (2, _), (3, _), (4, _)]) rfl ?_
                exact g_ls (by rfl) rfl rfl ih25
              · skip
                refine g_iload 1 dX4_hourOf_84 rfl ?_
                refine g_iload_n 5 dX4_hourOf_86 rfl rfl ?_
                refine g_icmp_ge (tgt := 95) (by omega) (by omega) dX4_hourOf_87 (by decide) (fun h87_12 => ?_) (fun h87_12 => ?_)
                · skip
                  refine g_iload_n 5 dX4_hourOf_95 rfl rfl ?_
                  refine g_top (y := minF (B (102 + 3 * k)) (i + 1)) (by simp only [minF]; grind) ?_
                  refine g_st (ls2 := [(3, _), (6, _), (5, _), (0, _), (1, _), (2, _), (4, _)]) dX4_hourOf_96 rfl (by decide) (c1_ci (c1_ci (c1_cr (c1_ci (c1_ci (c1_ci (c1_ci c1_0))))))) rfl ?_
                  refine g_inc (ls2 := [(4, _), (3, _), (6, _), (5, _), (0, _), (1, _), (2, _)]) 6 dX4_hourOf_97 rfl (by decide) (c1_ci (c1_ci (c1_ci (c1_cr (c1_ci (c1_ci (c1_ci c1_0))))))) rfl ?_
                  refine g_goto (tgt := 25) dX4_hourOf_100 (by decide) ?_
                  refine g_sub [4, 5, 6, 1, 0] (ls2 := [(0, _), (1, _), (2, _), (3, _), (4, _)]) rfl ?_
                  exact g_ls (by rfl) rfl rfl ih25
                · skip
                  refine g_iload 1 dX4_hourOf_90 rfl ?_
                  refine g_goto (tgt := 96) dX4_hourOf_92 (by decide) ?_
                  refine g_top (y := minF (B (102 + 3 * k)) (i + 1)) (by simp only [minF]; grind) ?_
                  refine g_st (ls2 := [(3, _), (6, _), (5, _), (0, _), (1, _), (2, _), (4, _)]) dX4_hourOf_96 rfl (by decide) (c1_ci (c1_ci (c1_cr (c1_ci (c1_ci (c1_ci (c1_ci c1_0))))))) rfl ?_
                  refine g_inc (ls2 := [(4, _), (3, _), (6, _), (5, _), (0, _), (1, _), (2, _)]) 6 dX4_hourOf_97 rfl (by decide) (c1_ci (c1_ci (c1_ci (c1_cr (c1_ci (c1_ci (c1_ci c1_0))))))) rfl ?_
                  refine g_goto (tgt := 25) dX4_hourOf_100 (by decide) ?_
                  refine g_sub [4, 5, 6, 1, 0] (ls2 := [(0, _), (1, _), (2, _), (3, _), (4, _)]) rfl ?_
                  exact g_ls (by rfl) rfl rfl ih25
          · skip
            refine g_iconst dX4_hourOf_67 ?_
            refine g_goto (tgt := 72) dX4_hourOf_68 (by decide) ?_
            refine g_top (y := b2 (decide (B (102 + 3 * k) i ≠ -1 ∧ (cntH (B (102 + 3 * k)) 8 - 1) / 2 < leH (B (102 + 3 * k)) (B (102 + 3 * k) i) 8))) (by grind [b2]) ?_
            refine g_st2 (ls2 := [(6, _), (5, _), (0, _), (1, _), (2, _), (3, _), (4, _)]) dX4_hourOf_72 (by decide) (c1_ci (c1_cr (c1_ci (c1_ci (c1_ci (c1_ci c1_0)))))) rfl ?_
            refine g_iload 0 dX4_hourOf_74 rfl ?_
            refine g_ifb_eq (tgt := 95) dX4_hourOf_76 (by decide) (fun h76_13 => ?_) (fun h76_13 => ?_)
            · skip
              refine g_iload_n 5 dX4_hourOf_95 rfl rfl ?_
              refine g_top (y := minF (B (102 + 3 * k)) (i + 1)) (by simp only [minF]; grind) ?_
              refine g_st (ls2 := [(3, _), (6, _), (5, _), (0, _), (1, _), (2, _), (4, _)]) dX4_hourOf_96 rfl (by decide) (c1_ci (c1_ci (c1_cr (c1_ci (c1_ci (c1_ci (c1_ci c1_0))))))) rfl ?_
              refine g_inc (ls2 := [(4, _), (3, _), (6, _), (5, _), (0, _), (1, _), (2, _)]) 6 dX4_hourOf_97 rfl (by decide) (c1_ci (c1_ci (c1_ci (c1_cr (c1_ci (c1_ci (c1_ci c1_0))))))) rfl ?_
              refine g_goto (tgt := 25) dX4_hourOf_100 (by decide) ?_
              refine g_sub [4, 5, 6, 1, 0] (ls2 := [(0, _), (1, _), (2, _), (3, _), (4, _)]) rfl ?_
              exact g_ls (by rfl) rfl rfl ih25
            · skip
              refine g_iload_n 5 dX4_hourOf_79 rfl rfl ?_
              refine g_iconst dX4_hourOf_80 ?_
              refine g_icmp_eq (tgt := 90) (by omega) (by omega) dX4_hourOf_81 (by decide) (fun h81_14 => ?_) (fun h81_14 => ?_)
              · skip
                refine g_iload 1 dX4_hourOf_90 rfl ?_
                refine g_goto (tgt := 96) dX4_hourOf_92 (by decide) ?_
                refine g_top (y := minF (B (102 + 3 * k)) (i + 1)) (by simp only [minF]; grind) ?_
                refine g_st (ls2 := [(3, _), (6, _), (5, _), (0, _), (1, _), (2, _), (4, _)]) dX4_hourOf_96 rfl (by decide) (c1_ci (c1_ci (c1_cr (c1_ci (c1_ci (c1_ci (c1_ci c1_0))))))) rfl ?_
                refine g_inc (ls2 := [(4, _), (3, _), (6, _), (5, _), (0, _), (1, _), (2, _)]) 6 dX4_hourOf_97 rfl (by decide) (c1_ci (c1_ci (c1_ci (c1_cr (c1_ci (c1_ci (c1_ci c1_0))))))) rfl ?_
                refine g_goto (tgt := 25) dX4_hourOf_100 (by decide) ?_
                refine g_sub [4, 5, 6, 1, 0] (ls2 := [(0, _), (1, _), (2, _), (3, _), (4, _)]) rfl ?_
                exact g_ls (by rfl) rfl rfl ih25
              · skip
                refine g_iload 1 dX4_hourOf_84 rfl ?_
                refine g_iload_n 5 dX4_hourOf_86 rfl rfl ?_
                refine g_icmp_ge (tgt := 95) (by omega) (by omega) dX4_hourOf_87 (by decide) (fun h87_15 => ?_) (fun h87_15 => ?_)
                · skip
                  refine g_iload_n 5 dX4_hourOf_95 rfl rfl ?_
                  refine g_top (y := minF (B (102 + 3 * k)) (i + 1)) (by simp only [minF]; grind) ?_
                  refine g_st (ls2 := [(3, _), (6, _), (5, _), (0, _), (1, _), (2, _), (4, _)]) dX4_hourOf_96 rfl (by decide) (c1_ci (c1_ci (c1_cr (c1_ci (c1_ci (c1_ci (c1_ci c1_0))))))) rfl ?_
                  refine g_inc (ls2 := [(4, _), (3, _), (6, _), (5, _), (0, _), (1, _), (2, _)]) 6 dX4_hourOf_97 rfl (by decide) (c1_ci (c1_ci (c1_ci (c1_cr (c1_ci (c1_ci (c1_ci c1_0))))))) rfl ?_
                  refine g_goto (tgt := 25) dX4_hourOf_100 (by decide) ?_
                  refine g_sub [4, 5, 6, 1, 0] (ls2 := [(0, _), (1, _), (2, _), (3, _), (4, _)]) rfl ?_
                  exact g_ls (by rfl) rfl rfl ih25
                · skip
                  refine g_iload 1 dX4_hourOf_90 rfl ?_
                  refine g_goto (tgt := 96) dX4_hourOf_92 (by decide) ?_
                  refine g_top (y := minF (B (102 + 3 * k)) (i + 1)) (by simp only [minF]; grind) ?_
                  refine g_st (ls2 := [(3, _), (6, _), (5, _), (0, _), (1, _), (2, _), (4, _)]) dX4_hourOf_96 rfl (by decide) (c1_ci (c1_ci (c1_cr (c1_ci (c1_ci (c1_ci (c1_ci c1_0))))))) rfl ?_
                  refine g_inc (ls2 := [(4, _), (3, _), (6, _), (5, _), (0, _), (1, _), (2, _)]) 6 dX4_hourOf_97 rfl (by decide) (c1_ci (c1_ci (c1_ci (c1_cr (c1_ci (c1_ci (c1_ci c1_0))))))) rfl ?_
                  refine g_goto (tgt := 25) dX4_hourOf_100 (by decide) ?_
                  refine g_sub [4, 5, 6, 1, 0] (ls2 := [(0, _), (1, _), (2, _), (3, _), (4, _)]) rfl ?_
                  exact g_ls (by rfl) rfl rfl ih25
    exact g_ls (by rfl) rfl rfl hQ25
  · skip
    refine g_aload_n 1 dX4_hourOf_13 rfl rfl ?_
    refine g_getfr2 (r := 35) cf_5 14 rfl (by decide) (by decide) rfl (by decide) wf_X4_44 dX4_hourOf_14 (hM 20 rfl) rfl ?_
    refine g_iload_n 2 dX4_hourOf_17 rfl rfl ?_
    refine g_iald (k) (by omega) (by omega) rfl (by decide) dX4_hourOf_18 (n2 (hM 35 rfl)) (fun h18_16 => ?_)
    exact g_iret dX4_hourOf_19 rfl (Nat.le_of_ble_eq_true rfl) (Nat.le_of_ble_eq_true rfl) (pr_i (by rw [hho, if_pos (by assumption)]) (rfl))

