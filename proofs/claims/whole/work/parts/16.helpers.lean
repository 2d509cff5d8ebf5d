def CV (A : Mem) (k : Nat) : Prop := (0 ≤ A (100 + 3 * k) 0 ∧ A (100 + 3 * k) 0 < 8) ∧ (0 ≤ A (100 + 3 * k) 1 ∧ A (100 + 3 * k) 1 ≤ 9 ∧ 0 ≤ A (100 + 3 * k) 2 ∧ A (100 + 3 * k) 2 ≤ 9 ∧ 0 ≤ A (100 + 3 * k) 3 ∧ A (100 + 3 * k) 3 ≤ 4 ∧ 0 ≤ A (100 + 3 * k) 4 ∧ A (100 + 3 * k) 4 ≤ 4) ∧
  (0 ≤ A (100 + 3 * k) 5 ∧ A (100 + 3 * k) 5 ≤ 5000) ∧ (0 ≤ A (100 + 3 * k) 6 ∧ A (100 + 3 * k) 6 ≤ 5000) ∧ (0 ≤ A (100 + 3 * k) 7 ∧ A (100 + 3 * k) 7 ≤ 2) ∧ (∀ p, 0 ≤ A (101 + 3 * k) p ∧ A (101 + 3 * k) p ≤ 12) ∧ ∀ p, -1 ≤ A (102 + 3 * k) p ∧ A (102 + 3 * k) p ≤ 5000
def SV (A : Mem) (s : Nat) : Prop := (0 ≤ A (200 + 3 * s) 0 ∧ A (200 + 3 * s) 0 < 100) ∧ (0 ≤ A (200 + 3 * s) 1 ∧ A (200 + 3 * s) 1 ≤ 9) ∧ (-1 ≤ A (200 + 3 * s) 2 ∧ A (200 + 3 * s) 2 < 12) ∧ (0 ≤ A (200 + 3 * s) 3 ∧ A (200 + 3 * s) 3 ≤ 999) ∧ (0 ≤ A (200 + 3 * s) 4 ∧ A (200 + 3 * s) 4 ≤ 999) ∧ (0 ≤ A (200 + 3 * s) 5 ∧ A (200 + 3 * s) 5 ≤ 20) ∧
  (-1 ≤ A (200 + 3 * s) 6 ∧ A (200 + 3 * s) 6 < 8) ∧ (-1 ≤ A (200 + 3 * s) 7 ∧ A (200 + 3 * s) 7 < 5) ∧ (0 ≤ A (200 + 3 * s) 8 ∧ A (200 + 3 * s) 8 ≤ 5) ∧ (∀ b, 0 ≤ A (201 + 3 * s) b ∧ A (201 + 3 * s) b ≤ 99999) ∧ ∀ b, 0 ≤ A (202 + 3 * s) b ∧ A (202 + 3 * s) b ≤ 5
/-- the cells: what they are, what was told, what is in them; the hour; the persons -/
def GVd (A : Mem) : Prop := (∀ c, 0 ≤ A 12 c ∧ A 12 c ≤ 2) ∧ (∀ c, 0 ≤ A 13 c ∧ A 13 c ≤ 999) ∧ (∀ c, 0 ≤ A 14 c ∧ A 14 c ≤ 999) ∧ (∀ c, 0 ≤ A 15 c ∧ A 15 c ≤ 9) ∧ (∀ c, 0 ≤ A 16 c ∧ A 16 c ≤ 1) ∧ (∀ c, -1 ≤ A 17 c ∧ A 17 c < 12)
def PVd (A : Mem) : Prop := (0 ≤ A 0 9 ∧ A 0 9 ≤ 5000) ∧ (∀ p, 0 ≤ A 6 p ∧ A 6 p ≤ 100000) ∧ (∀ p, 0 ≤ A 7 p ∧ A 7 p ≤ 6000) ∧ (∀ p, 0 ≤ A 8 p ∧ A 8 p ≤ 100000) ∧ (∀ p, 0 ≤ A 9 p ∧ A 9 p ≤ 20000)
/-- the class's world is well -/
def VC (L : Nat → Nat) (A : Mem) : Prop := LC L ∧ (0 ≤ A 2 2 ∧ A 2 2 ≤ 12) ∧ (0 ≤ A 3 2 ∧ A 3 2 ≤ 100) ∧ (0 < A 2 2 → LST L A 2) ∧ (0 < A 3 2 → LST L A 3) ∧ (∀ k : Nat, (k : Int) < A 2 2 → (L (100 + 3 * k) = 2 ∧ L (101 + 3 * k) = 2 ∧ L (102 + 3 * k) = 2) ∧ CV A k) ∧
  (∀ s : Nat, (s : Int) < A 3 2 → (L (200 + 3 * s) = 2 ∧ L (201 + 3 * s) = 2 ∧ L (202 + 3 * s) = 2) ∧ SV A s) ∧ GVd A ∧ PVd A
theorem vc_L {L : Nat → Nat} {A : Mem} (h : VC L A) : LC L := h.1
theorem vc_nc {L : Nat → Nat} {A : Mem} (h : VC L A) : 0 ≤ A 2 2 ∧ A 2 2 ≤ 12 := h.2.1
theorem vc_ns {L : Nat → Nat} {A : Mem} (h : VC L A) : 0 ≤ A 3 2 ∧ A 3 2 ≤ 100 := h.2.2.1
theorem vc_lc {L : Nat → Nat} {A : Mem} (h : VC L A) {k : Nat} (hk : (k : Int) < A 2 2) : LST L A 2 := h.2.2.2.1 (by omega)
theorem vc_ls {L : Nat → Nat} {A : Mem} (h : VC L A) {k : Nat} (hk : (k : Int) < A 3 2) : LST L A 3 := h.2.2.2.2.1 (by omega)
theorem vc_k {L : Nat → Nat} {A : Mem} (h : VC L A) {k : Nat} (hk : (k : Int) < A 2 2) : k < 12 := by have := h.2.1; omega
theorem vc_c {L : Nat → Nat} {A : Mem} (h : VC L A) {k : Nat} (hk : (k : Int) < A 2 2) : L (100 + 3 * k) = 2 ∧ L (101 + 3 * k) = 2 ∧ L (102 + 3 * k) = 2 := (h.2.2.2.2.2.1 k hk).1
theorem vc_cv {L : Nat → Nat} {A : Mem} (h : VC L A) {k : Nat} (hk : (k : Int) < A 2 2) : CV A k := (h.2.2.2.2.2.1 k hk).2
theorem vc_s {L : Nat → Nat} {A : Mem} (h : VC L A) {k : Nat} (hk : (k : Int) < A 3 2) : L (200 + 3 * k) = 2 ∧ L (201 + 3 * k) = 2 ∧ L (202 + 3 * k) = 2 := (h.2.2.2.2.2.2.1 k hk).1
theorem vc_sv {L : Nat → Nat} {A : Mem} (h : VC L A) {k : Nat} (hk : (k : Int) < A 3 2) : SV A k := (h.2.2.2.2.2.2.1 k hk).2
theorem vc_g {L : Nat → Nat} {A : Mem} (h : VC L A) : GVd A := h.2.2.2.2.2.2.2.1
theorem vc_p {L : Nat → Nat} {A : Mem} (h : VC L A) : PVd A := h.2.2.2.2.2.2.2.2
def covC (A : Mem) (x : Int) (k : Nat) : Bool := covB (A (100 + 3 * k) 1) (A (100 + 3 * k) 2) (A (100 + 3 * k) 3) (A (100 + 3 * k) 4) x
def livC (A : Mem) (k : Nat) : Bool := livB (A 0 9) (A (100 + 3 * k) 6)
def hldF (cov live : Nat → Bool) (hr : Nat → Int) : Nat → Int
  | 0 => -1
  | n + 1 => if cov n = true ∧ live n = true ∧ (hldF cov live hr n = -1 ∨ hr n < hr (hldF cov live hr n).toNat) then n else hldF cov live hr n
theorem hldF_rg (cov live : Nat → Bool) (hr : Nat → Int) (n : Nat) : -1 ≤ hldF cov live hr n ∧ hldF cov live hr n < n := by
  induction n with
  | zero => simp [hldF]
  | succ n ih => simp only [hldF]; split <;> omega
def hldC (A : Mem) (x : Int) : Int := hldF (covC A x) (livC A) (fun k => A (100 + 3 * k) 5) (A 2 2).toNat
theorem hldC_rg {L : Nat → Nat} {A : Mem} (h : VC L A) (x : Int) : -1 ≤ hldC A x ∧ hldC A x < A 2 2 := by
  have h1 := hldF_rg (covC A x) (livC A) (fun k => A (100 + 3 * k) 5) (A 2 2).toNat
  have h2 := vc_nc h
  unfold hldC
  omega
def cntF (f : Nat → Bool) : Nat → Int
  | 0 => 0
  | n + 1 => cntF f n + b2 (f n)
theorem cntF_rg (f : Nat → Bool) (n : Nat) : 0 ≤ cntF f n ∧ cntF f n ≤ n := by
  induction n with
  | zero => simp [cntF]
  | succ n ih => have := b2_rg (f n); simp only [cntF]; omega
def sumF (f : Nat → Int) : Nat → Int
  | 0 => 0
  | n + 1 => sumF f n + f n
theorem sumF_rg {f : Nat → Int} {M : Int} (h : ∀ i, 0 ≤ f i ∧ f i ≤ M) (n : Nat) : 0 ≤ sumF f n ∧ sumF f n ≤ M * n := by
  induction n with
  | zero => simp [sumF]
  | succ n ih =>
    have h1 := h n
    simp only [sumF]
    have h2 : M * ((n + 1 : Nat) : Int) = M * n + M := by
      rw [show ((n + 1 : Nat) : Int) = (n : Int) + 1 by omega, Int.mul_add, Int.mul_one]
    rw [h2]
    omega
def hvF (inp : Nat → Bool) (w : Nat → Int) : Nat → Int
  | 0 => -1
  | n + 1 => if inp n = true ∧ (if hvF inp w n = -1 then 0 else w (hvF inp w n).toNat) < w n then n else hvF inp w n
theorem hvF_rg (inp : Nat → Bool) (w : Nat → Int) (n : Nat) : -1 ≤ hvF inp w n ∧ hvF inp w n < n := by
  induction n with
  | zero => simp [hvF]
  | succ n ih => simp only [hvF]; split <;> omega
def inpC (A : Mem) (k : Int) (s : Nat) : Bool := inpB (A (200 + 3 * s) 2) (A (200 + 3 * s) 7) (A (200 + 3 * s) 6) k
def plC (A : Mem) (s : Nat) : Int := plcC (A (200 + 3 * s) 7) (A (200 + 3 * s) 6)
theorem plC_rg (A : Mem) (s : Nat) : 0 ≤ plC A s ∧ plC A s ≤ 2 := by unfold plC plcC; split <;> (try split) <;> omega
def brdC (A : Mem) (p : Int) : Int := if 0 < A 7 p.toNat - A 0 9 then A 7 p.toNat - A 0 9 else 0
def nigB (w : Int) : Bool := decide (21 ≤ w % 24 ∨ w % 24 ≤ 4)

set_option maxRecDepth 20000 in
theorem c_X3_needCell {L : Nat → Nat} {A : Mem} {x : Int} (hx : -2147483648 ≤ x ∧ x < 2147483648) (hc : 0 ≤ x ∧ x < 100) : Ct mX3_needCell [gi x] L A (pr none L A) := by
  refine Ct_of (ls := [(0, _)]) rfl (by decide) (fun _ => rfl) (fun _ => Nat.le_of_ble_eq_true rfl) ?_
  refine g_iload_n 0 dX3_needCell_0 rfl rfl ?_
  refine g_cS_i (My := mX3_isCell) (gs := [_]) (c_X3_isCell hx) mfX3_isCell rfl wst_X3_isCell wm_X3_336 dX3_needCell_1 (Nat.le_of_ble_eq_true rfl) rfl (fun _ => Nat.le_of_ble_eq_true rfl) (Nat.le_of_ble_eq_true rfl) (Nat.le_of_ble_eq_true rfl) rfl rfl ?_
  refine g_ifb_ne (tgt := 18) dX3_needCell_4 (by decide) (fun h4_1 => ?_) (fun h4_1 => absurd h4_1 (by simp only [cellB, decide_eq_false_iff_not]; omega))
  exact g_vret dX3_needCell_18 rfl (Nat.le_of_ble_eq_true rfl) (Nat.le_of_ble_eq_true rfl) (pr_v (rfl))

set_option maxRecDepth 20000 in
theorem c_X3_needCell_x {L : Nat → Nat} {A : Mem} {x : Int} (hx : -2147483648 ≤ x ∧ x < 2147483648) (hc : ¬ (0 ≤ x ∧ x < 100)) : Ct mX3_needCell_x [gi x] L A (pt xIOE L A) := by
  refine Ct_of (ls := [(0, _)]) rfl (by decide) (fun _ => rfl) (fun _ => Nat.le_of_ble_eq_true rfl) ?_
  refine g_iload_n 0 dX3_needCell_0 rfl rfl ?_
  refine g_cS_i (My := mX3_isCell) (gs := [_]) (c_X3_isCell hx) mfX3_isCell rfl wst_X3_isCell wm_X3_336 dX3_needCell_1 (Nat.le_of_ble_eq_true rfl) rfl (fun _ => Nat.le_of_ble_eq_true rfl) (Nat.le_of_ble_eq_true rfl) (Nat.le_of_ble_eq_true rfl) rfl rfl ?_
  refine g_ifb_ne (tgt := 18) dX3_needCell_4 (by decide) (fun h4_1 => absurd h4_1 (by simp only [cellB, decide_eq_true_eq]; omega)) (fun h4_1 => ?_)
  exact g_throw thX3_needCell_7 (Nat.le_of_ble_eq_true rfl) (Nat.le_of_ble_eq_true rfl) (by decide) (pt_mk (rfl))

set_option maxRecDepth 20000 in
theorem c_X3_needPerson {L : Nat → Nat} {A : Mem} {x : Int} (hx : -2147483648 ≤ x ∧ x < 2147483648) (hc : 0 ≤ x ∧ x < 8) : Ct mX3_needPerson [gi x] L A (pr none L A) := by
  refine Ct_of (ls := [(0, _)]) rfl (by decide) (fun _ => rfl) (fun _ => Nat.le_of_ble_eq_true rfl) ?_
  refine g_iload_n 0 dX3_needPerson_0 rfl rfl ?_
  refine g_if_lt (tgt := 10) (by omega) dX3_needPerson_1 (by decide) (fun h1_1 => absurd h1_1 (by omega)) (fun h1_1 => ?_)
  refine g_iload_n 0 dX3_needPerson_4 rfl rfl ?_
  refine g_bipush dX3_needPerson_5 (by decide) ?_
  refine g_icmp_lt (tgt := 21) (by omega) (by omega) dX3_needPerson_7 (by decide) (fun h7_2 => ?_) (fun h7_2 => absurd h7_2 (by omega))
  exact g_vret dX3_needPerson_21 rfl (Nat.le_of_ble_eq_true rfl) (Nat.le_of_ble_eq_true rfl) (pr_v (rfl))

set_option maxRecDepth 20000 in
theorem c_X3_needPerson_x {L : Nat → Nat} {A : Mem} {x : Int} (hx : -2147483648 ≤ x ∧ x < 2147483648) (hc : ¬ (0 ≤ x ∧ x < 8)) : Ct mX3_needPerson_x [gi x] L A (pt xIOE L A) := by
  refine Ct_of (ls := [(0, _)]) rfl (by decide) (fun _ => rfl) (fun _ => Nat.le_of_ble_eq_true rfl) ?_
  refine g_iload_n 0 dX3_needPerson_0 rfl rfl ?_
  refine g_if_lt (tgt := 10) (by omega) dX3_needPerson_1 (by decide) (fun h1_1 => ?_) (fun h1_1 => ?_)
  · skip
    exact g_throw thX3_needPerson_10 (Nat.le_of_ble_eq_true rfl) (Nat.le_of_ble_eq_true rfl) (by decide) (pt_mk (rfl))
  · skip
    refine g_iload_n 0 dX3_needPerson_4 rfl rfl ?_
    refine g_bipush dX3_needPerson_5 (by decide) ?_
    refine g_icmp_lt (tgt := 21) (by omega) (by omega) dX3_needPerson_7 (by decide) (fun h7_2 => absurd h7_2 (by omega)) (fun h7_2 => ?_)
    exact g_throw thX3_needPerson_10 (Nat.le_of_ble_eq_true rfl) (Nat.le_of_ble_eq_true rfl) (by decide) (pt_mk (rfl))

set_option maxRecDepth 20000 in
theorem c_X3_needBuyer {L : Nat → Nat} {A : Mem} {x : Int} (hx : -2147483648 ≤ x ∧ x < 2147483648) (hc : 0 ≤ x ∧ x < 5) : Ct mX3_needBuyer [gi x] L A (pr none L A) := by
  refine Ct_of (ls := [(0, _)]) rfl (by decide) (fun _ => rfl) (fun _ => Nat.le_of_ble_eq_true rfl) ?_
  refine g_iload_n 0 dX3_needBuyer_0 rfl rfl ?_
  refine g_if_lt (tgt := 9) (by omega) dX3_needBuyer_1 (by decide) (fun h1_1 => absurd h1_1 (by omega)) (fun h1_1 => ?_)
  refine g_iload_n 0 dX3_needBuyer_4 rfl rfl ?_
  refine g_iconst dX3_needBuyer_5 ?_
  refine g_icmp_lt (tgt := 20) (by omega) (by omega) dX3_needBuyer_6 (by decide) (fun h6_2 => ?_) (fun h6_2 => absurd h6_2 (by omega))
  exact g_vret dX3_needBuyer_20 rfl (Nat.le_of_ble_eq_true rfl) (Nat.le_of_ble_eq_true rfl) (pr_v (rfl))

set_option maxRecDepth 20000 in
theorem c_X3_needBuyer_x {L : Nat → Nat} {A : Mem} {x : Int} (hx : -2147483648 ≤ x ∧ x < 2147483648) (hc : ¬ (0 ≤ x ∧ x < 5)) : Ct mX3_needBuyer_x [gi x] L A (pt xIOE L A) := by
  refine Ct_of (ls := [(0, _)]) rfl (by decide) (fun _ => rfl) (fun _ => Nat.le_of_ble_eq_true rfl) ?_
  refine g_iload_n 0 dX3_needBuyer_0 rfl rfl ?_
  refine g_if_lt (tgt := 9) (by omega) dX3_needBuyer_1 (by decide) (fun h1_1 => ?_) (fun h1_1 => ?_)
  · skip
    exact g_throw thX3_needBuyer_9 (Nat.le_of_ble_eq_true rfl) (Nat.le_of_ble_eq_true rfl) (by decide) (pt_mk (rfl))
  · skip
    refine g_iload_n 0 dX3_needBuyer_4 rfl rfl ?_
    refine g_iconst dX3_needBuyer_5 ?_
    refine g_icmp_lt (tgt := 20) (by omega) (by omega) dX3_needBuyer_6 (by decide) (fun h6_2 => absurd h6_2 (by omega)) (fun h6_2 => ?_)
    exact g_throw thX3_needBuyer_9 (Nat.le_of_ble_eq_true rfl) (Nat.le_of_ble_eq_true rfl) (by decide) (pt_mk (rfl))

set_option maxRecDepth 20000 in
theorem c_X3_needRange {L : Nat → Nat} {A : Mem} {x y z : Int} (hx : -2147483648 ≤ x ∧ x < 2147483648) (hy : -2147483648 ≤ y ∧ y < 2147483648) (hz : -2147483648 ≤ z ∧ z < 2147483648) (hc : y ≤ x ∧ x ≤ z) : Ct mX3_needRange [gi x, gi y, gi z] L A (pr none L A) := by
  refine Ct_of (ls := [(0, _), (1, _), (2, _)]) rfl (by decide) (fun _ => rfl) (fun _ => Nat.le_of_ble_eq_true rfl) ?_
  refine g_iload_n 0 dX3_needRange_0 rfl rfl ?_
  refine g_iload_n 1 dX3_needRange_1 rfl rfl ?_
  refine g_icmp_lt (tgt := 10) (by omega) (by omega) dX3_needRange_2 (by decide) (fun h2_1 => absurd h2_1 (by omega)) (fun h2_1 => ?_)
  refine g_iload_n 0 dX3_needRange_5 rfl rfl ?_
  refine g_iload_n 2 dX3_needRange_6 rfl rfl ?_
  refine g_icmp_le (tgt := 21) (by omega) (by omega) dX3_needRange_7 (by decide) (fun h7_2 => ?_) (fun h7_2 => absurd h7_2 (by omega))
  exact g_vret dX3_needRange_21 rfl (Nat.le_of_ble_eq_true rfl) (Nat.le_of_ble_eq_true rfl) (pr_v (rfl))

set_option maxRecDepth 20000 in
theorem c_X3_needRange_x {L : Nat → Nat} {A : Mem} {x y z : Int} (hx : -2147483648 ≤ x ∧ x < 2147483648) (hy : -2147483648 ≤ y ∧ y < 2147483648) (hz : -2147483648 ≤ z ∧ z < 2147483648) (hc : ¬ (y ≤ x ∧ x ≤ z)) : Ct mX3_needRange_x [gi x, gi y, gi z] L A (pt xIAE L A) := by
  refine Ct_of (ls := [(0, _), (1, _), (2, _)]) rfl (by decide) (fun _ => rfl) (fun _ => Nat.le_of_ble_eq_true rfl) ?_
  refine g_iload_n 0 dX3_needRange_0 rfl rfl ?_
  refine g_iload_n 1 dX3_needRange_1 rfl rfl ?_
  refine g_icmp_lt (tgt := 10) (by omega) (by omega) dX3_needRange_2 (by decide) (fun h2_1 => ?_) (fun h2_1 => ?_)
  · skip
    exact g_throw thX3_needRange_10 (Nat.le_of_ble_eq_true rfl) (Nat.le_of_ble_eq_true rfl) (by decide) (pt_mk (rfl))
  · skip
    refine g_iload_n 0 dX3_needRange_5 rfl rfl ?_
    refine g_iload_n 2 dX3_needRange_6 rfl rfl ?_
    refine g_icmp_le (tgt := 21) (by omega) (by omega) dX3_needRange_7 (by decide) (fun h7_2 => absurd h7_2 (by omega)) (fun h7_2 => ?_)
    exact g_throw thX3_needRange_10 (Nat.le_of_ble_eq_true rfl) (Nat.le_of_ble_eq_true rfl) (by decide) (pt_mk (rfl))

set_option maxRecDepth 20000 in
theorem c_X3_hoursBarred {L : Nat → Nat} {A : Mem} (hV : VC L A) {p : Int} (hp : 0 ≤ p ∧ p < 8) : Ct mX3_hoursBarred [gr 0, gi p] L A (pr (some (gi (brdC A p))) L A) := by
  have hL := vc_L hV
  have hp7 := (vc_p hV).2.2.1 p.toNat; have hp0 := (vc_p hV).1
  refine Ct_of (ls := [(0, _), (1, _)]) rfl (by decide) (fun _ => rfl) (fun _ => Nat.le_of_ble_eq_true rfl) ?_
  refine g_iconst dX3_hoursBarred_0 ?_
  refine g_aload_n 0 dX3_hoursBarred_1 rfl rfl ?_
  refine g_getfr2 (r := 7) cf_4 4 rfl (by decide) (by decide) rfl (by decide) wf_X3_30 dX3_hoursBarred_2 (hL 0 rfl) rfl ?_
  refine g_iload_n 1 dX3_hoursBarred_5 rfl rfl ?_
  refine g_ia (by omega) (by omega) rfl (by decide) dX3_hoursBarred_6 (n2 (hL 7 rfl)) (fun h6_1 => ?_)
  refine g_aload_n 0 dX3_hoursBarred_7 rfl rfl ?_
  refine g_getfi cf_4 9 rfl (by decide) (by decide) rfl (by decide) wf_X3_80 dX3_hoursBarred_8 (n2 (hL 0 rfl)) (fun h8_2 => ?_)
  refine g_isub dX3_hoursBarred_11 ?_
  refine g_max (by omega) (by omega) wm_X3_369 wst_J9_max_7cf53 wn_J9 wo_J9_max_7cf53 (Nat.le_of_ble_eq_true rfl) (Nat.le_of_ble_eq_true rfl) (by decide) dX3_hoursBarred_12 ?_
  exact g_iret dX3_hoursBarred_15 rfl (Nat.le_of_ble_eq_true rfl) (Nat.le_of_ble_eq_true rfl) (pr_i (rfl) (rfl))

set_option maxRecDepth 20000 in
theorem c_X3_needFree {L : Nat → Nat} {A : Mem} (hV : VC L A) {p : Int} (hp : 0 ≤ p ∧ p < 8) (hc : brdC A p = 0) : Ct mX3_needFree [gr 0, gi p] L A (pr none L A) := by
  have hL := vc_L hV
  refine Ct_of (ls := [(0, _), (1, _)]) rfl (by decide) (fun _ => rfl) (fun _ => Nat.le_of_ble_eq_true rfl) ?_
  refine g_aload_n 0 dX3_needFree_0 rfl rfl ?_
  refine g_iload_n 1 dX3_needFree_1 rfl rfl ?_
  refine g_cV_i (My := mX3_hoursBarred) (gs := [_]) (c_X3_hoursBarred hV hp) mfX3_hoursBarred cf_4 wi_X3_hoursBarred wsl_X3_hoursBarred wm_X3_295 dX3_needFree_2 (Nat.le_of_ble_eq_true rfl) rfl (by decide) (n2 (hL 0 rfl)) rfl (fun _ => Nat.le_of_ble_eq_true rfl) (Nat.le_of_ble_eq_true rfl) (Nat.le_of_ble_eq_true rfl) rfl rfl ?_
  have hb : 0 ≤ brdC A p ∧ brdC A p ≤ 6000 := by (have hp7 := (vc_p hV).2.2.1 p.toNat; have hp0 := (vc_p hV).1; unfold brdC; split <;> omega)
  refine g_if_le (tgt := 19) (by omega) dX3_needFree_5 (by decide) (fun h5_1 => ?_) (fun h5_1 => absurd h5_1 (by omega))
  exact g_vret dX3_needFree_19 rfl (Nat.le_of_ble_eq_true rfl) (Nat.le_of_ble_eq_true rfl) (pr_v (rfl))

set_option maxRecDepth 20000 in
theorem c_X3_needFree_x {L : Nat → Nat} {A : Mem} (hV : VC L A) {p : Int} (hp : 0 ≤ p ∧ p < 8) (hc : ¬ brdC A p = 0) : Ct mX3_needFree_x [gr 0, gi p] L A (pt xISE L A) := by
  have hL := vc_L hV
  refine Ct_of (ls := [(0, _), (1, _)]) rfl (by decide) (fun _ => rfl) (fun _ => Nat.le_of_ble_eq_true rfl) ?_
  refine g_aload_n 0 dX3_needFree_0 rfl rfl ?_
  refine g_iload_n 1 dX3_needFree_1 rfl rfl ?_
  refine g_cV_i (My := mX3_hoursBarred) (gs := [_]) (c_X3_hoursBarred hV hp) mfX3_hoursBarred cf_4 wi_X3_hoursBarred wsl_X3_hoursBarred wm_X3_295 dX3_needFree_2 (Nat.le_of_ble_eq_true rfl) rfl (by decide) (n2 (hL 0 rfl)) rfl (fun _ => Nat.le_of_ble_eq_true rfl) (Nat.le_of_ble_eq_true rfl) (Nat.le_of_ble_eq_true rfl) rfl rfl ?_
  have hb : 0 ≤ brdC A p ∧ brdC A p ≤ 6000 := by (have hp7 := (vc_p hV).2.2.1 p.toNat; have hp0 := (vc_p hV).1; unfold brdC; split <;> omega)
  refine g_if_le (tgt := 19) (by omega) dX3_needFree_5 (by decide) (fun h5_1 => absurd h5_1 (by omega)) (fun h5_1 => ?_)
  exact g_throw thX3_needFree_8 (Nat.le_of_ble_eq_true rfl) (Nat.le_of_ble_eq_true rfl) (by decide) (pt_mk (rfl))

set_option maxRecDepth 20000 in
theorem c_X3_isNight {L : Nat → Nat} {A : Mem} (hV : VC L A) : Ct mX3_isNight [gr 0] L A (pr (some (gi (b2 (nigB (A 0 9))))) L A) := by
  have hL := vc_L hV
  have hp0 := (vc_p hV).1
  refine Ct_of (ls := [(0, _)]) rfl (by decide) (fun _ => rfl) (fun _ => Nat.le_of_ble_eq_true rfl) ?_
  refine g_aload_n 0 dX3_isNight_0 rfl rfl ?_
  refine g_getfi cf_4 9 rfl (by decide) (by decide) rfl (by decide) wf_X3_80 dX3_isNight_1 (n2 (hL 0 rfl)) (fun h1_1 => ?_)
  refine g_bipush dX3_isNight_4 (by decide) ?_
  refine g_irem (by omega) (by omega) dX3_isNight_6 ?_
  refine g_st (ls2 := [(1, _), (0, _)]) dX3_isNight_7 rfl (by decide) (c1_cr c1_0) rfl ?_
  refine g_iload_n 0 dX3_isNight_8 rfl rfl ?_
  refine g_bipush dX3_isNight_9 (by decide) ?_
  refine g_icmp_ge (tgt := 19) (by omega) (by omega) dX3_isNight_11 (by decide) (fun h11_2 => ?_) (fun h11_2 => ?_)
  · skip
    refine g_iconst dX3_isNight_19 ?_
    refine g_goto (tgt := 24) dX3_isNight_20 (by decide) ?_
    exact g_zret dX3_isNight_24 rfl (Or.inr rfl) (Nat.le_of_ble_eq_true rfl) (Nat.le_of_ble_eq_true rfl) (pr_i (b2_1 (by grind [nigB, b2])) (rfl))
  · skip
    refine g_iload_n 0 dX3_isNight_14 rfl rfl ?_
    refine g_iconst dX3_isNight_15 ?_
    refine g_icmp_gt (tgt := 23) (by omega) (by omega) dX3_isNight_16 (by decide) (fun h16_3 => ?_) (fun h16_3 => ?_)
    · skip
      refine g_iconst dX3_isNight_23 ?_
      exact g_zret dX3_isNight_24 rfl (Or.inl rfl) (Nat.le_of_ble_eq_true rfl) (Nat.le_of_ble_eq_true rfl) (pr_i (b2_0 (by grind [nigB, b2])) (rfl))
    · skip
      refine g_iconst dX3_isNight_19 ?_
      refine g_goto (tgt := 24) dX3_isNight_20 (by decide) ?_
      exact g_zret dX3_isNight_24 rfl (Or.inr rfl) (Nat.le_of_ble_eq_true rfl) (Nat.le_of_ble_eq_true rfl) (pr_i (b2_1 (by grind [nigB, b2])) (rfl))

set_option maxRecDepth 20000 in
theorem c_X3_claimAt {L : Nat → Nat} {A : Mem} (hV : VC L A) {k : Nat} (hk : (k : Int) < A 2 2) : Ct mX3_claimAt [gr 0, gi k] L A (pr (some (gr (100 + 3 * k))) L A) := by
  have hL := vc_L hV
  have hnc := vc_nc hV; have hns := vc_ns hV
  refine Ct_of (ls := [(0, _), (1, _)]) rfl (by decide) (fun _ => rfl) (fun _ => Nat.le_of_ble_eq_true rfl) ?_
  refine g_iload_n 1 dX3_claimAt_0 rfl rfl ?_
  refine g_if_lt (tgt := 15) (by omega) dX3_claimAt_1 (by decide) (fun h1_1 => absurd h1_1 (by omega)) (fun h1_1 => ?_)
  refine g_iload_n 1 dX3_claimAt_4 rfl rfl ?_
  refine g_aload_n 0 dX3_claimAt_5 rfl rfl ?_
  refine g_getfr2 (r := 2) cf_4 1 rfl (by decide) (by decide) rfl (by decide) wf_X3_19 dX3_claimAt_6 (hL 0 rfl) rfl ?_
  refine g_cV_i (My := mJx4a65c_size_8abf5) (gs := []) (c_AL_size rfl (n2 (vc_L hV 2 rfl))) mfJx4a65c_size_8abf5 cf_0 wi_Jx4a65c_size_8abf5 wsl_Jx4a65c_size_8abf5 wm_X3_94 dX3_claimAt_9 (Nat.le_of_ble_eq_true rfl) rfl (by decide) (n2 (hL 2 rfl)) rfl (fun _ => Nat.le_of_ble_eq_true rfl) (Nat.le_of_ble_eq_true rfl) (Nat.le_of_ble_eq_true rfl) rfl rfl ?_
  refine g_icmp_lt (tgt := 26) (by omega) (by omega) dX3_claimAt_12 (by decide) (fun h12_2 => ?_) (fun h12_2 => absurd h12_2 (by omega))
  refine g_aload_n 0 dX3_claimAt_26 rfl rfl ?_
  refine g_getfr2 (r := 2) cf_4 1 rfl (by decide) (by decide) rfl (by decide) wf_X3_19 dX3_claimAt_27 (hL 0 rfl) rfl ?_
  refine g_iload_n 1 dX3_claimAt_30 rfl rfl ?_
  refine g_cV_i (My := mJx4a65c_get_915e3) (gs := [_]) (c_CL_get (vc_lc hV hk) hk) mfJx4a65c_get_915e3 cf_0 wi_Jx4a65c_get_915e3 wsl_Jx4a65c_get_915e3 wm_X3_350 dX3_claimAt_31 (Nat.le_of_ble_eq_true rfl) rfl (by decide) (n2 (hL 2 rfl)) rfl (fun _ => Nat.le_of_ble_eq_true rfl) (Nat.le_of_ble_eq_true rfl) (Nat.le_of_ble_eq_true rfl) rfl rfl ?_
  refine g_cast cf_1 (ly_c0 (vc_k hV hk)) (by decide) wc_X3_103 dX3_claimAt_34 (n2 (vc_c hV hk).1) ?_
  exact g_aret dX3_claimAt_37 rfl (Nat.le_of_ble_eq_true rfl) (Nat.le_of_ble_eq_true rfl) (pr_mk (rfl) rfl (rfl))

set_option maxRecDepth 20000 in
theorem c_X3_claimAt_x {L : Nat → Nat} {A : Mem} (hV : VC L A) {x : Int} (hx : -2147483648 ≤ x ∧ x < 2147483648) (hc : ¬ (0 ≤ x ∧ x < A 2 2)) : Ct mX3_claimAt_x [gr 0, gi x] L A (pt xIOE L A) := by
  have hL := vc_L hV
  have hnc := vc_nc hV; have hns := vc_ns hV
  refine Ct_of (ls := [(0, _), (1, _)]) rfl (by decide) (fun _ => rfl) (fun _ => Nat.le_of_ble_eq_true rfl) ?_
  refine g_iload_n 1 dX3_claimAt_0 rfl rfl ?_
  refine g_if_lt (tgt := 15) (by omega) dX3_claimAt_1 (by decide) (fun h1_1 => ?_) (fun h1_1 => ?_)
  · skip
    exact g_throw thX3_claimAt_15 (Nat.le_of_ble_eq_true rfl) (Nat.le_of_ble_eq_true rfl) (by decide) (pt_mk (rfl))
  · skip
    refine g_iload_n 1 dX3_claimAt_4 rfl rfl ?_
    refine g_aload_n 0 dX3_claimAt_5 rfl rfl ?_
    refine g_getfr2 (r := 2) cf_4 1 rfl (by decide) (by decide) rfl (by decide) wf_X3_19 dX3_claimAt_6 (hL 0 rfl) rfl ?_
    refine g_cV_i (My := mJx4a65c_size_8abf5) (gs := []) (c_AL_size rfl (n2 (vc_L hV 2 rfl))) mfJx4a65c_size_8abf5 cf_0 wi_Jx4a65c_size_8abf5 wsl_Jx4a65c_size_8abf5 wm_X3_94 dX3_claimAt_9 (Nat.le_of_ble_eq_true rfl) rfl (by decide) (n2 (hL 2 rfl)) rfl (fun _ => Nat.le_of_ble_eq_true rfl) (Nat.le_of_ble_eq_true rfl) (Nat.le_of_ble_eq_true rfl) rfl rfl ?_
    refine g_icmp_lt (tgt := 26) (by omega) (by omega) dX3_claimAt_12 (by decide) (fun h12_2 => absurd h12_2 (by omega)) (fun h12_2 => ?_)
    exact g_throw thX3_claimAt_15 (Nat.le_of_ble_eq_true rfl) (Nat.le_of_ble_eq_true rfl) (by decide) (pt_mk (rfl))

set_option maxRecDepth 20000 in
theorem c_X3_stoneAt {L : Nat → Nat} {A : Mem} (hV : VC L A) {k : Nat} (hk : (k : Int) < A 3 2) : Ct mX3_stoneAt [gr 0, gi k] L A (pr (some (gr (200 + 3 * k))) L A) := by
  have hL := vc_L hV
  have hnc := vc_nc hV; have hns := vc_ns hV
  refine Ct_of (ls := [(0, _), (1, _)]) rfl (by decide) (fun _ => rfl) (fun _ => Nat.le_of_ble_eq_true rfl) ?_
  refine g_iload_n 1 dX3_stoneAt_0 rfl rfl ?_
  refine g_if_lt (tgt := 15) (by omega) dX3_stoneAt_1 (by decide) (fun h1_1 => absurd h1_1 (by omega)) (fun h1_1 => ?_)
  refine g_iload_n 1 dX3_stoneAt_4 rfl rfl ?_
  refine g_aload_n 0 dX3_stoneAt_5 rfl rfl ?_
  refine g_getfr2 (r := 3) cf_4 2 rfl (by decide) (by decide) rfl (by decide) wf_X3_23 dX3_stoneAt_6 (hL 0 rfl) rfl ?_
  refine g_cV_i (My := mJx4a65c_size_8abf5) (gs := []) (c_AL_size rfl (n2 (vc_L hV 3 rfl))) mfJx4a65c_size_8abf5 cf_0 wi_Jx4a65c_size_8abf5 wsl_Jx4a65c_size_8abf5 wm_X3_94 dX3_stoneAt_9 (Nat.le_of_ble_eq_true rfl) rfl (by decide) (n2 (hL 3 rfl)) rfl (fun _ => Nat.le_of_ble_eq_true rfl) (Nat.le_of_ble_eq_true rfl) (Nat.le_of_ble_eq_true rfl) rfl rfl ?_
  refine g_icmp_lt (tgt := 26) (by omega) (by omega) dX3_stoneAt_12 (by decide) (fun h12_2 => ?_) (fun h12_2 => absurd h12_2 (by omega))
  refine g_aload_n 0 dX3_stoneAt_26 rfl rfl ?_
  refine g_getfr2 (r := 3) cf_4 2 rfl (by decide) (by decide) rfl (by decide) wf_X3_23 dX3_stoneAt_27 (hL 0 rfl) rfl ?_
  refine g_iload_n 1 dX3_stoneAt_30 rfl rfl ?_
  refine g_cV_i (My := mJx4a65c_get_915e3) (gs := [_]) (c_SL_get (vc_ls hV hk) hk) mfJx4a65c_get_915e3 cf_0 wi_Jx4a65c_get_915e3 wsl_Jx4a65c_get_915e3 wm_X3_350 dX3_stoneAt_31 (Nat.le_of_ble_eq_true rfl) rfl (by decide) (n2 (hL 3 rfl)) rfl (fun _ => Nat.le_of_ble_eq_true rfl) (Nat.le_of_ble_eq_true rfl) (Nat.le_of_ble_eq_true rfl) rfl rfl ?_
  refine g_cast cf_3 (ly_s0 k) (by decide) wc_X3_218 dX3_stoneAt_34 (n2 (vc_s hV hk).1) ?_
  exact g_aret dX3_stoneAt_37 rfl (Nat.le_of_ble_eq_true rfl) (Nat.le_of_ble_eq_true rfl) (pr_mk (rfl) rfl (rfl))

set_option maxRecDepth 20000 in
theorem c_X3_stoneAt_x {L : Nat → Nat} {A : Mem} (hV : VC L A) {x : Int} (hx : -2147483648 ≤ x ∧ x < 2147483648) (hc : ¬ (0 ≤ x ∧ x < A 3 2)) : Ct mX3_stoneAt_x [gr 0, gi x] L A (pt xIOE L A) := by
  have hL := vc_L hV
  have hnc := vc_nc hV; have hns := vc_ns hV
  refine Ct_of (ls := [(0, _), (1, _)]) rfl (by decide) (fun _ => rfl) (fun _ => Nat.le_of_ble_eq_true rfl) ?_
  refine g_iload_n 1 dX3_stoneAt_0 rfl rfl ?_
  refine g_if_lt (tgt := 15) (by omega) dX3_stoneAt_1 (by decide) (fun h1_1 => ?_) (fun h1_1 => ?_)
  · skip
    exact g_throw thX3_stoneAt_15 (Nat.le_of_ble_eq_true rfl) (Nat.le_of_ble_eq_true rfl) (by decide) (pt_mk (rfl))
  · skip
    refine g_iload_n 1 dX3_stoneAt_4 rfl rfl ?_
    refine g_aload_n 0 dX3_stoneAt_5 rfl rfl ?_
    refine g_getfr2 (r := 3) cf_4 2 rfl (by decide) (by decide) rfl (by decide) wf_X3_23 dX3_stoneAt_6 (hL 0 rfl) rfl ?_
    refine g_cV_i (My := mJx4a65c_size_8abf5) (gs := []) (c_AL_size rfl (n2 (vc_L hV 3 rfl))) mfJx4a65c_size_8abf5 cf_0 wi_Jx4a65c_size_8abf5 wsl_Jx4a65c_size_8abf5 wm_X3_94 dX3_stoneAt_9 (Nat.le_of_ble_eq_true rfl) rfl (by decide) (n2 (hL 3 rfl)) rfl (fun _ => Nat.le_of_ble_eq_true rfl) (Nat.le_of_ble_eq_true rfl) (Nat.le_of_ble_eq_true rfl) rfl rfl ?_
    refine g_icmp_lt (tgt := 26) (by omega) (by omega) dX3_stoneAt_12 (by decide) (fun h12_2 => absurd h12_2 (by omega)) (fun h12_2 => ?_)
    exact g_throw thX3_stoneAt_15 (Nat.le_of_ble_eq_true rfl) (Nat.le_of_ble_eq_true rfl) (by decide) (pt_mk (rfl))

set_option maxRecDepth 20000 in
theorem c_X3_needOfPerson {L : Nat → Nat} {A : Mem} (hV : VC L A) {s : Nat} (hs : (s : Int) < A 3 2) (hc : plC A s = 1) : Ct mX3_needOfPerson [gr (200 + 3 * s)] L A (pr none L A) := by
  refine Ct_of (ls := [(0, _)]) rfl (by decide) (fun _ => rfl) (fun _ => Nat.le_of_ble_eq_true rfl) ?_
  refine g_aload_n 0 dX3_needOfPerson_0 rfl rfl ?_
  refine g_cV_i (My := mX2_place) (gs := []) (c_X2_place (vc_s hV hs)) mfX2_place cf_3 wi_X2_place wsl_X2_place wm_X3_364 dX3_needOfPerson_1 (Nat.le_of_ble_eq_true rfl) (ly_s0 s) (by decide) (n2 (vc_s hV hs).1) rfl (fun _ => Nat.le_of_ble_eq_true rfl) (Nat.le_of_ble_eq_true rfl) (Nat.le_of_ble_eq_true rfl) rfl rfl ?_
  have hpr := plC_rg A s; simp only [plC] at hpr hc
  refine g_iconst dX3_needOfPerson_4 ?_
  refine g_icmp_eq (tgt := 19) (by omega) (by omega) dX3_needOfPerson_5 (by decide) (fun h5_1 => ?_) (fun h5_1 => absurd h5_1 (by omega))
  exact g_vret dX3_needOfPerson_19 rfl (Nat.le_of_ble_eq_true rfl) (Nat.le_of_ble_eq_true rfl) (pr_v (rfl))

set_option maxRecDepth 20000 in
theorem c_X3_needOfPerson_x {L : Nat → Nat} {A : Mem} (hV : VC L A) {s : Nat} (hs : (s : Int) < A 3 2) (hc : ¬ plC A s = 1) : Ct mX3_needOfPerson_x [gr (200 + 3 * s)] L A (pt xISE L A) := by
  refine Ct_of (ls := [(0, _)]) rfl (by decide) (fun _ => rfl) (fun _ => Nat.le_of_ble_eq_true rfl) ?_
  refine g_aload_n 0 dX3_needOfPerson_0 rfl rfl ?_
  refine g_cV_i (My := mX2_place) (gs := []) (c_X2_place (vc_s hV hs)) mfX2_place cf_3 wi_X2_place wsl_X2_place wm_X3_364 dX3_needOfPerson_1 (Nat.le_of_ble_eq_true rfl) (ly_s0 s) (by decide) (n2 (vc_s hV hs).1) rfl (fun _ => Nat.le_of_ble_eq_true rfl) (Nat.le_of_ble_eq_true rfl) (Nat.le_of_ble_eq_true rfl) rfl rfl ?_
  have hpr := plC_rg A s; simp only [plC] at hpr hc
  refine g_iconst dX3_needOfPerson_4 ?_
  refine g_icmp_eq (tgt := 19) (by omega) (by omega) dX3_needOfPerson_5 (by decide) (fun h5_1 => absurd h5_1 (by omega)) (fun h5_1 => ?_)
  exact g_throw thX3_needOfPerson_8 (Nat.le_of_ble_eq_true rfl) (Nat.le_of_ble_eq_true rfl) (by decide) (pt_mk (rfl))

set_option maxHeartbeats 1000000 in
set_option maxRecDepth 20000 in
theorem c_X3_holderOf {L : Nat → Nat} {A : Mem} (hV : VC L A) {x : Int} (hx : 0 ≤ x ∧ x < 100) : Ct mX3_holderOf [gr 0, gi x] L A (pr (some (gi (hldC A x))) L A) := by
  have hL := vc_L hV
  have hnc := vc_nc hV; have hp0 := (vc_p hV).1
  refine Ct_of (ls := [(0, _), (1, _)]) rfl (by decide) (fun _ => rfl) (fun _ => Nat.le_of_ble_eq_true rfl) ?_
  refine g_iconst dX3_holderOf_0 ?_
  refine g_st (ls2 := [(2, _), (0, _), (1, _)]) dX3_holderOf_1 rfl (by decide) (c1_cr (c1_ci c1_0)) rfl ?_
  refine g_iconst dX3_holderOf_2 ?_
  refine g_st (ls2 := [(3, _), (2, _), (0, _), (1, _)]) dX3_holderOf_3 rfl (by decide) (c1_ci (c1_cr (c1_ci c1_0))) rfl ?_
  refine g_iconst dX3_holderOf_4 ?_
  refine g_st2 (ls2 := [(4, _), (3, _), (2, _), (0, _), (1, _)]) dX3_holderOf_5 (by decide) (c1_ci (c1_ci (c1_cr (c1_ci c1_0)))) rfl ?_
  refine g_sub [3, 4, 2, 1, 0] (ls2 := [(0, _), (1, _), (2, _), (3, _), (4, _)]) rfl ?_
  have hQ7 : (fun i : Nat => GW mX3_holderOf (pr (some (gi (hldC A x))) L A) 0 0 7 [(0, gr (0)), (1, gi (x)), (2, gi (hldF (covC A x) (livC A) (fun k => A (100 + 3 * k) 5) i)), (3, gi ((if hldF (covC A x) (livC A) (fun k => A (100 + 3 * k) 5) i = -1 then 0 else A (100 + 3 * (hldF (covC A x) (livC A) (fun k => A (100 + 3 * k) 5) i).toNat) 5))), (4, gi ((i : Int)))] [] L (A)) 0 := by
    refine lp_up (Q := (fun i : Nat => GW mX3_holderOf (pr (some (gi (hldC A x))) L A) 0 0 7 [(0, gr (0)), (1, gi (x)), (2, gi (hldF (covC A x) (livC A) (fun k => A (100 + 3 * k) 5) i)), (3, gi ((if hldF (covC A x) (livC A) (fun k => A (100 + 3 * k) 5) i = -1 then 0 else A (100 + 3 * (hldF (covC A x) (livC A) (fun k => A (100 + 3 * k) 5) i).toNat) 5))), (4, gi ((i : Int)))] [] L (A))) (n := (A 2 2).toNat) ?_ (fun i hi7 ih7 => ?_)
    · skip
      refine g_iload 4 dX3_holderOf_7 rfl ?_
      refine g_aload_n 0 dX3_holderOf_9 rfl rfl ?_
      refine g_getfr2 (r := 2) cf_4 1 rfl (by decide) (by decide) rfl (by decide) wf_X3_19 dX3_holderOf_10 (hL 0 rfl) rfl ?_
      refine g_cV_i (My := mJx4a65c_size_8abf5) (gs := []) (c_AL_size rfl (n2 (vc_L hV 2 rfl))) mfJx4a65c_size_8abf5 cf_0 wi_Jx4a65c_size_8abf5 wsl_Jx4a65c_size_8abf5 wm_X3_94 dX3_holderOf_13 (Nat.le_of_ble_eq_true rfl) rfl (by decide) (n2 (hL 2 rfl)) rfl (fun _ => Nat.le_of_ble_eq_true rfl) (Nat.le_of_ble_eq_true rfl) (Nat.le_of_ble_eq_true rfl) rfl rfl ?_
      refine g_icmp_ge (tgt := 83) (by omega) (by omega) dX3_holderOf_16 (by decide) (fun h16_1 => ?_) (fun h16_1 => absurd h16_1 (by omega))
      refine g_iload_n 2 dX3_holderOf_83 rfl rfl ?_
      exact g_iret dX3_holderOf_84 rfl (Nat.le_of_ble_eq_true rfl) (Nat.le_of_ble_eq_true rfl) (pr_i (rfl) (rfl))
    · skip
      have hk : (i : Int) < A 2 2 := by omega
      have hcv := vc_cv hV hk
      have hrg := hldF_rg (covC A x) (livC A) (fun k => A (100 + 3 * k) 5) i
      refine g_iload 4 dX3_holderOf_7 rfl ?_
      refine g_aload_n 0 dX3_holderOf_9 rfl rfl ?_
      refine g_getfr2 (r := 2) cf_4 1 rfl (by decide) (by decide) rfl (by decide) wf_X3_19 dX3_holderOf_10 (hL 0 rfl) rfl ?_
      refine g_cV_i (My := mJx4a65c_size_8abf5) (gs := []) (c_AL_size rfl (n2 (vc_L hV 2 rfl))) mfJx4a65c_size_8abf5 cf_0 wi_Jx4a65c_size_8abf5 wsl_Jx4a65c_size_8abf5 wm_X3_94 dX3_holderOf_13 (Nat.le_of_ble_eq_true rfl) rfl (by decide) (n2 (hL 2 rfl)) rfl (fun _ => Nat.le_of_ble_eq_true rfl) (Nat.le_of_ble_eq_true rfl) (Nat.le_of_ble_eq_true rfl) rfl rfl ?_
      refine g_icmp_ge (tgt := 83) (by omega) (by omega) dX3_holderOf_16 (by decide) (fun h16_2 => absurd h16_2 (by omega)) (fun h16_2 => ?_)
      refine g_aload_n 0 dX3_holderOf_19 rfl rfl ?_
      refine g_getfr2 (r := 2) cf_4 1 rfl (by decide) (by decide) rfl (by decide) wf_X3_19 dX3_holderOf_20 (hL 0 rfl) rfl ?_
      refine g_iload 4 dX3_holderOf_23 rfl ?_
      refine g_cV_i (My := mJx4a65c_get_915e3) (gs := [_]) (c_CL_get (vc_lc hV hk) hk) mfJx4a65c_get_915e3 cf_0 wi_Jx4a65c_get_915e3 wsl_Jx4a65c_get_915e3 wm_X3_350 dX3_holderOf_25 (Nat.le_of_ble_eq_true rfl) rfl (by decide) (n2 (hL 2 rfl)) rfl (fun _ => Nat.le_of_ble_eq_true rfl) (Nat.le_of_ble_eq_true rfl) (Nat.le_of_ble_eq_true rfl) rfl rfl ?_
      refine g_cast cf_1 (ly_c0 (vc_k hV hk)) (by decide) wc_X3_103 dX3_holderOf_28 (n2 (vc_c hV hk).1) ?_
      refine g_sa2 (ls2 := [(5, _), (0, _), (1, _), (2, _), (3, _), (4, _)]) dX3_holderOf_31 (by decide) (c1_cr (c1_ci (c1_ci (c1_ci (c1_ci c1_0))))) rfl ?_
      refine g_aload 0 dX3_holderOf_33 rfl ?_
      refine g_iload_n 2 dX3_holderOf_35 rfl rfl ?_
      refine g_cV_i (My := mX0_covers) (gs := [_]) (c_X0_covers (vc_k hV hk) (vc_c hV hk) hcv.2.1 hx) mfX0_covers cf_1 wi_X0_covers wsl_X0_covers wm_X3_372 dX3_holderOf_36 (Nat.le_of_ble_eq_true rfl) (ly_c0 (vc_k hV hk)) (by decide) (n2 (vc_c hV hk).1) rfl (fun _ => Nat.le_of_ble_eq_true rfl) (Nat.le_of_ble_eq_true rfl) (Nat.le_of_ble_eq_true rfl) rfl rfl ?_
      refine g_ifb_eq (tgt := 77) dX3_holderOf_39 (by decide) (fun h39_3 => ?_) (fun h39_3 => ?_)
      · skip
        refine g_inc (ls2 := [(4, _), (5, _), (0, _), (1, _), (2, _), (3, _)]) 5 dX3_holderOf_77 rfl (by decide) (c1_cr (c1_cr (c1_ci (c1_ci (c1_ci (c1_ci c1_0)))))) rfl ?_
        refine g_goto (tgt := 7) dX3_holderOf_80 (by decide) ?_
        refine g_sub [2, 3, 4, 5, 0] (ls2 := [(0, _), (1, _), (2, _), (3, _), (4, _)]) rfl ?_
        exact g_ls (by simp only [hldF, covC, livC] at *; grind) rfl rfl ih7
      · skip
        refine g_aload 0 dX3_holderOf_42 rfl ?_
        refine g_aload_n 1 dX3_holderOf_44 rfl rfl ?_
        refine g_getfi cf_4 9 rfl (by decide) (by decide) rfl (by decide) wf_X3_80 dX3_holderOf_45 (n2 (hL 0 rfl)) (fun h45_4 => ?_)
        refine g_cV_i (My := mX0_isLive) (gs := [_]) (c_X0_isLive (vc_k hV hk) (vc_c hV hk) (by omega) (by have := hcv.2.2.2.1; omega)) mfX0_isLive cf_1 wi_X0_isLive wsl_X0_isLive wm_X3_272 dX3_holderOf_48 (Nat.le_of_ble_eq_true rfl) (ly_c0 (vc_k hV hk)) (by decide) (n2 (vc_c hV hk).1) rfl (fun _ => Nat.le_of_ble_eq_true rfl) (Nat.le_of_ble_eq_true rfl) (Nat.le_of_ble_eq_true rfl) rfl rfl ?_
        refine g_ifb_eq (tgt := 77) dX3_holderOf_51 (by decide) (fun h51_5 => ?_) (fun h51_5 => ?_)
        · skip
          refine g_inc (ls2 := [(4, _), (5, _), (0, _), (1, _), (2, _), (3, _)]) 5 dX3_holderOf_77 rfl (by decide) (c1_cr (c1_cr (c1_ci (c1_ci (c1_ci (c1_ci c1_0)))))) rfl ?_
          refine g_goto (tgt := 7) dX3_holderOf_80 (by decide) ?_
          refine g_sub [2, 3, 4, 5, 0] (ls2 := [(0, _), (1, _), (2, _), (3, _), (4, _)]) rfl ?_
          exact g_ls (by simp only [hldF, covC, livC] at *; grind) rfl rfl ih7
        · skip
          refine g_iload_n 3 dX3_holderOf_54 rfl rfl ?_
          refine g_iconst dX3_holderOf_55 ?_
          skip
          refine g_icmp_eq (tgt := 68) (by omega) (by omega) dX3_holderOf_56 (by decide) (fun h56_6 => ?_) (fun h56_6 => ?_)
          · skip
            refine g_iload 5 dX3_holderOf_68 rfl ?_
            refine g_st (ls2 := [(2, _), (5, _), (0, _), (1, _), (3, _), (4, _)]) dX3_holderOf_70 rfl (by decide) (c1_cr (c1_cr (c1_ci (c1_ci (c1_ci (c1_ci c1_0)))))) rfl ?_
            refine g_aload 1 dX3_holderOf_71 rfl ?_
            refine g_getfi cf_1 5 (ly_c0 (vc_k hV hk)) (by decide) (by decide) rfl (by decide) wf_X3_130 dX3_holderOf_73 (n2 (vc_c hV hk).1) (fun h73_7 => ?_)
            refine g_st (ls2 := [(3, _), (2, _), (5, _), (0, _), (1, _), (4, _)]) dX3_holderOf_76 rfl (by decide) (c1_ci (c1_cr (c1_cr (c1_ci (c1_ci (c1_ci c1_0)))))) rfl ?_
            refine g_inc (ls2 := [(4, _), (3, _), (2, _), (5, _), (0, _), (1, _)]) 5 dX3_holderOf_77 rfl (by decide) (c1_ci (c1_ci (c1_cr (c1_cr (c1_ci (c1_ci c1_0)))))) rfl ?_
            refine g_goto (tgt := 7) dX3_holderOf_80 (by decide) ?_
            refine g_sub [4, 5, 2, 1, 0] (ls2 := [(0, _), (1, _), (2, _), (3, _), (4, _)]) rfl ?_
            exact g_ls (by simp only [hldF, covC, livC] at *; grind) rfl rfl ih7
          · skip
            refine g_aload 0 dX3_holderOf_59 rfl ?_
            refine g_getfi cf_1 5 (ly_c0 (vc_k hV hk)) (by decide) (by decide) rfl (by decide) wf_X3_130 dX3_holderOf_61 (n2 (vc_c hV hk).1) (fun h61_8 => ?_)
            refine g_iload_n 4 dX3_holderOf_64 rfl rfl ?_
            have hrr : -2147483648 ≤ (if hldF (covC A x) (livC A) (fun k => A (100 + 3 * k) 5) i = -1 then 0 else A (100 + 3 * (hldF (covC A x) (livC A) (fun k => A (100 + 3 * k) 5) i).toNat) 5) ∧ (if hldF (covC A x) (livC A) (fun k => A (100 + 3 * k) 5) i = -1 then 0 else A (100 + 3 * (hldF (covC A x) (livC A) (fun k => A (100 + 3 * k) 5) i).toNat) 5) < 2147483648 := by (rw [if_neg (by assumption)]; have := (vc_cv hV (show (((hldF (covC A x) (livC A) (fun k => A (100 + 3 * k) 5) i).toNat : Nat) : Int) < A 2 2 by omega)).2.2.1; omega)
            refine g_icmp_ge (tgt := 77) (by omega) (by omega) dX3_holderOf_65 (by decide) (fun h65_9 => ?_) (fun h65_9 => ?_)
            · skip
              refine g_inc (ls2 := [(4, _), (5, _), (0, _), (1, _), (2, _), (3, _)]) 5 dX3_holderOf_77 rfl (by decide) (c1_cr (c1_cr (c1_ci (c1_ci (c1_ci (c1_ci c1_0)))))) rfl ?_
              refine g_goto (tgt := 7) dX3_holderOf_80 (by decide) ?_
              refine g_sub [2, 3, 4, 5, 0] (ls2 := [(0, _), (1, _), (2, _), (3, _), (4, _)]) rfl ?_
              exact g_ls (by simp only [hldF, covC, livC] at *; grind) rfl rfl ih7
            · skip
              refine g_iload 5 dX3_holderOf_68 rfl ?_
              refine g_st (ls2 := [(2, _), (5, _), (0, _), (1, _), (3, _), (4, _)]) dX3_holderOf_70 rfl (by decide) (c1_cr (c1_cr (c1_ci (c1_ci (c1_ci (c1_ci c1_0)))))) rfl ?_
              refine g_aload 1 dX3_holderOf_71 rfl ?_
              refine g_getfi cf_1 5 (ly_c0 (vc_k hV hk)) (by decide) (by decide) rfl (by decide) wf_X3_130 dX3_holderOf_73 (n2 (vc_c hV hk).1) (fun h73_10 => ?_)
              refine g_st (ls2 := [(3, _), (2, _), (5, _), (0, _), (1, _), (4, _)]) dX3_holderOf_76 rfl (by decide) (c1_ci (c1_cr (c1_cr (c1_ci (c1_ci (c1_ci c1_0)))))) rfl ?_
              refine g_inc (ls2 := [(4, _), (3, _), (2, _), (5, _), (0, _), (1, _)]) 5 dX3_holderOf_77 rfl (by decide) (c1_ci (c1_ci (c1_cr (c1_cr (c1_ci (c1_ci c1_0)))))) rfl ?_
              refine g_goto (tgt := 7) dX3_holderOf_80 (by decide) ?_
              refine g_sub [4, 5, 2, 1, 0] (ls2 := [(0, _), (1, _), (2, _), (3, _), (4, _)]) rfl ?_
              exact g_ls (by simp only [hldF, covC, livC] at *; grind) rfl rfl ih7
  exact g_ls (by rfl) rfl rfl hQ7

