/-- what holds before the law's i-th call -/
def LI (i : Nat) (L : Nat → Nat) (A : Mem) : Prop := VC L A ∧ XC L A ∧ IV A ∧ JV A ∧ Rel A A ∧ LM L ∧ L 18 = 2 ∧ ∀ p, A 8 p ≤ i
theorem LI_fin {i : Nat} {L1 : Nat → Nat} {A2 A3 R : Mem} (hV : VC L1 A2) (hX : XC L1 A2) (hI : IV A2) (hJ : JV A2) (hR : Rel A2 R) (hM : LM L1) (h18 : L1 18 = 2) (h8 : ∀ p, A2 8 p ≤ i) (hc : ∀ n, (n < 18 ∧ n ≠ 10 ∧ n ≠ 11) ∨ 100 ≤ n → A3 n = A2 n) (hr : ∀ n, 23 ≤ n ∧ n ≤ 55 → A3 n = R n) (hr0 : ∀ j, j ≠ 0 → A3 20 j = R 20 j) : LI i L1 A3 :=
  ⟨vc_cg hc hV, xc_cg hX (fun n q => hc n (by omega)) (fun n q => hc n (by omega)), iv_cg hc hI, fun j => by rw [hc 17 (by omega), hc 2 (by omega)]; exact hJ j, rel_cg hc (fun n q => hr n (by omega)) hr0 hR, hM, h18, fun p => by rw [hc 8 (by omega)]; exact h8 p⟩
theorem LI_err {i : Nat} {L : Nat → Nat} {A : Mem} (h : LI i L A) (v : Int) : LI (i + 1) L (gup A 20 0 v) := by
  obtain ⟨hV, hX, hI, hJ, hR, hM, h18, h8⟩ := h
  exact LI_fin (R := gup A 20 0 v) hV hX hI hJ (rl_th hR v) hM h18 (fun p => by have := h8 p; omega) (fun n q => gup_ne (by omega)) (fun _ _ => rfl) (fun _ _ => rfl)
/-- the reference's rows after the class's call -/
theorem rel_cls {A A1 : Mem} (hR : Rel A A) (h : ∀ n, 20 ≤ n → n ≤ 55 → A1 n = A n) : Rel A A1 := rel_cg (fun _ _ => rfl) (fun n q => h n (by omega) (by omega)) (fun j _ => by rw [h 20 (by omega) (by omega)]) hR
theorem LI_out {A : Mem} {v : Int} {A2 : Mem} (h : ∀ n, 20 ≤ n → n ≤ 55 → A2 n = A n) : ∀ n, 20 ≤ n → n ≤ 55 → gup A2 18 0 v n = A n := fun n q1 q2 => by rw [gup_ne (by omega)]; exact h n q1 q2
theorem pegL_18 (L : Nat → Nat) (k : Nat) {n : Nat} (h : n < 100) (h4 : n ≠ 4) : pegL L k n = L n := by unfold pegL; rw [if_neg (by omega)]
theorem uncL_m {L : Nat → Nat} {A : Mem} {c : Int} : (∀ n, L n = 2 → uncL L A c n = 2) ∧ (∀ n, L n ≠ 0 → uncL L A c n ≠ 0) ∧ ∀ n, n < 100 → n ≠ 5 → uncL L A c n = L n := by
  unfold uncL
  by_cases h : 0 < A 14 c.toNat
  · rw [if_pos h]
    unfold stoL
    refine ⟨fun n q => ?_, fun n q => ?_, fun n q1 q2 => ?_⟩
    · split
      · rfl
      · exact q
    · split
      · decide
      · exact q
    · rw [if_neg (by omega)]
  · rw [if_neg h]; exact ⟨fun _ q => q, fun _ q => q, fun _ _ _ => rfl⟩
theorem LM_of {L L2 : Nat → Nat} (hM : LM L) (h : ∀ n, n < 100 → n ≠ 4 → n ≠ 5 → L2 n = L n) : LM L2 := fun n hn => by
  have : n < 100 ∧ n ≠ 4 ∧ n ≠ 5 := by unfold fxM at hn; simp at hn; omega
  rw [h n this.1 this.2.1 this.2.2]; exact hM n hn
theorem dvR_ne (B A : Mem) (k : Nat) (w : Int) (i : Nat) {n : Nat} (h : n ≠ 48) (h2 : n ≠ 43) : dvR B A k w i n = A n := by
  induction i with
  | zero => rfl
  | succ i ih => rw [dvR, gup_ne h2, gup_ne h, ih]
theorem dvM_ne (B : Mem) (k : Nat) (w : Int) (i : Nat) {n : Nat} (h : n < 200) (h2 : n ≠ 10) : dvM B k w i n = B n := by
  induction i with
  | zero => rfl
  | succ i ih => rw [dvM, dvS, gup_ne h2, gup_ne (by omega), ih]
theorem dvM_hi {L : Nat → Nat} {A R : Mem} {k : Nat} (hV : VC L A) (hI : IV A) (hR : Rel A R) (hk : (k : Int) < A 2 2) (i : Nat) (hi : i ≤ (prcN A k).toNat) {n : Nat} (hn : 200 + 3 * (A 3 2).toNat ≤ n) : dvM (clN A 10 8) k (sumF (cwP A k) (A 3 2).toNat) i n = A n := by
  induction i with
  | zero => rw [dvM, clN_ne _ _ _ (by omega)]
  | succ i ih =>
    have hpr0 : 0 ≤ prcN A k ∧ prcN A k ≤ 100 := by have := cntF_rg (inpC A k) (A 3 2).toNat; have := vc_ns hV; unfold prcN; omega
    have hinv := div_inv hV hI hR hk (sumF (cwP A k) (A 3 2).toNat) i (by omega)
    have hki : (k : Int) < (dvM (clN A 10 8) k (sumF (cwP A (k : Int)) (A 3 2).toNat) i) 2 2 := by rw [hinv.2.2.2.2.2.1]; exact hk
    have e3 : ((dvM (clN A 10 8) k (sumF (cwP A (k : Int)) (A 3 2).toNat) i) 3 2).toNat = (A 3 2).toNat := by rw [hinv.2.2.2.2.2.2.1]
    have hds := dvS_inv (w := sumF (cwP A (k : Int)) (A 3 2).toNat) hinv.1 hinv.2.1 hinv.2.2.1 hki (by rw [e3, hinv.2.2.2.2.1]; omega)
    have hd1 := hds.1
    rw [hinv.2.2.2.2.2.2.1] at hd1
    rw [dvM, dvS, gup_ne (by omega), gup_ne (by omega), ih (by omega)]
theorem xc_div {L : Nat → Nat} {A R : Mem} {k : Nat} (hV : VC L A) (hX : XC L A) (hI : IV A) (hR : Rel A R) (hk : (k : Int) < A 2 2) : XC L (divA A k) := by
  have hnc := vc_nc hV
  refine xc_cg hX (fun n q => ?_) (fun n q => ?_)
  · unfold divA; rw [dvM_ne _ _ _ _ (by omega) (by omega), clN_ne _ _ _ (by omega)]
  · rcases Nat.lt_or_ge n 200 with h | h
    · unfold divA; rw [dvM_ne _ _ _ _ (by omega) (by omega), clN_ne _ _ _ (by omega)]
    · unfold divA; exact dvM_hi hV hI hR hk _ (Nat.le_refl _) (by omega)
theorem opnR_20 (A : Mem) (c p k : Int) : opnR A c p k 20 0 = A 20 0 := by
  rw [opnR_ne _ _ _ _ (by omega) (by omega)]
  unfold opn1 opnS
  rw [gup_ne (by decide)]
  split
  · rw [gup_ap, if_neg (by omega), gup_ne (by decide), gup_ne (by decide), gup_ne (by decide), gup_ne (by decide), gup_ne (by decide), gup_ne (by decide), gup_ne (by decide), gup_ne (by decide)]
  · rw [gup_ne (by decide), gup_ne (by decide)]
theorem opnR_o (A : Mem) (c p k : Int) {n : Nat} (h : n < 20 ∨ 55 < n) : opnR A c p k n = A n := by
  rw [opnR_ne _ _ _ _ (by omega) (by omega)]
  unfold opn1
  rw [gup_ne (by omega), opnS_ne _ _ _ _ _ (by omega)]
theorem ratR_o {A : Mem} {p c : Int} {n : Nat} (h : n < 20 ∨ 55 < n) : ratR A p c n = A n := by
  unfold ratR
  by_cases q : A 28 c.toNat = -1
  · rw [if_pos q, opnR_o _ _ _ _ h, gup_ne (by omega)]
  · rw [if_neg q, gup_ne (by omega), gup_ne (by omega), gup_ne (by omega), gup_ne (by omega)]
theorem ratR_20 {A : Mem} {p c : Int} : ratR A p c 20 0 = 0 := by
  unfold ratR
  by_cases q : A 28 c.toNat = -1
  · rw [if_pos q, opnR_20, gup_ap, if_pos ⟨rfl, rfl⟩]
  · rw [if_neg q, gup_ne (by decide), gup_ne (by decide), gup_ne (by decide), gup_ap, if_pos ⟨rfl, rfl⟩]
theorem fallC_o (A : Mem) (x : Int) {n : Nat} (h : n ≠ 12) : fallC A x n = A n := fallC_ne A x h
theorem uncA_o {A : Mem} {c w p : Int} {n : Nat} (h : n ≠ 12) (h2 : n ≠ 14) (h3 : n ≠ 3) (h5 : n ≠ 5) (h6 : n < 200) : uncA A c w p n = A n := by
  unfold uncA unsC
  rw [fallC_ne _ _ h]
  split
  · rw [addM_ne h3 h5, stnA_ne (by omega), opnA_ne h2 h]
  · exact opnA_ne h2 h
theorem pegC_o {A : Mem} {k : Nat} {p x r c : Int} {n : Nat} (h : n < 100) (h2 : n ≠ 2) (h4 : n ≠ 4) : pegC A k p x r c n = A n := by unfold pegC; rw [addM_ne h2 h4, clmA_ne (by omega)]
theorem pegR_o {A : Mem} {p x r c : Int} {n : Nat} (h : n < 20 ∨ 55 < n) : pegR A p x r c n = A n := by
  unfold pegR pegS
  rw [gup_ne (by omega), pegH_ne _ _ _ (by omega), gup_ne (by omega), gup_ne (by omega), gup_ne (by omega), gup_ne (by omega), gup_ne (by omega), gup_ne (by omega), gup_ne (by omega)]
theorem pegR_20 {A : Mem} {p x r c : Int} : pegR A p x r c 20 0 = 0 := by
  unfold pegR pegS
  rw [gup_ap, if_neg (by omega), pegH_ne _ _ _ (by decide), gup_ne (by decide), gup_ne (by decide), gup_ne (by decide), gup_ne (by decide), gup_ne (by decide), gup_ne (by decide), gup_ap, if_pos ⟨rfl, rfl⟩]
theorem xc_low {L : Nat → Nat} {A B : Mem} (hV : VC L A) (hX : XC L A) (h : ∀ n, 2 ≤ n → n ≤ 5 → B n = A n) (h2 : ∀ n, (∀ k : Nat, (k : Int) < A 2 2 → n ≠ 100 + 3 * k ∧ n ≠ 101 + 3 * k ∧ n ≠ 102 + 3 * k) → (∀ s : Nat, (s : Int) < A 3 2 → n ≠ 200 + 3 * s ∧ n ≠ 201 + 3 * s ∧ n ≠ 202 + 3 * s) → 100 ≤ n → B n = A n) : XC L B := by
  have hnc := vc_nc hV
  have hns := vc_ns hV
  refine xc_cg hX (fun n q => h n q.1 q.2) (fun n q => h2 n (fun k hk => ?_) (fun s hs => ?_) (by omega))
  · omega
  · omega

set_option maxHeartbeats 1000000 in
theorem st_seam {i : Nat} {L : Nat → Nat} {A : Mem} (h : LI i L A) (hi9 : i < 600) {a1 a2 a3 : Int} (ha1 : -2147483648 ≤ a1 ∧ a1 < 2147483648) (ha2 : -2147483648 ≤ a2 ∧ a2 < 2147483648) (ha3 : -2147483648 ≤ a3 ∧ a3 < 2147483648) : ∃ (E : Nat) (L1 : Nat → Nat) (A1 A3 : Mem), E ≤ 3 ∧ Ct mL_seam [gr 0, gi a1, gi a2, gi a3] L A (pr (some (gi (E : Int))) L1 A1) ∧ Ct mX4_seam [gr 20, gi a1, gi a2, gi a3] L1 A1 (pr none L1 A3) ∧ A3 20 0 = E ∧ LM L1 ∧ L1 18 = 2 ∧ LI (i + 1) L1 A3 := by
  obtain ⟨hV, hX, hI, hJ, hR, hM, h18, h8⟩ := id h
  have hL0 := vc_L hV 0 rfl
  have hE3 : seamE A a1 a2 a3 ≤ 3 := by unfold seamE; (repeat' split) <;> omega
  have hH := c_L_seam hL0 (c_X3_seam hV ha1 ha2 ha3)
  by_cases hE : seamE A a1 a2 a3 = 0
  · rw [if_pos hE, if_pos hE] at hH
    have hRA : Rel A (seamA A a1 a2 a3) := rel_cls hR (fun n q1 q2 => by unfold seamA; rw [gup_ne (by omega), gup_ne (by omega), gup_ne (by omega)])
    have hV1 := hV
    have hM1 := hM
    have h181 := h18
    have hR4 := c_X4_seam hM1 hV1 hRA ha1 ha2 ha3
    rw [if_pos hE] at hR4
    have ho2 : ∀ n, n < 20 ∨ 55 < n → (gup (gup (gup (gup (gup (seamA A a1 a2 a3) 20 0 0) 26 a1.toNat 1) 24 a1.toNat a2) 25 a1.toNat a3) 20 35 ((seamA A a1 a2 a3) 20 35 + a2)) n = (seamA A a1 a2 a3) n := fun n q => by rw [gup_ne (by omega), gup_ne (by omega), gup_ne (by omega), gup_ne (by omega), gup_ne (by omega)]
    have ho5 : (gup (gup (gup (gup (gup (seamA A a1 a2 a3) 20 0 0) 26 a1.toNat 1) 24 a1.toNat a2) 25 a1.toNat a3) 20 35 ((seamA A a1 a2 a3) 20 35 + a2)) 20 0 = 0 := by rw [gup_ap, if_neg (by omega), gup_ne (by decide), gup_ne (by decide), gup_ne (by decide), gup_ap, if_pos ⟨rfl, rfl⟩]
    have hk3 := keep_seam hV hI hRA hE
    have hnc := vc_nc hV
    have hns := vc_ns hV
    have hX2 : XC L (seamA A a1 a2 a3) := xc_cg hX (fun n q => by unfold seamA; rw [gup_ne (by omega), gup_ne (by omega), gup_ne (by omega)]) (fun n q => by unfold seamA; rw [gup_ne (by omega), gup_ne (by omega), gup_ne (by omega)])
    have hJ2 : JV (seamA A a1 a2 a3) := fun j => by rw [show (seamA A a1 a2 a3) 17 = A 17 by unfold seamA; rw [gup_ne (by omega), gup_ne (by omega), gup_ne (by omega)], show (seamA A a1 a2 a3) 2 = A 2 by unfold seamA; rw [gup_ne (by omega), gup_ne (by omega), gup_ne (by omega)]]; exact hJ j
    have hk : VC L (seamA A a1 a2 a3) ∧ XC L (seamA A a1 a2 a3) ∧ IV (seamA A a1 a2 a3) ∧ JV (seamA A a1 a2 a3) ∧ Rel (seamA A a1 a2 a3) (gup (gup (gup (gup (gup (seamA A a1 a2 a3) 20 0 0) 26 a1.toNat 1) 24 a1.toNat a2) 25 a1.toNat a3) 20 35 ((seamA A a1 a2 a3) 20 35 + a2)) := ⟨hk3.1, hX2, hk3.2.1, hJ2, hk3.2.2⟩
    have hLI : LI (i + 1) (L) (gup (gup (gup (gup (gup (seamA A a1 a2 a3) 20 0 0) 26 a1.toNat 1) 24 a1.toNat a2) 25 a1.toNat a3) 20 35 ((seamA A a1 a2 a3) 20 35 + a2)) := LI_fin (R := gup (gup (gup (gup (gup (seamA A a1 a2 a3) 20 0 0) 26 a1.toNat 1) 24 a1.toNat a2) 25 a1.toNat a3) 20 35 ((seamA A a1 a2 a3) 20 35 + a2)) hk.1 hk.2.1 hk.2.2.1 hk.2.2.2.1 hk.2.2.2.2 hM1 h181 (fun p => by rw [show (seamA A a1 a2 a3) 8 = A 8 by unfold seamA; rw [gup_ne (by omega), gup_ne (by omega), gup_ne (by omega)]]; have := h8 p; omega) (fun n q => by rw [ho2 n (by omega)]) (fun _ _ => rfl) (fun _ _ => rfl)
    exact ⟨_, _, _, _, hE3, hH, hR4, by rw [ho5, hE]; rfl, hM1, h181, hLI⟩
  · rw [if_neg hE, if_neg hE] at hH
    have hR4 := c_X4_seam hM hV hR ha1 ha2 ha3
    rw [if_neg hE] at hR4
    exact ⟨_, _, _, _, hE3, hH, hR4, by rw [gup_ap, if_pos ⟨rfl, rfl⟩], hM, h18, LI_err h _⟩
set_option maxHeartbeats 1000000 in
theorem st_pass {i : Nat} {L : Nat → Nat} {A : Mem} (h : LI i L A) (hi9 : i < 600) {a1 : Int} (ha1 : -2147483648 ≤ a1 ∧ a1 < 2147483648) : ∃ (E : Nat) (W : Int) (L1 : Nat → Nat) (A1 A3 : Mem), E ≤ 3 ∧ Ct mL_pass [gr 0, gi a1, gr 18] L A (pr (some (gi (E : Int))) L1 A1) ∧ Ct mX4_pass [gr 20, gi a1] L1 A1 (pr (some (gi W)) L1 A3) ∧ A3 20 0 = E ∧ (E = 0 → A3 18 0 = nrm W) ∧ LM L1 ∧ L1 18 = 2 ∧ LI (i + 1) L1 A3 := by
  obtain ⟨hV, hX, hI, hJ, hR, hM, h18, h8⟩ := id h
  have hL0 := vc_L hV 0 rfl
  have hE3 : passE A a1 ≤ 3 := by unfold passE; (repeat' split) <;> omega
  have hH := c_L_pass hL0 h18 h18 (c_X3_pass hV ha1)
  by_cases hE : passE A a1 = 0
  · rw [if_pos hE, if_pos hE] at hH
    have hRA : Rel A (gup (gup A 0 9 (A 0 9 + a1)) 18 0 (nrm (A 0 9 + a1))) := rel_cls hR (LI_out (fun n q1 q2 => by rw [gup_ne (by omega)]))
    have hV1 := hV
    have hM1 := hM
    have h181 := h18
    have hR4 := c_X4_pass hM1 hV1 hRA ha1
    rw [if_pos hE, if_pos hE] at hR4
    have ho2 : ∀ n, n < 20 ∨ 55 < n → (gup (gup (gup (gup A 0 9 (A 0 9 + a1)) 18 0 (nrm (A 0 9 + a1))) 20 0 0) 20 1 ((gup (gup A 0 9 (A 0 9 + a1)) 18 0 (nrm (A 0 9 + a1))) 20 1 + a1)) n = (gup (gup A 0 9 (A 0 9 + a1)) 18 0 (nrm (A 0 9 + a1))) n := fun n q => by rw [gup_ne (by omega), gup_ne (by omega)]
    have ho5 : (gup (gup (gup (gup A 0 9 (A 0 9 + a1)) 18 0 (nrm (A 0 9 + a1))) 20 0 0) 20 1 ((gup (gup A 0 9 (A 0 9 + a1)) 18 0 (nrm (A 0 9 + a1))) 20 1 + a1)) 20 0 = 0 := by rw [gup_ap, if_neg (by omega), gup_ap, if_pos ⟨rfl, rfl⟩]
    have hk3 := keep_pass hV hI hRA hE
    have hnc := vc_nc hV
    have hns := vc_ns hV
    have hX2 : XC L (gup A 0 9 (A 0 9 + a1)) := xc_cg hX (fun n q => by rw [gup_ne (by omega)]) (fun n q => by rw [gup_ne (by omega)])
    have hJ2 : JV (gup A 0 9 (A 0 9 + a1)) := fun j => by rw [show (gup A 0 9 (A 0 9 + a1)) 17 = A 17 by rw [gup_ne (by omega)], show (gup A 0 9 (A 0 9 + a1)) 2 = A 2 by rw [gup_ne (by omega)]]; exact hJ j
    have hk : VC L (gup A 0 9 (A 0 9 + a1)) ∧ XC L (gup A 0 9 (A 0 9 + a1)) ∧ IV (gup A 0 9 (A 0 9 + a1)) ∧ JV (gup A 0 9 (A 0 9 + a1)) ∧ Rel (gup A 0 9 (A 0 9 + a1)) (gup (gup (gup (gup A 0 9 (A 0 9 + a1)) 18 0 (nrm (A 0 9 + a1))) 20 0 0) 20 1 ((gup (gup A 0 9 (A 0 9 + a1)) 18 0 (nrm (A 0 9 + a1))) 20 1 + a1)) := ⟨hk3.1, hX2, hk3.2.1, hJ2, hk3.2.2⟩
    have hLI : LI (i + 1) (L) (gup (gup (gup (gup A 0 9 (A 0 9 + a1)) 18 0 (nrm (A 0 9 + a1))) 20 0 0) 20 1 ((gup (gup A 0 9 (A 0 9 + a1)) 18 0 (nrm (A 0 9 + a1))) 20 1 + a1)) := LI_fin (R := gup (gup (gup (gup A 0 9 (A 0 9 + a1)) 18 0 (nrm (A 0 9 + a1))) 20 0 0) 20 1 ((gup (gup A 0 9 (A 0 9 + a1)) 18 0 (nrm (A 0 9 + a1))) 20 1 + a1)) hk.1 hk.2.1 hk.2.2.1 hk.2.2.2.1 hk.2.2.2.2 hM1 h181 (fun p => by rw [show (gup A 0 9 (A 0 9 + a1)) 8 = A 8 by rw [gup_ne (by omega)]]; have := h8 p; omega) (fun n q => by rw [ho2 n (by omega), gup_ne (by omega)]) (fun _ _ => rfl) (fun _ _ => rfl)
    exact ⟨_, _, _, _, _, hE3, hH, hR4, by rw [ho5, hE]; rfl, fun _ => by rw [ho2 18 (by omega), gup_ap, if_pos ⟨rfl, rfl⟩]; rw [rl_now hRA], hM1, h181, hLI⟩
  · rw [if_neg hE, if_neg hE] at hH
    have hR4 := c_X4_pass hM hV hR ha1
    rw [if_neg hE, if_neg hE] at hR4
    exact ⟨_, _, _, _, _, hE3, hH, hR4, by rw [gup_ap, if_pos ⟨rfl, rfl⟩], fun q => absurd q hE, hM, h18, LI_err h _⟩
set_option maxHeartbeats 1000000 in
theorem st_peg {i : Nat} {L : Nat → Nat} {A : Mem} (h : LI i L A) (hi9 : i < 600) {a1 a2 a3 a4 : Int} (ha1 : -2147483648 ≤ a1 ∧ a1 < 2147483648) (ha2 : -2147483648 ≤ a2 ∧ a2 < 2147483648) (ha3 : -2147483648 ≤ a3 ∧ a3 < 2147483648) (ha4 : -2147483648 ≤ a4 ∧ a4 < 2147483648) : ∃ (E : Nat) (W : Int) (L1 : Nat → Nat) (A1 A3 : Mem), E ≤ 3 ∧ Ct mL_peg [gr 0, gi a1, gi a2, gi a3, gi a4, gr 18] L A (pr (some (gi (E : Int))) L1 A1) ∧ Ct mX4_peg [gr 20, gi a1, gi a2, gi a3, gi a4] L1 A1 (pr (some (gi W)) L1 A3) ∧ A3 20 0 = E ∧ (E = 0 → A3 18 0 = nrm W) ∧ LM L1 ∧ L1 18 = 2 ∧ LI (i + 1) L1 A3 := by
  obtain ⟨hV, hX, hI, hJ, hR, hM, h18, h8⟩ := id h
  have hL0 := vc_L hV 0 rfl
  have hE3 : pegE A a1 a2 a3 a4 ≤ 3 := by unfold pegE; (repeat' split) <;> omega
  have hH := c_L_peg hL0 h18 (by rw [pegL_18 _ _ (by omega) (by omega)]; exact h18) (c_X3_peg hV hX ha1 ha2 ha3 ha4)
  by_cases hE : pegE A a1 a2 a3 a4 = 0
  · rw [if_pos hE, if_pos hE] at hH
    have hRA : Rel A (gup (pegC A (A 2 2).toNat a1 a2 a3 a4) 18 0 (nrm (A 2 2))) := rel_cls hR (LI_out (fun n q1 q2 => by exact pegC_o (by omega) (by omega) (by omega)))
    have hnc := vc_nc hV
    have h12 : A 2 2 ≠ 12 := by unfold pegE at hE; grind
    have hpl := pegL_2 (k := (A 2 2).toNat) hX (by omega) (by omega)
    have hV1 : VC (pegL L (A 2 2).toNat) A := vc_mono hV hpl.1 hpl.2
    have hM1 : LM (pegL L (A 2 2).toNat) := LM_of hM (fun n q1 q2 _ => pegL_18 _ _ q1 q2)
    have h181 : (pegL L (A 2 2).toNat) 18 = 2 := (by rw [pegL_18 _ _ (by omega) (by omega)]; exact h18)
    have hR4 := c_X4_peg hM1 hV1 hRA ha1 ha2 ha3 ha4
    rw [if_pos hE, if_pos hE] at hR4
    have ho2 : ∀ n, n < 20 ∨ 55 < n → (pegR (gup (pegC A (A 2 2).toNat a1 a2 a3 a4) 18 0 (nrm (A 2 2))) a1 a2 a3 a4) n = (gup (pegC A (A 2 2).toNat a1 a2 a3 a4) 18 0 (nrm (A 2 2))) n := fun n q => by exact pegR_o (by omega)
    have ho5 : (pegR (gup (pegC A (A 2 2).toNat a1 a2 a3 a4) 18 0 (nrm (A 2 2))) a1 a2 a3 a4) 20 0 = 0 := by exact pegR_20
    have hk := keep_peg hV hX hI hJ hRA hE
    have hLI : LI (i + 1) (pegL L (A 2 2).toNat) (pegR (gup (pegC A (A 2 2).toNat a1 a2 a3 a4) 18 0 (nrm (A 2 2))) a1 a2 a3 a4) := LI_fin (R := pegR (gup (pegC A (A 2 2).toNat a1 a2 a3 a4) 18 0 (nrm (A 2 2))) a1 a2 a3 a4) hk.1 hk.2.1 hk.2.2.1 hk.2.2.2.1 hk.2.2.2.2 hM1 h181 (fun p => by rw [pegC_o (by decide) (by decide) (by decide)]; have := h8 p; omega) (fun n q => by rw [ho2 n (by omega), gup_ne (by omega)]) (fun _ _ => rfl) (fun _ _ => rfl)
    exact ⟨_, _, _, _, _, hE3, hH, hR4, by rw [ho5, hE]; rfl, fun _ => by rw [ho2 18 (by omega), gup_ap, if_pos ⟨rfl, rfl⟩]; rw [rl_nc hRA], hM1, h181, hLI⟩
  · rw [if_neg hE, if_neg hE] at hH
    have hR4 := c_X4_peg hM hV hR ha1 ha2 ha3 ha4
    rw [if_neg hE, if_neg hE] at hR4
    exact ⟨_, _, _, _, _, hE3, hH, hR4, by rw [gup_ap, if_pos ⟨rfl, rfl⟩], fun q => absurd q hE, hM, h18, LI_err h _⟩
set_option maxHeartbeats 1000000 in
theorem st_witness {i : Nat} {L : Nat → Nat} {A : Mem} (h : LI i L A) (hi9 : i < 600) {a1 a2 a3 : Int} (ha1 : -2147483648 ≤ a1 ∧ a1 < 2147483648) (ha2 : -2147483648 ≤ a2 ∧ a2 < 2147483648) (ha3 : -2147483648 ≤ a3 ∧ a3 < 2147483648) : ∃ (E : Nat) (W : Int) (L1 : Nat → Nat) (A1 A3 : Mem), E ≤ 3 ∧ Ct mL_witness [gr 0, gi a1, gi a2, gi a3, gr 18] L A (pr (some (gi (E : Int))) L1 A1) ∧ Ct mX4_witness [gr 20, gi a1, gi a2, gi a3] L1 A1 (pr (some (gi W)) L1 A3) ∧ A3 20 0 = E ∧ (E = 0 → A3 18 0 = nrm W) ∧ LM L1 ∧ L1 18 = 2 ∧ LI (i + 1) L1 A3 := by
  obtain ⟨hV, hX, hI, hJ, hR, hM, h18, h8⟩ := id h
  have hL0 := vc_L hV 0 rfl
  have hE3 : witE A a1 a2 a3 ≤ 3 := by unfold witE; (repeat' split) <;> omega
  have hH := c_L_witness hL0 h18 h18 (c_X3_witness hV ha1 ha2 ha3)
  by_cases hE : witE A a1 a2 a3 = 0
  · rw [if_pos hE, if_pos hE] at hH
    have hRA : Rel A (gup (witA A a1 a2 a3) 18 0 (nrm (witV A a1 a2 a3))) := rel_cls hR (LI_out (fun n q1 q2 => by unfold witA; rw [gup_ne (by omega), gup_ne (by omega)]))
    have hV1 := hV
    have hM1 := hM
    have h181 := h18
    have hR4 := c_X4_witness hM1 hV1 hRA hI ha1 ha2 ha3
    rw [if_pos hE, if_pos hE] at hR4
    have ho2 : ∀ n, n < 20 ∨ 55 < n → (gup (gup (gup (witA A a1 a2 a3) 18 0 (nrm (witV A a1 a2 a3))) 20 0 0) 39 (8 * a1.toNat + a2.toNat) a3) n = (gup (witA A a1 a2 a3) 18 0 (nrm (witV A a1 a2 a3))) n := fun n q => by rw [gup_ne (by omega), gup_ne (by omega)]
    have ho5 : (gup (gup (gup (witA A a1 a2 a3) 18 0 (nrm (witV A a1 a2 a3))) 20 0 0) 39 (8 * a1.toNat + a2.toNat) a3) 20 0 = 0 := by rw [gup_ne (by decide), gup_ap, if_pos ⟨rfl, rfl⟩]
    have hk3 := keep_wit hV hI hRA hE
    have hnc := vc_nc hV
    have hns := vc_ns hV
    have ha1 : 0 ≤ a1 ∧ a1 < A 2 2 := by unfold witE at hE; grind
    have hX2 : XC L (witA A a1 a2 a3) := xc_cg hX (fun n q => by unfold witA; rw [gup_ne (by omega), gup_ne (by omega)]) (fun n q => by unfold witA; rw [gup_ne (by omega), gup_ne (by omega)])
    have hJ2 : JV (witA A a1 a2 a3) := fun j => by rw [show (witA A a1 a2 a3) 17 = A 17 by unfold witA; rw [gup_ne (by omega), gup_ne (by omega)], show (witA A a1 a2 a3) 2 = A 2 by unfold witA; rw [gup_ne (by omega), gup_ne (by omega)]]; exact hJ j
    have hk : VC L (witA A a1 a2 a3) ∧ XC L (witA A a1 a2 a3) ∧ IV (witA A a1 a2 a3) ∧ JV (witA A a1 a2 a3) ∧ Rel (witA A a1 a2 a3) (gup (gup (gup (witA A a1 a2 a3) 18 0 (nrm (witV A a1 a2 a3))) 20 0 0) 39 (8 * a1.toNat + a2.toNat) a3) := ⟨hk3.1, hX2, hk3.2.1, hJ2, hk3.2.2⟩
    have hLI : LI (i + 1) (L) (gup (gup (gup (witA A a1 a2 a3) 18 0 (nrm (witV A a1 a2 a3))) 20 0 0) 39 (8 * a1.toNat + a2.toNat) a3) := LI_fin (R := gup (gup (gup (witA A a1 a2 a3) 18 0 (nrm (witV A a1 a2 a3))) 20 0 0) 39 (8 * a1.toNat + a2.toNat) a3) hk.1 hk.2.1 hk.2.2.1 hk.2.2.2.1 hk.2.2.2.2 hM1 h181 (fun p => by rw [show (witA A a1 a2 a3) 8 = A 8 by unfold witA; rw [gup_ne (by omega), gup_ne (by omega)]]; have := h8 p; omega) (fun n q => by rw [ho2 n (by omega), gup_ne (by omega)]) (fun _ _ => rfl) (fun _ _ => rfl)
    exact ⟨_, _, _, _, _, hE3, hH, hR4, by rw [ho5, hE]; rfl, fun _ => by rw [ho2 18 (by omega), gup_ap, if_pos ⟨rfl, rfl⟩], hM1, h181, hLI⟩
  · rw [if_neg hE, if_neg hE] at hH
    have hR4 := c_X4_witness hM hV hR hI ha1 ha2 ha3
    rw [if_neg hE, if_neg hE] at hR4
    exact ⟨_, _, _, _, _, hE3, hH, hR4, by rw [gup_ap, if_pos ⟨rfl, rfl⟩], fun q => absurd q hE, hM, h18, LI_err h _⟩
set_option maxHeartbeats 1000000 in
theorem st_partner {i : Nat} {L : Nat → Nat} {A : Mem} (h : LI i L A) (hi9 : i < 600) {a1 a2 a3 : Int} (ha1 : -2147483648 ≤ a1 ∧ a1 < 2147483648) (ha2 : -2147483648 ≤ a2 ∧ a2 < 2147483648) (ha3 : -2147483648 ≤ a3 ∧ a3 < 2147483648) : ∃ (E : Nat) (W : Int) (L1 : Nat → Nat) (A1 A3 : Mem), E ≤ 3 ∧ Ct mL_partner [gr 0, gi a1, gi a2, gi a3, gr 18] L A (pr (some (gi (E : Int))) L1 A1) ∧ Ct mX4_partner [gr 20, gi a1, gi a2, gi a3] L1 A1 (pr (some (gi W)) L1 A3) ∧ A3 20 0 = E ∧ (E = 0 → A3 18 0 = nrm W) ∧ LM L1 ∧ L1 18 = 2 ∧ LI (i + 1) L1 A3 := by
  obtain ⟨hV, hX, hI, hJ, hR, hM, h18, h8⟩ := id h
  have hL0 := vc_L hV 0 rfl
  have hE3 : parE A a1 a2 a3 ≤ 3 := by unfold parE; (repeat' split) <;> omega
  have hH := c_L_partner hL0 h18 h18 (c_X3_partner hV ha1 ha2 ha3)
  by_cases hE : parE A a1 a2 a3 = 0
  · rw [if_pos hE, if_pos hE] at hH
    have hRA : Rel A (gup (parA A a1 a2 a3) 18 0 (nrm (parA A a1 a2 a3 (101 + 3 * a1.toNat) (A (100 + 3 * a1.toNat) 0).toNat))) := rel_cls hR (LI_out (fun n q1 q2 => by unfold parA; rw [gup_ne (by omega), gup_ne (by omega)]))
    have hV1 := hV
    have hM1 := hM
    have h181 := h18
    have hR4 := c_X4_partner hM1 hV1 hRA hI ha1 ha2 ha3
    rw [if_pos hE, if_pos hE] at hR4
    have ho2 : ∀ n, n < 20 ∨ 55 < n → (gup (gup (gup (parA A a1 a2 a3) 18 0 (nrm (parA A a1 a2 a3 (101 + 3 * a1.toNat) (A (100 + 3 * a1.toNat) 0).toNat))) 20 0 0) 38 (8 * a1.toNat + a2.toNat) a3) n = (gup (parA A a1 a2 a3) 18 0 (nrm (parA A a1 a2 a3 (101 + 3 * a1.toNat) (A (100 + 3 * a1.toNat) 0).toNat))) n := fun n q => by rw [gup_ne (by omega), gup_ne (by omega)]
    have ho5 : (gup (gup (gup (parA A a1 a2 a3) 18 0 (nrm (parA A a1 a2 a3 (101 + 3 * a1.toNat) (A (100 + 3 * a1.toNat) 0).toNat))) 20 0 0) 38 (8 * a1.toNat + a2.toNat) a3) 20 0 = 0 := by rw [gup_ne (by decide), gup_ap, if_pos ⟨rfl, rfl⟩]
    have hk3 := keep_par hV hI hRA hE
    have hnc := vc_nc hV
    have hns := vc_ns hV
    have ha1 : 0 ≤ a1 ∧ a1 < A 2 2 := by unfold parE at hE; grind
    have hX2 : XC L (parA A a1 a2 a3) := xc_cg hX (fun n q => by unfold parA; rw [gup_ne (by omega), gup_ne (by omega)]) (fun n q => by unfold parA; rw [gup_ne (by omega), gup_ne (by omega)])
    have hJ2 : JV (parA A a1 a2 a3) := fun j => by rw [show (parA A a1 a2 a3) 17 = A 17 by unfold parA; rw [gup_ne (by omega), gup_ne (by omega)], show (parA A a1 a2 a3) 2 = A 2 by unfold parA; rw [gup_ne (by omega), gup_ne (by omega)]]; exact hJ j
    have hk : VC L (parA A a1 a2 a3) ∧ XC L (parA A a1 a2 a3) ∧ IV (parA A a1 a2 a3) ∧ JV (parA A a1 a2 a3) ∧ Rel (parA A a1 a2 a3) (gup (gup (gup (parA A a1 a2 a3) 18 0 (nrm (parA A a1 a2 a3 (101 + 3 * a1.toNat) (A (100 + 3 * a1.toNat) 0).toNat))) 20 0 0) 38 (8 * a1.toNat + a2.toNat) a3) := ⟨hk3.1, hX2, hk3.2.1, hJ2, hk3.2.2⟩
    have hLI : LI (i + 1) (L) (gup (gup (gup (parA A a1 a2 a3) 18 0 (nrm (parA A a1 a2 a3 (101 + 3 * a1.toNat) (A (100 + 3 * a1.toNat) 0).toNat))) 20 0 0) 38 (8 * a1.toNat + a2.toNat) a3) := LI_fin (R := gup (gup (gup (parA A a1 a2 a3) 18 0 (nrm (parA A a1 a2 a3 (101 + 3 * a1.toNat) (A (100 + 3 * a1.toNat) 0).toNat))) 20 0 0) 38 (8 * a1.toNat + a2.toNat) a3) hk.1 hk.2.1 hk.2.2.1 hk.2.2.2.1 hk.2.2.2.2 hM1 h181 (fun p => by rw [show (parA A a1 a2 a3) 8 = A 8 by unfold parA; rw [gup_ne (by omega), gup_ne (by omega)]]; have := h8 p; omega) (fun n q => by rw [ho2 n (by omega), gup_ne (by omega)]) (fun _ _ => rfl) (fun _ _ => rfl)
    exact ⟨_, _, _, _, _, hE3, hH, hR4, by rw [ho5, hE]; rfl, fun _ => by rw [ho2 18 (by omega), gup_ap, if_pos ⟨rfl, rfl⟩], hM1, h181, hLI⟩
  · rw [if_neg hE, if_neg hE] at hH
    have hR4 := c_X4_partner hM hV hR hI ha1 ha2 ha3
    rw [if_neg hE, if_neg hE] at hR4
    exact ⟨_, _, _, _, _, hE3, hH, hR4, by rw [gup_ap, if_pos ⟨rfl, rfl⟩], fun q => absurd q hE, hM, h18, LI_err h _⟩
set_option maxHeartbeats 1000000 in
theorem st_dig {i : Nat} {L : Nat → Nat} {A : Mem} (h : LI i L A) (hi9 : i < 600) {a1 a2 a3 : Int} (ha1 : -2147483648 ≤ a1 ∧ a1 < 2147483648) (ha2 : -2147483648 ≤ a2 ∧ a2 < 2147483648) (ha3 : -2147483648 ≤ a3 ∧ a3 < 2147483648) : ∃ (E : Nat) (W : Int) (L1 : Nat → Nat) (A1 A3 : Mem), E ≤ 3 ∧ Ct mL_dig [gr 0, gi a1, gi a2, gi a3, gr 18] L A (pr (some (gi (E : Int))) L1 A1) ∧ Ct mX4_dig [gr 20, gi a1, gi a2, gi a3] L1 A1 (pr (some (gi W)) L1 A3) ∧ A3 20 0 = E ∧ (E = 0 → A3 18 0 = nrm W) ∧ LM L1 ∧ L1 18 = 2 ∧ LI (i + 1) L1 A3 := by
  obtain ⟨hV, hX, hI, hJ, hR, hM, h18, h8⟩ := id h
  have hL0 := vc_L hV 0 rfl
  have hE3 : digE A a1 a2 a3 ≤ 3 := by (have hah := ahE_012 A a1 a2 a3); unfold digE; (repeat' split) <;> omega
  have hH := c_L_dig hL0 h18 (by rw [uncL_m.2.2 18 (by omega) (by omega)]; exact h18) (c_X3_dig hV hX hI ha1 ha2 ha3)
  by_cases hE : digE A a1 a2 a3 = 0
  · rw [if_pos hE, if_pos hE] at hH
    have hRA : Rel A (gup (uncA (workC A a1.toNat a3) a3 a1 (-1)) 18 0 (nrm (A 14 a3.toNat))) := rel_cls hR (LI_out (fun n q1 q2 => by rw [uncA_o (by omega) (by omega) (by omega) (by omega) (by omega)]; exact workC_ne (by omega) (by omega)))
    have hV1 : VC (uncL L A a3) A := vc_mono hV uncL_m.1 uncL_m.2.1
    have hM1 : LM (uncL L A a3) := LM_of hM (fun n q1 _ q2 => uncL_m.2.2 n q1 q2)
    have h181 : (uncL L A a3) 18 = 2 := (by rw [uncL_m.2.2 18 (by omega) (by omega)]; exact h18)
    have hR4 := c_X4_dig hM1 hV1 hRA hI ha1 ha2 ha3
    rw [if_pos hE, if_pos hE] at hR4
    have ho2 : ∀ n, n < 20 ∨ 55 < n → (opnR (gup (gup (gup (uncA (workC A a1.toNat a3) a3 a1 (-1)) 18 0 (nrm (A 14 a3.toNat))) 20 0 0) 36 a1.toNat ((gup (uncA (workC A a1.toNat a3) a3 a1 (-1)) 18 0 (nrm (A 14 a3.toNat))) 20 1)) a3 (-1) a1) n = (gup (uncA (workC A a1.toNat a3) a3 a1 (-1)) 18 0 (nrm (A 14 a3.toNat))) n := fun n q => by rw [opnR_o _ _ _ _ (by omega), gup_ne (by omega), gup_ne (by omega)]
    have ho5 : (opnR (gup (gup (gup (uncA (workC A a1.toNat a3) a3 a1 (-1)) 18 0 (nrm (A 14 a3.toNat))) 20 0 0) 36 a1.toNat ((gup (uncA (workC A a1.toNat a3) a3 a1 (-1)) 18 0 (nrm (A 14 a3.toNat))) 20 1)) a3 (-1) a1) 20 0 = 0 := by rw [opnR_20, gup_ne (by decide), gup_ap, if_pos ⟨rfl, rfl⟩]
    have hk := keep_dig hV hX hI hJ hRA hE
    have hLI : LI (i + 1) (uncL L A a3) (opnR (gup (gup (gup (uncA (workC A a1.toNat a3) a3 a1 (-1)) 18 0 (nrm (A 14 a3.toNat))) 20 0 0) 36 a1.toNat ((gup (uncA (workC A a1.toNat a3) a3 a1 (-1)) 18 0 (nrm (A 14 a3.toNat))) 20 1)) a3 (-1) a1) := LI_fin (R := opnR (gup (gup (gup (uncA (workC A a1.toNat a3) a3 a1 (-1)) 18 0 (nrm (A 14 a3.toNat))) 20 0 0) 36 a1.toNat ((gup (uncA (workC A a1.toNat a3) a3 a1 (-1)) 18 0 (nrm (A 14 a3.toNat))) 20 1)) a3 (-1) a1) hk.1 hk.2.1 hk.2.2.1 hk.2.2.2.1 hk.2.2.2.2 hM1 h181 (fun p => by rw [uncA_o (by decide) (by decide) (by decide) (by decide) (by decide), workC_ne (by omega) (by omega)]; have := h8 p; omega) (fun n q => by rw [ho2 n (by omega), gup_ne (by omega)]) (fun _ _ => rfl) (fun _ _ => rfl)
    exact ⟨_, _, _, _, _, hE3, hH, hR4, by rw [ho5, hE]; rfl, fun _ => by rw [ho2 18 (by omega), gup_ap, if_pos ⟨rfl, rfl⟩]; rw [rl_ca hRA], hM1, h181, hLI⟩
  · rw [if_neg hE, if_neg hE] at hH
    have hR4 := c_X4_dig hM hV hR hI ha1 ha2 ha3
    rw [if_neg hE, if_neg hE] at hR4
    exact ⟨_, _, _, _, _, hE3, hH, hR4, by rw [gup_ap, if_pos ⟨rfl, rfl⟩], fun q => absurd q hE, hM, h18, LI_err h _⟩
set_option maxHeartbeats 1000000 in
theorem st_sink {i : Nat} {L : Nat → Nat} {A : Mem} (h : LI i L A) (hi9 : i < 600) {a1 a2 a3 : Int} (ha1 : -2147483648 ≤ a1 ∧ a1 < 2147483648) (ha2 : -2147483648 ≤ a2 ∧ a2 < 2147483648) (ha3 : -2147483648 ≤ a3 ∧ a3 < 2147483648) : ∃ (E : Nat) (W : Int) (L1 : Nat → Nat) (A1 A3 : Mem), E ≤ 3 ∧ Ct mL_sink [gr 0, gi a1, gi a2, gi a3, gr 18] L A (pr (some (gi (E : Int))) L1 A1) ∧ Ct mX4_sink [gr 20, gi a1, gi a2, gi a3] L1 A1 (pr (some (gi W)) L1 A3) ∧ A3 20 0 = E ∧ (E = 0 → A3 18 0 = nrm W) ∧ LM L1 ∧ L1 18 = 2 ∧ LI (i + 1) L1 A3 := by
  obtain ⟨hV, hX, hI, hJ, hR, hM, h18, h8⟩ := id h
  have hL0 := vc_L hV 0 rfl
  have hE3 : sinE A a1 a2 a3 ≤ 3 := by (have hah := ahE_012 A a1 a2 a3); unfold sinE; (repeat' split) <;> omega
  have hH := c_L_sink hL0 h18 (by rw [uncL_m.2.2 18 (by omega) (by omega)]; exact h18) (c_X3_sink hV hX hI ha1 ha2 ha3)
  by_cases hE : sinE A a1 a2 a3 = 0
  · rw [if_pos hE, if_pos hE] at hH
    have hRA : Rel A (gup (uncA (workC (shaC A a1.toNat) a1.toNat a3) a3 a1 (-1)) 18 0 (nrm (A 14 a3.toNat))) := rel_cls hR (LI_out (fun n q1 q2 => by rw [uncA_o (by omega) (by omega) (by omega) (by omega) (by omega), workC_ne (by omega) (by omega)]; exact shaC_ne (by omega)))
    have hV1 : VC (uncL L A a3) A := vc_mono hV uncL_m.1 uncL_m.2.1
    have hM1 : LM (uncL L A a3) := LM_of hM (fun n q1 _ q2 => uncL_m.2.2 n q1 q2)
    have h181 : (uncL L A a3) 18 = 2 := (by rw [uncL_m.2.2 18 (by omega) (by omega)]; exact h18)
    have hR4 := c_X4_sink hM1 hV1 hRA hI ha1 ha2 ha3
    rw [if_pos hE, if_pos hE] at hR4
    have ho2 : ∀ n, n < 20 ∨ 55 < n → (opnR (gup (gup (gup (gup (uncA (workC (shaC A a1.toNat) a1.toNat a3) a3 a1 (-1)) 18 0 (nrm (A 14 a3.toNat))) 20 0 0) 36 a1.toNat ((gup (uncA (workC (shaC A a1.toNat) a1.toNat a3) a3 a1 (-1)) 18 0 (nrm (A 14 a3.toNat))) 20 1)) 37 a1.toNat ((gup (uncA (workC (shaC A a1.toNat) a1.toNat a3) a3 a1 (-1)) 18 0 (nrm (A 14 a3.toNat))) 37 a1.toNat + 1)) a3 (-1) a1) n = (gup (uncA (workC (shaC A a1.toNat) a1.toNat a3) a3 a1 (-1)) 18 0 (nrm (A 14 a3.toNat))) n := fun n q => by rw [opnR_o _ _ _ _ (by omega), gup_ne (by omega), gup_ne (by omega), gup_ne (by omega)]
    have ho5 : (opnR (gup (gup (gup (gup (uncA (workC (shaC A a1.toNat) a1.toNat a3) a3 a1 (-1)) 18 0 (nrm (A 14 a3.toNat))) 20 0 0) 36 a1.toNat ((gup (uncA (workC (shaC A a1.toNat) a1.toNat a3) a3 a1 (-1)) 18 0 (nrm (A 14 a3.toNat))) 20 1)) 37 a1.toNat ((gup (uncA (workC (shaC A a1.toNat) a1.toNat a3) a3 a1 (-1)) 18 0 (nrm (A 14 a3.toNat))) 37 a1.toNat + 1)) a3 (-1) a1) 20 0 = 0 := by rw [opnR_20, gup_ne (by decide), gup_ne (by decide), gup_ap, if_pos ⟨rfl, rfl⟩]
    have hk := keep_sink hV hX hI hJ hRA hE
    have hLI : LI (i + 1) (uncL L A a3) (opnR (gup (gup (gup (gup (uncA (workC (shaC A a1.toNat) a1.toNat a3) a3 a1 (-1)) 18 0 (nrm (A 14 a3.toNat))) 20 0 0) 36 a1.toNat ((gup (uncA (workC (shaC A a1.toNat) a1.toNat a3) a3 a1 (-1)) 18 0 (nrm (A 14 a3.toNat))) 20 1)) 37 a1.toNat ((gup (uncA (workC (shaC A a1.toNat) a1.toNat a3) a3 a1 (-1)) 18 0 (nrm (A 14 a3.toNat))) 37 a1.toNat + 1)) a3 (-1) a1) := LI_fin (R := opnR (gup (gup (gup (gup (uncA (workC (shaC A a1.toNat) a1.toNat a3) a3 a1 (-1)) 18 0 (nrm (A 14 a3.toNat))) 20 0 0) 36 a1.toNat ((gup (uncA (workC (shaC A a1.toNat) a1.toNat a3) a3 a1 (-1)) 18 0 (nrm (A 14 a3.toNat))) 20 1)) 37 a1.toNat ((gup (uncA (workC (shaC A a1.toNat) a1.toNat a3) a3 a1 (-1)) 18 0 (nrm (A 14 a3.toNat))) 37 a1.toNat + 1)) a3 (-1) a1) hk.1 hk.2.1 hk.2.2.1 hk.2.2.2.1 hk.2.2.2.2 hM1 h181 (fun p => by rw [uncA_o (by decide) (by decide) (by decide) (by decide) (by decide), workC_ne (by omega) (by omega), shaC_ne (by omega)]; have := h8 p; omega) (fun n q => by rw [ho2 n (by omega), gup_ne (by omega)]) (fun _ _ => rfl) (fun _ _ => rfl)
    exact ⟨_, _, _, _, _, hE3, hH, hR4, by rw [ho5, hE]; rfl, fun _ => by rw [ho2 18 (by omega), gup_ap, if_pos ⟨rfl, rfl⟩]; rw [rl_ca hRA], hM1, h181, hLI⟩
  · rw [if_neg hE, if_neg hE] at hH
    have hR4 := c_X4_sink hM hV hR hI ha1 ha2 ha3
    rw [if_neg hE, if_neg hE] at hR4
    exact ⟨_, _, _, _, _, hE3, hH, hR4, by rw [gup_ap, if_pos ⟨rfl, rfl⟩], fun q => absurd q hE, hM, h18, LI_err h _⟩
set_option maxHeartbeats 1000000 in
theorem st_prop {i : Nat} {L : Nat → Nat} {A : Mem} (h : LI i L A) (hi9 : i < 600) {a1 a2 a3 : Int} (ha1 : -2147483648 ≤ a1 ∧ a1 < 2147483648) (ha2 : -2147483648 ≤ a2 ∧ a2 < 2147483648) (ha3 : -2147483648 ≤ a3 ∧ a3 < 2147483648) : ∃ (E : Nat) (L1 : Nat → Nat) (A1 A3 : Mem), E ≤ 3 ∧ Ct mL_prop [gr 0, gi a1, gi a2, gi a3] L A (pr (some (gi (E : Int))) L1 A1) ∧ Ct mX4_prop [gr 20, gi a1, gi a2, gi a3] L1 A1 (pr none L1 A3) ∧ A3 20 0 = E ∧ LM L1 ∧ L1 18 = 2 ∧ LI (i + 1) L1 A3 := by
  obtain ⟨hV, hX, hI, hJ, hR, hM, h18, h8⟩ := id h
  have hL0 := vc_L hV 0 rfl
  have hE3 : proE A a1 a2 a3 ≤ 3 := by (have hah := ahE_012 A a1 a2 a3); unfold proE; (repeat' split) <;> omega
  have hH := c_L_prop hL0 (c_X3_prop hV ha1 ha2 ha3)
  by_cases hE : proE A a1 a2 a3 = 0
  · rw [if_pos hE, if_pos hE] at hH
    have hRA : Rel A (gup A 16 a3.toNat 1) := rel_cls hR (fun n q1 q2 => by rw [gup_ne (by omega)])
    have hV1 := hV
    have hM1 := hM
    have h181 := h18
    have hR4 := c_X4_prop hM1 hV1 hRA ha1 ha2 ha3
    rw [if_pos hE] at hR4
    have ho2 : ∀ n, n < 20 ∨ 55 < n → (gup (gup (gup A 16 a3.toNat 1) 20 0 0) 27 a3.toNat 1) n = (gup A 16 a3.toNat 1) n := fun n q => by rw [gup_ne (by omega), gup_ne (by omega)]
    have ho5 : (gup (gup (gup A 16 a3.toNat 1) 20 0 0) 27 a3.toNat 1) 20 0 = 0 := by rw [gup_ne (by decide), gup_ap, if_pos ⟨rfl, rfl⟩]
    have hk3 := keep_prop hV hI hRA hE
    have hnc := vc_nc hV
    have hns := vc_ns hV
    have hX2 : XC L (gup A 16 a3.toNat 1) := xc_cg hX (fun n q => by rw [gup_ne (by omega)]) (fun n q => by rw [gup_ne (by omega)])
    have hJ2 : JV (gup A 16 a3.toNat 1) := fun j => by rw [show (gup A 16 a3.toNat 1) 17 = A 17 by rw [gup_ne (by omega)], show (gup A 16 a3.toNat 1) 2 = A 2 by rw [gup_ne (by omega)]]; exact hJ j
    have hk : VC L (gup A 16 a3.toNat 1) ∧ XC L (gup A 16 a3.toNat 1) ∧ IV (gup A 16 a3.toNat 1) ∧ JV (gup A 16 a3.toNat 1) ∧ Rel (gup A 16 a3.toNat 1) (gup (gup (gup A 16 a3.toNat 1) 20 0 0) 27 a3.toNat 1) := ⟨hk3.1, hX2, hk3.2.1, hJ2, hk3.2.2⟩
    have hLI : LI (i + 1) (L) (gup (gup (gup A 16 a3.toNat 1) 20 0 0) 27 a3.toNat 1) := LI_fin (R := gup (gup (gup A 16 a3.toNat 1) 20 0 0) 27 a3.toNat 1) hk.1 hk.2.1 hk.2.2.1 hk.2.2.2.1 hk.2.2.2.2 hM1 h181 (fun p => by rw [show (gup A 16 a3.toNat 1) 8 = A 8 by rw [gup_ne (by omega)]]; have := h8 p; omega) (fun n q => by rw [ho2 n (by omega)]) (fun _ _ => rfl) (fun _ _ => rfl)
    exact ⟨_, _, _, _, hE3, hH, hR4, by rw [ho5, hE]; rfl, hM1, h181, hLI⟩
  · rw [if_neg hE, if_neg hE] at hH
    have hR4 := c_X4_prop hM hV hR ha1 ha2 ha3
    rw [if_neg hE] at hR4
    exact ⟨_, _, _, _, hE3, hH, hR4, by rw [gup_ap, if_pos ⟨rfl, rfl⟩], hM, h18, LI_err h _⟩
set_option maxHeartbeats 1000000 in
theorem st_trap {i : Nat} {L : Nat → Nat} {A : Mem} (h : LI i L A) (hi9 : i < 600) {a1 a2 a3 : Int} (ha1 : -2147483648 ≤ a1 ∧ a1 < 2147483648) (ha2 : -2147483648 ≤ a2 ∧ a2 < 2147483648) (ha3 : -2147483648 ≤ a3 ∧ a3 < 2147483648) : ∃ (E : Nat) (W : Int) (L1 : Nat → Nat) (A1 A3 : Mem), E ≤ 3 ∧ Ct mL_trap [gr 0, gi a1, gi a2, gi a3, gr 18] L A (pr (some (gi (E : Int))) L1 A1) ∧ Ct mX4_trap [gr 20, gi a1, gi a2, gi a3] L1 A1 (pr (some (gi W)) L1 A3) ∧ A3 20 0 = E ∧ (E = 0 → A3 18 0 = nrm W) ∧ LM L1 ∧ L1 18 = 2 ∧ LI (i + 1) L1 A3 := by
  obtain ⟨hV, hX, hI, hJ, hR, hM, h18, h8⟩ := id h
  have hL0 := vc_L hV 0 rfl
  have hE3 : trpE A a1 a2 a3 ≤ 3 := by (have hah := ahE_012 A a1 a2 a3); unfold trpE; (repeat' split) <;> omega
  have hH := c_L_trap hL0 h18 h18 (c_X3_trap hV ha1 ha2 ha3)
  by_cases hE : trpE A a1 a2 a3 = 0
  · rw [if_pos hE, if_pos hE] at hH
    have hRA : Rel A (gup (gup A 17 a3.toNat a1) 18 0 (nrm (trapC (gup A 17 a3.toNat a1) a1 100))) := rel_cls hR (LI_out (fun n q1 q2 => by rw [gup_ne (by omega)]))
    have hV1 := hV
    have hM1 := hM
    have h181 := h18
    have hR4 := c_X4_trap hM1 hV1 hRA hI ha1 ha2 ha3
    rw [if_pos hE, if_pos hE] at hR4
    have ho2 : ∀ n, n < 20 ∨ 55 < n → (gup (gup (gup (gup A 17 a3.toNat a1) 18 0 (nrm (trapC (gup A 17 a3.toNat a1) a1 100))) 20 0 0) 28 a3.toNat a1) n = (gup (gup A 17 a3.toNat a1) 18 0 (nrm (trapC (gup A 17 a3.toNat a1) a1 100))) n := fun n q => by rw [gup_ne (by omega), gup_ne (by omega)]
    have ho5 : (gup (gup (gup (gup A 17 a3.toNat a1) 18 0 (nrm (trapC (gup A 17 a3.toNat a1) a1 100))) 20 0 0) 28 a3.toNat a1) 20 0 = 0 := by rw [gup_ne (by decide), gup_ap, if_pos ⟨rfl, rfl⟩]
    have hk3 := keep_trap hV hI hRA hE
    have hnc := vc_nc hV
    have hns := vc_ns hV
    have hX2 : XC L (gup A 17 a3.toNat a1) := xc_cg hX (fun n q => by rw [gup_ne (by omega)]) (fun n q => by rw [gup_ne (by omega)])
    have hq9 : a1 < A 2 2 := by unfold trpE ahE at hE; grind
    have hJ2 : JV (gup A 17 a3.toNat a1) := fun j => by rw [gup_ne (show 2 ≠ 17 by decide), gup_ap]; have := hJ j; split <;> omega
    have hk : VC L (gup A 17 a3.toNat a1) ∧ XC L (gup A 17 a3.toNat a1) ∧ IV (gup A 17 a3.toNat a1) ∧ JV (gup A 17 a3.toNat a1) ∧ Rel (gup A 17 a3.toNat a1) (gup (gup (gup (gup A 17 a3.toNat a1) 18 0 (nrm (trapC (gup A 17 a3.toNat a1) a1 100))) 20 0 0) 28 a3.toNat a1) := ⟨hk3.1, hX2, hk3.2.1, hJ2, hk3.2.2⟩
    have hLI : LI (i + 1) (L) (gup (gup (gup (gup A 17 a3.toNat a1) 18 0 (nrm (trapC (gup A 17 a3.toNat a1) a1 100))) 20 0 0) 28 a3.toNat a1) := LI_fin (R := gup (gup (gup (gup A 17 a3.toNat a1) 18 0 (nrm (trapC (gup A 17 a3.toNat a1) a1 100))) 20 0 0) 28 a3.toNat a1) hk.1 hk.2.1 hk.2.2.1 hk.2.2.2.1 hk.2.2.2.2 hM1 h181 (fun p => by rw [show (gup A 17 a3.toNat a1) 8 = A 8 by rw [gup_ne (by omega)]]; have := h8 p; omega) (fun n q => by rw [ho2 n (by omega), gup_ne (by omega)]) (fun _ _ => rfl) (fun _ _ => rfl)
    exact ⟨_, _, _, _, _, hE3, hH, hR4, by rw [ho5, hE]; rfl, fun _ => by rw [ho2 18 (by omega), gup_ap, if_pos ⟨rfl, rfl⟩], hM1, h181, hLI⟩
  · rw [if_neg hE, if_neg hE] at hH
    have hR4 := c_X4_trap hM hV hR hI ha1 ha2 ha3
    rw [if_neg hE, if_neg hE] at hR4
    exact ⟨_, _, _, _, _, hE3, hH, hR4, by rw [gup_ap, if_pos ⟨rfl, rfl⟩], fun q => absurd q hE, hM, h18, LI_err h _⟩
set_option maxHeartbeats 1000000 in
theorem st_rat {i : Nat} {L : Nat → Nat} {A : Mem} (h : LI i L A) (hi9 : i < 600) {a1 a2 : Int} (ha1 : -2147483648 ≤ a1 ∧ a1 < 2147483648) (ha2 : -2147483648 ≤ a2 ∧ a2 < 2147483648) : ∃ (E : Nat) (W : Int) (L1 : Nat → Nat) (A1 A3 : Mem), E ≤ 3 ∧ Ct mL_rat [gr 0, gi a1, gi a2, gr 18] L A (pr (some (gi (E : Int))) L1 A1) ∧ Ct mX4_rat [gr 20, gi a1, gi a2] L1 A1 (pr (some (gi W)) L1 A3) ∧ A3 20 0 = E ∧ (E = 0 → A3 18 0 = nrm W) ∧ LM L1 ∧ L1 18 = 2 ∧ LI (i + 1) L1 A3 := by
  obtain ⟨hV, hX, hI, hJ, hR, hM, h18, h8⟩ := id h
  have hL0 := vc_L hV 0 rfl
  have hE3 : ratE A a1 a2 ≤ 3 := by unfold ratE; (repeat' split) <;> omega
  have hH := c_L_rat hL0 h18 (by split; rw [uncL_m.2.2 18 (by omega) (by omega)]; exact h18; exact h18) (c_X3_rat hV hX hI ha1 ha2)
  by_cases hE : ratE A a1 a2 = 0
  · rw [if_pos hE, if_pos hE] at hH
    have hRA : Rel A (gup (ratC A a1 a2) 18 0 (nrm (if A 17 a2.toNat = -1 then A 14 a2.toNat else -1))) := rel_cls hR (LI_out (fun n q1 q2 => by unfold ratC; split; exact uncA_o (by omega) (by omega) (by omega) (by omega) (by omega); rw [gup_ne (by omega), gup_ne (by omega), gup_ne (by omega)]))
    have hV1 : VC (if A 17 a2.toNat = -1 then uncL L A a2 else L) A := by split; exact vc_mono hV uncL_m.1 uncL_m.2.1; exact hV
    have hM1 : LM (if A 17 a2.toNat = -1 then uncL L A a2 else L) := by split; exact LM_of hM (fun n q1 _ q2 => uncL_m.2.2 n q1 q2); exact hM
    have h181 : (if A 17 a2.toNat = -1 then uncL L A a2 else L) 18 = 2 := (by split; rw [uncL_m.2.2 18 (by omega) (by omega)]; exact h18; exact h18)
    have hR4 := c_X4_rat hM1 hV1 hRA hI ha1 ha2
    rw [if_pos hE, if_pos hE] at hR4
    have ho2 : ∀ n, n < 20 ∨ 55 < n → (ratR (gup (ratC A a1 a2) 18 0 (nrm (if A 17 a2.toNat = -1 then A 14 a2.toNat else -1))) a1 a2) n = (gup (ratC A a1 a2) 18 0 (nrm (if A 17 a2.toNat = -1 then A 14 a2.toNat else -1))) n := fun n q => by exact ratR_o q
    have ho5 : (ratR (gup (ratC A a1 a2) 18 0 (nrm (if A 17 a2.toNat = -1 then A 14 a2.toNat else -1))) a1 a2) 20 0 = 0 := by exact ratR_20
    have hk := keep_rat hV hX hI hJ hRA hE (by have := h8 a1.toNat; omega)
    have hLI : LI (i + 1) (if A 17 a2.toNat = -1 then uncL L A a2 else L) (ratR (gup (ratC A a1 a2) 18 0 (nrm (if A 17 a2.toNat = -1 then A 14 a2.toNat else -1))) a1 a2) := LI_fin (R := ratR (gup (ratC A a1 a2) 18 0 (nrm (if A 17 a2.toNat = -1 then A 14 a2.toNat else -1))) a1 a2) hk.1 hk.2.1 hk.2.2.1 hk.2.2.2.1 hk.2.2.2.2 hM1 h181 (fun p => by have := h8 p; have := h8 a1.toNat; unfold ratC; split; (rw [uncA_o (by decide) (by decide) (by decide) (by decide) (by decide)]; omega); (rw [gup_ap, gup_ne (show 8 ≠ 7 by decide), gup_ne (show 8 ≠ 17 by decide)]; split <;> omega)) (fun n q => by rw [ho2 n (by omega), gup_ne (by omega)]) (fun _ _ => rfl) (fun _ _ => rfl)
    exact ⟨_, _, _, _, _, hE3, hH, hR4, by rw [ho5, hE]; rfl, fun _ => by rw [ho2 18 (by omega), gup_ap, if_pos ⟨rfl, rfl⟩]; rw [rl_tr hRA, rl_ca hRA], hM1, h181, hLI⟩
  · rw [if_neg hE, if_neg hE] at hH
    have hR4 := c_X4_rat hM hV hR hI ha1 ha2
    rw [if_neg hE, if_neg hE] at hR4
    exact ⟨_, _, _, _, _, hE3, hH, hR4, by rw [gup_ap, if_pos ⟨rfl, rfl⟩], fun q => absurd q hE, hM, h18, LI_err h _⟩
set_option maxHeartbeats 1000000 in
theorem st_divide {i : Nat} {L : Nat → Nat} {A : Mem} (h : LI i L A) (hi9 : i < 600) {a1 : Int} (ha1 : -2147483648 ≤ a1 ∧ a1 < 2147483648) : ∃ (E : Nat) (W : Int) (L1 : Nat → Nat) (A1 A3 : Mem), E ≤ 3 ∧ Ct mL_divide [gr 0, gi a1, gr 18] L A (pr (some (gi (E : Int))) L1 A1) ∧ Ct mX4_divide [gr 20, gi a1] L1 A1 (pr (some (gi W)) L1 A3) ∧ A3 20 0 = E ∧ (E = 0 → A3 18 0 = nrm W) ∧ LM L1 ∧ L1 18 = 2 ∧ LI (i + 1) L1 A3 := by
  obtain ⟨hV, hX, hI, hJ, hR, hM, h18, h8⟩ := id h
  have hL0 := vc_L hV 0 rfl
  have hE3 : divE A a1 ≤ 3 := by unfold divE; (repeat' split) <;> omega
  have hH := c_L_divide hL0 h18 h18 (c_X3_divide hV hI hR ha1)
  by_cases hE : divE A a1 = 0
  · rw [if_pos hE, if_pos hE] at hH
    have hRA : Rel A (gup (divA A a1.toNat) 18 0 (nrm (prcN A a1))) := rel_cls hR (LI_out (fun n q1 q2 => by unfold divA; rw [dvM_ne _ _ _ _ (by omega) (by omega), clN_ne _ _ _ (by omega)]))
    have hV1 := hV
    have hM1 := hM
    have h181 := h18
    have hR4 := c_X4_divide hM1 hV1 hRA hI ha1
    rw [if_pos hE, if_pos hE] at hR4
    have ho2 : ∀ n, n < 20 ∨ 55 < n → (divR A (gup (divA A a1.toNat) 18 0 (nrm (prcN A a1))) a1.toNat) n = (gup (divA A a1.toNat) 18 0 (nrm (prcN A a1))) n := fun n q => by unfold divR; rw [dvR_ne _ _ _ _ _ (by omega) (by omega), clN_ne _ _ _ (by omega), gup_ne (by omega)]
    have ho5 : (divR A (gup (divA A a1.toNat) 18 0 (nrm (prcN A a1))) a1.toNat) 20 0 = 0 := by unfold divR; rw [dvR_ne _ _ _ _ _ (by decide) (by decide), clN_ne _ _ _ (by decide), gup_ap, if_pos ⟨rfl, rfl⟩]
    have hdk : ((a1.toNat : Nat) : Int) < A 2 2 := by unfold divE at hE; grind
    have hk3 := keep_div hV hI hRA hdk
    have hnc := vc_nc hV
    have hns := vc_ns hV
    have hX2 : XC L (divA A a1.toNat) := xc_div hV hX hI hR hdk
    have hJ2 : JV (divA A a1.toNat) := fun j => by rw [show (divA A a1.toNat) 17 = A 17 by unfold divA; rw [dvM_ne _ _ _ _ (by omega) (by omega), clN_ne _ _ _ (by omega)], show (divA A a1.toNat) 2 = A 2 by unfold divA; rw [dvM_ne _ _ _ _ (by omega) (by omega), clN_ne _ _ _ (by omega)]]; exact hJ j
    have hk : VC L (divA A a1.toNat) ∧ XC L (divA A a1.toNat) ∧ IV (divA A a1.toNat) ∧ JV (divA A a1.toNat) ∧ Rel (divA A a1.toNat) (divR A (gup (divA A a1.toNat) 18 0 (nrm (prcN A a1))) a1.toNat) := ⟨hk3.1, hX2, hk3.2.1, hJ2, hk3.2.2⟩
    have hLI : LI (i + 1) (L) (divR A (gup (divA A a1.toNat) 18 0 (nrm (prcN A a1))) a1.toNat) := LI_fin (R := divR A (gup (divA A a1.toNat) 18 0 (nrm (prcN A a1))) a1.toNat) hk.1 hk.2.1 hk.2.2.1 hk.2.2.2.1 hk.2.2.2.2 hM1 h181 (fun p => by rw [show (divA A a1.toNat) 8 = A 8 by unfold divA; rw [dvM_ne _ _ _ _ (by omega) (by omega), clN_ne _ _ _ (by omega)]]; have := h8 p; omega) (fun n q => by rw [ho2 n (by omega), gup_ne (by omega)]) (fun _ _ => rfl) (fun _ _ => rfl)
    exact ⟨_, _, _, _, _, hE3, hH, hR4, by rw [ho5, hE]; rfl, fun _ => by rw [ho2 18 (by omega), gup_ap, if_pos ⟨rfl, rfl⟩], hM1, h181, hLI⟩
  · rw [if_neg hE, if_neg hE] at hH
    have hR4 := c_X4_divide hM hV hR hI ha1
    rw [if_neg hE, if_neg hE] at hR4
    exact ⟨_, _, _, _, _, hE3, hH, hR4, by rw [gup_ap, if_pos ⟨rfl, rfl⟩], fun q => absurd q hE, hM, h18, LI_err h _⟩
set_option maxHeartbeats 1000000 in
theorem st_rub {i : Nat} {L : Nat → Nat} {A : Mem} (h : LI i L A) (hi9 : i < 600) {a1 : Int} (ha1 : -2147483648 ≤ a1 ∧ a1 < 2147483648) : ∃ (E : Nat) (W : Int) (L1 : Nat → Nat) (A1 A3 : Mem), E ≤ 3 ∧ Ct mL_rub [gr 0, gi a1, gr 18] L A (pr (some (gi (E : Int))) L1 A1) ∧ Ct mX4_rub [gr 20, gi a1] L1 A1 (pr (some (gi W)) L1 A3) ∧ A3 20 0 = E ∧ (E = 0 → A3 18 0 = nrm W) ∧ LM L1 ∧ L1 18 = 2 ∧ LI (i + 1) L1 A3 := by
  obtain ⟨hV, hX, hI, hJ, hR, hM, h18, h8⟩ := id h
  have hL0 := vc_L hV 0 rfl
  have hE3 : rubE A a1 ≤ 3 := by unfold rubE; (repeat' split) <;> omega
  have hH := c_L_rub hL0 h18 h18 (c_X3_rub hV ha1)
  by_cases hE : rubE A a1 = 0
  · rw [if_pos hE, if_pos hE] at hH
    have hRA : Rel A (gup (rubA A a1.toNat) 18 0 (nrm (rubA A a1.toNat (200 + 3 * a1.toNat) 3))) := rel_cls hR (LI_out (fun n q1 q2 => by unfold rubA; rw [gup_ne (by omega), gup_ne (by omega), gup_ne (by omega)]))
    have hV1 := hV
    have hM1 := hM
    have h181 := h18
    have hR4 := c_X4_rub hM1 hV1 hRA hI ha1
    rw [if_pos hE, if_pos hE] at hR4
    have ho2 : ∀ n, n < 20 ∨ 55 < n → (rubR (gup (rubA A a1.toNat) 18 0 (nrm (rubA A a1.toNat (200 + 3 * a1.toNat) 3))) a1.toNat) n = (gup (rubA A a1.toNat) 18 0 (nrm (rubA A a1.toNat (200 + 3 * a1.toNat) 3))) n := fun n q => by unfold rubR; rw [gup_ne (by omega), gup_ne (by omega), gup_ne (by omega), gup_ne (by omega)]
    have ho5 : (rubR (gup (rubA A a1.toNat) 18 0 (nrm (rubA A a1.toNat (200 + 3 * a1.toNat) 3))) a1.toNat) 20 0 = 0 := by unfold rubR; rw [gup_ne (by decide), gup_ap, if_neg (by omega), gup_ne (by decide), gup_ap, if_pos ⟨rfl, rfl⟩]
    have hk3 := keep_rub hV hI hRA hE
    have hnc := vc_nc hV
    have hns := vc_ns hV
    have ha1 : 0 ≤ a1 ∧ a1 < A 3 2 := by unfold rubE at hE; grind
    have hX2 : XC L (rubA A a1.toNat) := xc_cg hX (fun n q => by unfold rubA; rw [gup_ne (by omega), gup_ne (by omega), gup_ne (by omega)]) (fun n q => by unfold rubA; rw [gup_ne (by omega), gup_ne (by omega), gup_ne (by omega)])
    have hJ2 : JV (rubA A a1.toNat) := fun j => by rw [show (rubA A a1.toNat) 17 = A 17 by unfold rubA; rw [gup_ne (by omega), gup_ne (by omega), gup_ne (by omega)], show (rubA A a1.toNat) 2 = A 2 by unfold rubA; rw [gup_ne (by omega), gup_ne (by omega), gup_ne (by omega)]]; exact hJ j
    have hk : VC L (rubA A a1.toNat) ∧ XC L (rubA A a1.toNat) ∧ IV (rubA A a1.toNat) ∧ JV (rubA A a1.toNat) ∧ Rel (rubA A a1.toNat) (rubR (gup (rubA A a1.toNat) 18 0 (nrm (rubA A a1.toNat (200 + 3 * a1.toNat) 3))) a1.toNat) := ⟨hk3.1, hX2, hk3.2.1, hJ2, hk3.2.2⟩
    have hLI : LI (i + 1) (L) (rubR (gup (rubA A a1.toNat) 18 0 (nrm (rubA A a1.toNat (200 + 3 * a1.toNat) 3))) a1.toNat) := LI_fin (R := rubR (gup (rubA A a1.toNat) 18 0 (nrm (rubA A a1.toNat (200 + 3 * a1.toNat) 3))) a1.toNat) hk.1 hk.2.1 hk.2.2.1 hk.2.2.2.1 hk.2.2.2.2 hM1 h181 (fun p => by rw [show (rubA A a1.toNat) 8 = A 8 by unfold rubA; rw [gup_ne (by omega), gup_ne (by omega), gup_ne (by omega)]]; have := h8 p; omega) (fun n q => by rw [ho2 n (by omega), gup_ne (by omega)]) (fun _ _ => rfl) (fun _ _ => rfl)
    exact ⟨_, _, _, _, _, hE3, hH, hR4, by rw [ho5, hE]; rfl, fun _ => by rw [ho2 18 (by omega), gup_ap, if_pos ⟨rfl, rfl⟩]; rw [(rl_s hRA (s := a1.toNat) (by unfold rubE at hE; grind)).1]; unfold rubA; simp [gup_ap], hM1, h181, hLI⟩
  · rw [if_neg hE, if_neg hE] at hH
    have hR4 := c_X4_rub hM hV hR hI ha1
    rw [if_neg hE, if_neg hE] at hR4
    exact ⟨_, _, _, _, _, hE3, hH, hR4, by rw [gup_ap, if_pos ⟨rfl, rfl⟩], fun q => absurd q hE, hM, h18, LI_err h _⟩
set_option maxHeartbeats 1000000 in
theorem st_bid {i : Nat} {L : Nat → Nat} {A : Mem} (h : LI i L A) (hi9 : i < 600) {a1 a2 a3 : Int} (ha1 : -2147483648 ≤ a1 ∧ a1 < 2147483648) (ha2 : -2147483648 ≤ a2 ∧ a2 < 2147483648) (ha3 : -2147483648 ≤ a3 ∧ a3 < 2147483648) : ∃ (E : Nat) (W : Int) (L1 : Nat → Nat) (A1 A3 : Mem), E ≤ 3 ∧ Ct mL_bid [gr 0, gi a1, gi a2, gi a3, gr 18] L A (pr (some (gi (E : Int))) L1 A1) ∧ Ct mX4_bid [gr 20, gi a1, gi a2, gi a3] L1 A1 (pr (some (gi W)) L1 A3) ∧ A3 20 0 = E ∧ (E = 0 → A3 18 0 = nrm W) ∧ LM L1 ∧ L1 18 = 2 ∧ LI (i + 1) L1 A3 := by
  obtain ⟨hV, hX, hI, hJ, hR, hM, h18, h8⟩ := id h
  have hL0 := vc_L hV 0 rfl
  have hE3 : bidE A a1 a2 a3 ≤ 3 := by unfold bidE; (repeat' split) <;> omega
  have hH := c_L_bid hL0 h18 h18 (c_X3_bid hV ha1 ha2 ha3)
  by_cases hE : bidE A a1 a2 a3 = 0
  · rw [if_pos hE, if_pos hE] at hH
    have hRA : Rel A (gup (bidA A a1 a2.toNat a3) 18 0 (nrm (bidA A a1 a2.toNat a3 (200 + 3 * a2.toNat) 8))) := rel_cls hR (LI_out (fun n q1 q2 => by unfold bidA; rw [gup_ne (by omega), gup_ne (by omega), gup_ne (by omega)]))
    have hV1 := hV
    have hM1 := hM
    have h181 := h18
    have hR4 := c_X4_bid hM1 hV1 hRA hI ha1 ha2 ha3
    rw [if_pos hE, if_pos hE] at hR4
    have ho2 : ∀ n, n < 20 ∨ 55 < n → (bidR (gup (bidA A a1 a2.toNat a3) 18 0 (nrm (bidA A a1 a2.toNat a3 (200 + 3 * a2.toNat) 8))) a1.toNat a2.toNat a3) n = (gup (bidA A a1 a2.toNat a3) 18 0 (nrm (bidA A a1 a2.toNat a3 (200 + 3 * a2.toNat) 8))) n := fun n q => by unfold bidR; rw [gup_ne (by omega), gup_ne (by omega), gup_ne (by omega), gup_ne (by omega)]
    have ho5 : (bidR (gup (bidA A a1 a2.toNat a3) 18 0 (nrm (bidA A a1 a2.toNat a3 (200 + 3 * a2.toNat) 8))) a1.toNat a2.toNat a3) 20 0 = 0 := by unfold bidR; rw [gup_ne (by decide), gup_ne (by decide), gup_ne (by decide), gup_ap, if_pos ⟨rfl, rfl⟩]
    have hk3 := keep_bid hV hI hRA hE
    have hnc := vc_nc hV
    have hns := vc_ns hV
    have ha1 : 0 ≤ a2 ∧ a2 < A 3 2 := by unfold bidE at hE; grind
    have hX2 : XC L (bidA A a1 a2.toNat a3) := xc_cg hX (fun n q => by unfold bidA; rw [gup_ne (by omega), gup_ne (by omega), gup_ne (by omega)]) (fun n q => by unfold bidA; rw [gup_ne (by omega), gup_ne (by omega), gup_ne (by omega)])
    have hJ2 : JV (bidA A a1 a2.toNat a3) := fun j => by rw [show (bidA A a1 a2.toNat a3) 17 = A 17 by unfold bidA; rw [gup_ne (by omega), gup_ne (by omega), gup_ne (by omega)], show (bidA A a1 a2.toNat a3) 2 = A 2 by unfold bidA; rw [gup_ne (by omega), gup_ne (by omega), gup_ne (by omega)]]; exact hJ j
    have hk : VC L (bidA A a1 a2.toNat a3) ∧ XC L (bidA A a1 a2.toNat a3) ∧ IV (bidA A a1 a2.toNat a3) ∧ JV (bidA A a1 a2.toNat a3) ∧ Rel (bidA A a1 a2.toNat a3) (bidR (gup (bidA A a1 a2.toNat a3) 18 0 (nrm (bidA A a1 a2.toNat a3 (200 + 3 * a2.toNat) 8))) a1.toNat a2.toNat a3) := ⟨hk3.1, hX2, hk3.2.1, hJ2, hk3.2.2⟩
    have hLI : LI (i + 1) (L) (bidR (gup (bidA A a1 a2.toNat a3) 18 0 (nrm (bidA A a1 a2.toNat a3 (200 + 3 * a2.toNat) 8))) a1.toNat a2.toNat a3) := LI_fin (R := bidR (gup (bidA A a1 a2.toNat a3) 18 0 (nrm (bidA A a1 a2.toNat a3 (200 + 3 * a2.toNat) 8))) a1.toNat a2.toNat a3) hk.1 hk.2.1 hk.2.2.1 hk.2.2.2.1 hk.2.2.2.2 hM1 h181 (fun p => by rw [show (bidA A a1 a2.toNat a3) 8 = A 8 by unfold bidA; rw [gup_ne (by omega), gup_ne (by omega), gup_ne (by omega)]]; have := h8 p; omega) (fun n q => by rw [ho2 n (by omega), gup_ne (by omega)]) (fun _ _ => rfl) (fun _ _ => rfl)
    exact ⟨_, _, _, _, _, hE3, hH, hR4, by rw [ho5, hE]; rfl, fun _ => by rw [ho2 18 (by omega), gup_ap, if_pos ⟨rfl, rfl⟩]; rw [(rl_s hRA (s := a2.toNat) (by unfold bidE at hE; grind)).2.2.2.2.2.2.2.1]; unfold bidA; simp [gup_ap], hM1, h181, hLI⟩
  · rw [if_neg hE, if_neg hE] at hH
    have hR4 := c_X4_bid hM hV hR hI ha1 ha2 ha3
    rw [if_neg hE, if_neg hE] at hR4
    exact ⟨_, _, _, _, _, hE3, hH, hR4, by rw [gup_ap, if_pos ⟨rfl, rfl⟩], fun q => absurd q hE, hM, h18, LI_err h _⟩
set_option maxHeartbeats 1000000 in
theorem st_sell {i : Nat} {L : Nat → Nat} {A : Mem} (h : LI i L A) (hi9 : i < 600) {a1 : Int} (ha1 : -2147483648 ≤ a1 ∧ a1 < 2147483648) : ∃ (E : Nat) (W : Int) (L1 : Nat → Nat) (A1 A3 : Mem), E ≤ 3 ∧ Ct mL_sell [gr 0, gi a1, gr 18] L A (pr (some (gi (E : Int))) L1 A1) ∧ Ct mX4_sell [gr 20, gi a1] L1 A1 (pr (some (gi W)) L1 A3) ∧ A3 20 0 = E ∧ (E = 0 → A3 18 0 = nrm W) ∧ LM L1 ∧ L1 18 = 2 ∧ LI (i + 1) L1 A3 := by
  obtain ⟨hV, hX, hI, hJ, hR, hM, h18, h8⟩ := id h
  have hL0 := vc_L hV 0 rfl
  have hE3 : selE A a1 ≤ 3 := by unfold selE; (repeat' split) <;> omega
  have hH := c_L_sell hL0 h18 h18 (c_X3_sell hV ha1)
  by_cases hE : selE A a1 = 0
  · rw [if_pos hE, if_pos hE] at hH
    have hRA : Rel A (gup (selA A a1.toNat) 18 0 (nrm (bstA A a1.toNat))) := rel_cls hR (LI_out (fun n q1 q2 => by unfold selA; rw [gup_ne (by omega), gup_ne (by omega), gup_ne (by omega)]))
    have hV1 := hV
    have hM1 := hM
    have h181 := h18
    have hR4 := c_X4_sell hM1 hV1 hRA hI ha1
    rw [if_pos hE, if_pos hE] at hR4
    have ho2 : ∀ n, n < 20 ∨ 55 < n → (selR (gup (selA A a1.toNat) 18 0 (nrm (bstA A a1.toNat))) a1.toNat (bstA A a1.toNat).toNat) n = (gup (selA A a1.toNat) 18 0 (nrm (bstA A a1.toNat))) n := fun n q => by unfold selR; rw [gup_ne (by omega), gup_ne (by omega), gup_ne (by omega), gup_ne (by omega)]
    have ho5 : (selR (gup (selA A a1.toNat) 18 0 (nrm (bstA A a1.toNat))) a1.toNat (bstA A a1.toNat).toNat) 20 0 = 0 := by unfold selR; rw [gup_ne (by decide), gup_ne (by decide), gup_ne (by decide), gup_ap, if_pos ⟨rfl, rfl⟩]
    have hk3 := keep_sel hV hI hRA hE
    have hnc := vc_nc hV
    have hns := vc_ns hV
    have ha1 : 0 ≤ a1 ∧ a1 < A 3 2 := by unfold selE at hE; grind
    have hX2 : XC L (selA A a1.toNat) := xc_cg hX (fun n q => by unfold selA; rw [gup_ne (by omega), gup_ne (by omega), gup_ne (by omega)]) (fun n q => by unfold selA; rw [gup_ne (by omega), gup_ne (by omega), gup_ne (by omega)])
    have hJ2 : JV (selA A a1.toNat) := fun j => by rw [show (selA A a1.toNat) 17 = A 17 by unfold selA; rw [gup_ne (by omega), gup_ne (by omega), gup_ne (by omega)], show (selA A a1.toNat) 2 = A 2 by unfold selA; rw [gup_ne (by omega), gup_ne (by omega), gup_ne (by omega)]]; exact hJ j
    have hk : VC L (selA A a1.toNat) ∧ XC L (selA A a1.toNat) ∧ IV (selA A a1.toNat) ∧ JV (selA A a1.toNat) ∧ Rel (selA A a1.toNat) (selR (gup (selA A a1.toNat) 18 0 (nrm (bstA A a1.toNat))) a1.toNat (bstA A a1.toNat).toNat) := ⟨hk3.1, hX2, hk3.2.1, hJ2, hk3.2.2⟩
    have hLI : LI (i + 1) (L) (selR (gup (selA A a1.toNat) 18 0 (nrm (bstA A a1.toNat))) a1.toNat (bstA A a1.toNat).toNat) := LI_fin (R := selR (gup (selA A a1.toNat) 18 0 (nrm (bstA A a1.toNat))) a1.toNat (bstA A a1.toNat).toNat) hk.1 hk.2.1 hk.2.2.1 hk.2.2.2.1 hk.2.2.2.2 hM1 h181 (fun p => by rw [show (selA A a1.toNat) 8 = A 8 by unfold selA; rw [gup_ne (by omega), gup_ne (by omega), gup_ne (by omega)]]; have := h8 p; omega) (fun n q => by rw [ho2 n (by omega), gup_ne (by omega)]) (fun _ _ => rfl) (fun _ _ => rfl)
    exact ⟨_, _, _, _, _, hE3, hH, hR4, by rw [ho5, hE]; rfl, fun _ => by rw [ho2 18 (by omega), gup_ap, if_pos ⟨rfl, rfl⟩], hM1, h181, hLI⟩
  · rw [if_neg hE, if_neg hE] at hH
    have hR4 := c_X4_sell hM hV hR hI ha1
    rw [if_neg hE, if_neg hE] at hR4
    exact ⟨_, _, _, _, _, hE3, hH, hR4, by rw [gup_ap, if_pos ⟨rfl, rfl⟩], fun q => absurd q hE, hM, h18, LI_err h _⟩
set_option maxHeartbeats 1000000 in
theorem st_bore {i : Nat} {L : Nat → Nat} {A : Mem} (h : LI i L A) (hi9 : i < 600) {a1 : Int} (ha1 : -2147483648 ≤ a1 ∧ a1 < 2147483648) : ∃ (E : Nat) (W : Int) (L1 : Nat → Nat) (A1 A3 : Mem), E ≤ 3 ∧ Ct mL_bore [gr 0, gi a1, gr 18] L A (pr (some (gi (E : Int))) L1 A1) ∧ Ct mX4_bore [gr 20, gi a1] L1 A1 (pr (some (gi W)) L1 A3) ∧ A3 20 0 = E ∧ (E = 0 → A3 18 0 = nrm W) ∧ LM L1 ∧ L1 18 = 2 ∧ LI (i + 1) L1 A3 := by
  obtain ⟨hV, hX, hI, hJ, hR, hM, h18, h8⟩ := id h
  have hL0 := vc_L hV 0 rfl
  have hE3 : borE a1 ≤ 3 := by unfold borE; (repeat' split) <;> omega
  have hH := c_L_bore hL0 h18 h18 (c_X3_bore hV ha1)
  by_cases hE : borE a1 = 0
  · rw [if_pos hE, if_pos hE] at hH
    have hRA : Rel A (gup (A) 18 0 (nrm (boreC A a1))) := rel_cls hR (LI_out (fun n q1 q2 => by rfl))
    have hV1 := hV
    have hM1 := hM
    have h181 := h18
    have hR4 := c_X4_bore hM1 hV1 hRA ha1
    rw [if_pos hE, if_pos hE] at hR4
    have ho2 : ∀ n, n < 20 ∨ 55 < n → (gup (gup (A) 18 0 (nrm (boreC A a1))) 20 0 0) n = (gup (A) 18 0 (nrm (boreC A a1))) n := fun n q => by rw [gup_ne (by omega)]
    have ho5 : (gup (gup (A) 18 0 (nrm (boreC A a1))) 20 0 0) 20 0 = 0 := by rw [gup_ap, if_pos ⟨rfl, rfl⟩]
    have hk : VC L A ∧ XC L A ∧ IV A ∧ JV A ∧ Rel A (gup (gup (A) 18 0 (nrm (boreC A a1))) 20 0 0) := ⟨hV, hX, hI, hJ, rl_th hRA 0⟩
    have hLI : LI (i + 1) (L) (gup (gup (A) 18 0 (nrm (boreC A a1))) 20 0 0) := LI_fin (R := gup (gup (A) 18 0 (nrm (boreC A a1))) 20 0 0) hk.1 hk.2.1 hk.2.2.1 hk.2.2.2.1 hk.2.2.2.2 hM1 h181 (fun p => by have := h8 p; omega) (fun n q => by rw [ho2 n (by omega), gup_ne (by omega)]) (fun _ _ => rfl) (fun _ _ => rfl)
    exact ⟨_, _, _, _, _, hE3, hH, hR4, by rw [ho5, hE]; rfl, fun _ => by rw [ho2 18 (by omega), gup_ap, if_pos ⟨rfl, rfl⟩], hM1, h181, hLI⟩
  · rw [if_neg hE, if_neg hE] at hH
    have hR4 := c_X4_bore hM hV hR ha1
    rw [if_neg hE, if_neg hE] at hR4
    exact ⟨_, _, _, _, _, hE3, hH, hR4, by rw [gup_ap, if_pos ⟨rfl, rfl⟩], fun q => absurd q hE, hM, h18, LI_err h _⟩
set_option maxHeartbeats 1000000 in
theorem st_ofCell {i : Nat} {L : Nat → Nat} {A : Mem} (h : LI i L A) (hi9 : i < 600) {a1 a2 : Int} (ha1 : -2147483648 ≤ a1 ∧ a1 < 2147483648) (ha2 : -2147483648 ≤ a2 ∧ a2 < 2147483648) : ∃ (E : Nat) (W : Int) (L1 : Nat → Nat) (A1 A3 : Mem), E ≤ 3 ∧ Ct mL_ofCell [gr 0, gi a1, gi a2, gr 18] L A (pr (some (gi (E : Int))) L1 A1) ∧ Ct mX4_ofCell [gr 20, gi a1, gi a2] L1 A1 (pr (some (gi W)) L1 A3) ∧ A3 20 0 = E ∧ (E = 0 → A3 18 0 = nrm W) ∧ LM L1 ∧ L1 18 = 2 ∧ LI (i + 1) L1 A3 := by
  obtain ⟨hV, hX, hI, hJ, hR, hM, h18, h8⟩ := id h
  have hL0 := vc_L hV 0 rfl
  have hE3 : celE a1 a2 ≤ 3 := by unfold celE; (repeat' split) <;> omega
  have hH := c_L_ofCell hL0 h18 h18 (c_X3_ofCell hV ha1 ha2)
  by_cases hE : celE a1 a2 = 0
  · rw [if_pos hE, if_pos hE] at hH
    have hRA : Rel A (gup (A) 18 0 (nrm (celV A a1 a2))) := rel_cls hR (LI_out (fun n q1 q2 => by rfl))
    have hV1 := hV
    have hM1 := hM
    have h181 := h18
    have hR4 := c_X4_ofCell hM1 hV1 hRA ha1 ha2
    rw [if_pos hE, if_pos hE] at hR4
    have ho2 : ∀ n, n < 20 ∨ 55 < n → (gup (gup (A) 18 0 (nrm (celV A a1 a2))) 20 0 0) n = (gup (A) 18 0 (nrm (celV A a1 a2))) n := fun n q => by rw [gup_ne (by omega)]
    have ho5 : (gup (gup (A) 18 0 (nrm (celV A a1 a2))) 20 0 0) 20 0 = 0 := by rw [gup_ap, if_pos ⟨rfl, rfl⟩]
    have hk : VC L A ∧ XC L A ∧ IV A ∧ JV A ∧ Rel A (gup (gup (A) 18 0 (nrm (celV A a1 a2))) 20 0 0) := ⟨hV, hX, hI, hJ, rl_th hRA 0⟩
    have hLI : LI (i + 1) (L) (gup (gup (A) 18 0 (nrm (celV A a1 a2))) 20 0 0) := LI_fin (R := gup (gup (A) 18 0 (nrm (celV A a1 a2))) 20 0 0) hk.1 hk.2.1 hk.2.2.1 hk.2.2.2.1 hk.2.2.2.2 hM1 h181 (fun p => by have := h8 p; omega) (fun n q => by rw [ho2 n (by omega), gup_ne (by omega)]) (fun _ _ => rfl) (fun _ _ => rfl)
    exact ⟨_, _, _, _, _, hE3, hH, hR4, by rw [ho5, hE]; rfl, fun _ => by rw [ho2 18 (by omega), gup_ap, if_pos ⟨rfl, rfl⟩], hM1, h181, hLI⟩
  · rw [if_neg hE, if_neg hE] at hH
    have hR4 := c_X4_ofCell hM hV hR ha1 ha2
    rw [if_neg hE, if_neg hE] at hR4
    exact ⟨_, _, _, _, _, hE3, hH, hR4, by rw [gup_ap, if_pos ⟨rfl, rfl⟩], fun q => absurd q hE, hM, h18, LI_err h _⟩
set_option maxHeartbeats 1000000 in
theorem st_ofClaim {i : Nat} {L : Nat → Nat} {A : Mem} (h : LI i L A) (hi9 : i < 600) {a1 a2 : Int} (ha1 : -2147483648 ≤ a1 ∧ a1 < 2147483648) (ha2 : -2147483648 ≤ a2 ∧ a2 < 2147483648) : ∃ (E : Nat) (W : Int) (L1 : Nat → Nat) (A1 A3 : Mem), E ≤ 3 ∧ Ct mL_ofClaim [gr 0, gi a1, gi a2, gr 18] L A (pr (some (gi (E : Int))) L1 A1) ∧ Ct mX4_ofClaim [gr 20, gi a1, gi a2] L1 A1 (pr (some (gi W)) L1 A3) ∧ A3 20 0 = E ∧ (E = 0 → A3 18 0 = nrm W) ∧ LM L1 ∧ L1 18 = 2 ∧ LI (i + 1) L1 A3 := by
  obtain ⟨hV, hX, hI, hJ, hR, hM, h18, h8⟩ := id h
  have hL0 := vc_L hV 0 rfl
  have hE3 : claE A a1 a2 ≤ 3 := by unfold claE; (repeat' split) <;> omega
  have hH := c_L_ofClaim hL0 h18 h18 (c_X3_ofClaim hV ha1 ha2)
  by_cases hE : claE A a1 a2 = 0
  · rw [if_pos hE, if_pos hE] at hH
    have hRA : Rel A (gup (A) 18 0 (nrm (claV A a1 a2))) := rel_cls hR (LI_out (fun n q1 q2 => by rfl))
    have hV1 := hV
    have hM1 := hM
    have h181 := h18
    have hR4 := c_X4_ofClaim hM1 hV1 hRA hI ha1 ha2
    rw [if_pos hE, if_pos hE] at hR4
    have ho2 : ∀ n, n < 20 ∨ 55 < n → (gup (gup (A) 18 0 (nrm (claV A a1 a2))) 20 0 0) n = (gup (A) 18 0 (nrm (claV A a1 a2))) n := fun n q => by rw [gup_ne (by omega)]
    have ho5 : (gup (gup (A) 18 0 (nrm (claV A a1 a2))) 20 0 0) 20 0 = 0 := by rw [gup_ap, if_pos ⟨rfl, rfl⟩]
    have hk : VC L A ∧ XC L A ∧ IV A ∧ JV A ∧ Rel A (gup (gup (A) 18 0 (nrm (claV A a1 a2))) 20 0 0) := ⟨hV, hX, hI, hJ, rl_th hRA 0⟩
    have hLI : LI (i + 1) (L) (gup (gup (A) 18 0 (nrm (claV A a1 a2))) 20 0 0) := LI_fin (R := gup (gup (A) 18 0 (nrm (claV A a1 a2))) 20 0 0) hk.1 hk.2.1 hk.2.2.1 hk.2.2.2.1 hk.2.2.2.2 hM1 h181 (fun p => by have := h8 p; omega) (fun n q => by rw [ho2 n (by omega), gup_ne (by omega)]) (fun _ _ => rfl) (fun _ _ => rfl)
    exact ⟨_, _, _, _, _, hE3, hH, hR4, by rw [ho5, hE]; rfl, fun _ => by rw [ho2 18 (by omega), gup_ap, if_pos ⟨rfl, rfl⟩], hM1, h181, hLI⟩
  · rw [if_neg hE, if_neg hE] at hH
    have hR4 := c_X4_ofClaim hM hV hR hI ha1 ha2
    rw [if_neg hE, if_neg hE] at hR4
    exact ⟨_, _, _, _, _, hE3, hH, hR4, by rw [gup_ap, if_pos ⟨rfl, rfl⟩], fun q => absurd q hE, hM, h18, LI_err h _⟩
set_option maxHeartbeats 1000000 in
theorem st_share {i : Nat} {L : Nat → Nat} {A : Mem} (h : LI i L A) (hi9 : i < 600) {a1 a2 : Int} (ha1 : -2147483648 ≤ a1 ∧ a1 < 2147483648) (ha2 : -2147483648 ≤ a2 ∧ a2 < 2147483648) : ∃ (E : Nat) (W : Int) (L1 : Nat → Nat) (A1 A3 : Mem), E ≤ 3 ∧ Ct mL_share [gr 0, gi a1, gi a2, gr 18] L A (pr (some (gi (E : Int))) L1 A1) ∧ Ct mX4_share [gr 20, gi a1, gi a2] L1 A1 (pr (some (gi W)) L1 A3) ∧ A3 20 0 = E ∧ (E = 0 → A3 18 0 = nrm W) ∧ LM L1 ∧ L1 18 = 2 ∧ LI (i + 1) L1 A3 := by
  obtain ⟨hV, hX, hI, hJ, hR, hM, h18, h8⟩ := id h
  have hL0 := vc_L hV 0 rfl
  have hE3 : shaE A a1 a2 ≤ 3 := by unfold shaE; (repeat' split) <;> omega
  have hH := c_L_share hL0 h18 h18 (c_X3_share hV ha1 ha2)
  by_cases hE : shaE A a1 a2 = 0
  · rw [if_pos hE, if_pos hE] at hH
    have hRA : Rel A (gup (A) 18 0 (nrm (A (101 + 3 * a1.toNat) a2.toNat))) := rel_cls hR (LI_out (fun n q1 q2 => by rfl))
    have hV1 := hV
    have hM1 := hM
    have h181 := h18
    have hR4 := c_X4_share hM1 hV1 hRA ha1 ha2
    rw [if_pos hE, if_pos hE] at hR4
    have ho2 : ∀ n, n < 20 ∨ 55 < n → (gup (gup (A) 18 0 (nrm (A (101 + 3 * a1.toNat) a2.toNat))) 20 0 0) n = (gup (A) 18 0 (nrm (A (101 + 3 * a1.toNat) a2.toNat))) n := fun n q => by rw [gup_ne (by omega)]
    have ho5 : (gup (gup (A) 18 0 (nrm (A (101 + 3 * a1.toNat) a2.toNat))) 20 0 0) 20 0 = 0 := by rw [gup_ap, if_pos ⟨rfl, rfl⟩]
    have hk : VC L A ∧ XC L A ∧ IV A ∧ JV A ∧ Rel A (gup (gup (A) 18 0 (nrm (A (101 + 3 * a1.toNat) a2.toNat))) 20 0 0) := ⟨hV, hX, hI, hJ, rl_th hRA 0⟩
    have hLI : LI (i + 1) (L) (gup (gup (A) 18 0 (nrm (A (101 + 3 * a1.toNat) a2.toNat))) 20 0 0) := LI_fin (R := gup (gup (A) 18 0 (nrm (A (101 + 3 * a1.toNat) a2.toNat))) 20 0 0) hk.1 hk.2.1 hk.2.2.1 hk.2.2.2.1 hk.2.2.2.2 hM1 h181 (fun p => by have := h8 p; omega) (fun n q => by rw [ho2 n (by omega), gup_ne (by omega)]) (fun _ _ => rfl) (fun _ _ => rfl)
    exact ⟨_, _, _, _, _, hE3, hH, hR4, by rw [ho5, hE]; rfl, fun _ => by rw [ho2 18 (by omega), gup_ap, if_pos ⟨rfl, rfl⟩], hM1, h181, hLI⟩
  · rw [if_neg hE, if_neg hE] at hH
    have hR4 := c_X4_share hM hV hR ha1 ha2
    rw [if_neg hE, if_neg hE] at hR4
    exact ⟨_, _, _, _, _, hE3, hH, hR4, by rw [gup_ap, if_pos ⟨rfl, rfl⟩], fun q => absurd q hE, hM, h18, LI_err h _⟩
set_option maxHeartbeats 1000000 in
theorem st_verdict {i : Nat} {L : Nat → Nat} {A : Mem} (h : LI i L A) (hi9 : i < 600) {a1 a2 : Int} (ha1 : -2147483648 ≤ a1 ∧ a1 < 2147483648) (ha2 : -2147483648 ≤ a2 ∧ a2 < 2147483648) : ∃ (E : Nat) (W : Int) (L1 : Nat → Nat) (A1 A3 : Mem), E ≤ 3 ∧ Ct mL_verdict [gr 0, gi a1, gi a2, gr 18] L A (pr (some (gi (E : Int))) L1 A1) ∧ Ct mX4_verdict [gr 20, gi a1, gi a2] L1 A1 (pr (some (gi W)) L1 A3) ∧ A3 20 0 = E ∧ (E = 0 → A3 18 0 = nrm W) ∧ LM L1 ∧ L1 18 = 2 ∧ LI (i + 1) L1 A3 := by
  obtain ⟨hV, hX, hI, hJ, hR, hM, h18, h8⟩ := id h
  have hL0 := vc_L hV 0 rfl
  have hE3 : verE A a1 a2 ≤ 3 := by unfold verE; (repeat' split) <;> omega
  have hH := c_L_verdict hL0 h18 h18 (c_X3_verdict hV ha1 ha2)
  by_cases hE : verE A a1 a2 = 0
  · rw [if_pos hE, if_pos hE] at hH
    have hRA : Rel A (gup (A) 18 0 (nrm (verV A a1 a2))) := rel_cls hR (LI_out (fun n q1 q2 => by rfl))
    have hV1 := hV
    have hM1 := hM
    have h181 := h18
    have hR4 := c_X4_verdict hM1 hV1 hRA hI ha1 ha2
    rw [if_pos hE, if_pos hE] at hR4
    have ho2 : ∀ n, n < 20 ∨ 55 < n → (gup (gup (A) 18 0 (nrm (verV A a1 a2))) 20 0 0) n = (gup (A) 18 0 (nrm (verV A a1 a2))) n := fun n q => by rw [gup_ne (by omega)]
    have ho5 : (gup (gup (A) 18 0 (nrm (verV A a1 a2))) 20 0 0) 20 0 = 0 := by rw [gup_ap, if_pos ⟨rfl, rfl⟩]
    have hk : VC L A ∧ XC L A ∧ IV A ∧ JV A ∧ Rel A (gup (gup (A) 18 0 (nrm (verV A a1 a2))) 20 0 0) := ⟨hV, hX, hI, hJ, rl_th hRA 0⟩
    have hLI : LI (i + 1) (L) (gup (gup (A) 18 0 (nrm (verV A a1 a2))) 20 0 0) := LI_fin (R := gup (gup (A) 18 0 (nrm (verV A a1 a2))) 20 0 0) hk.1 hk.2.1 hk.2.2.1 hk.2.2.2.1 hk.2.2.2.2 hM1 h181 (fun p => by have := h8 p; omega) (fun n q => by rw [ho2 n (by omega), gup_ne (by omega)]) (fun _ _ => rfl) (fun _ _ => rfl)
    exact ⟨_, _, _, _, _, hE3, hH, hR4, by rw [ho5, hE]; rfl, fun _ => by rw [ho2 18 (by omega), gup_ap, if_pos ⟨rfl, rfl⟩], hM1, h181, hLI⟩
  · rw [if_neg hE, if_neg hE] at hH
    have hR4 := c_X4_verdict hM hV hR hI ha1 ha2
    rw [if_neg hE, if_neg hE] at hR4
    exact ⟨_, _, _, _, _, hE3, hH, hR4, by rw [gup_ap, if_pos ⟨rfl, rfl⟩], fun q => absurd q hE, hM, h18, LI_err h _⟩
set_option maxHeartbeats 1000000 in
theorem st_ofPerson {i : Nat} {L : Nat → Nat} {A : Mem} (h : LI i L A) (hi9 : i < 600) {a1 a2 : Int} (ha1 : -2147483648 ≤ a1 ∧ a1 < 2147483648) (ha2 : -2147483648 ≤ a2 ∧ a2 < 2147483648) : ∃ (E : Nat) (W : Int) (L1 : Nat → Nat) (A1 A3 : Mem), E ≤ 3 ∧ Ct mL_ofPerson [gr 0, gi a1, gi a2, gr 18] L A (pr (some (gi (E : Int))) L1 A1) ∧ Ct mX4_ofPerson [gr 20, gi a1, gi a2] L1 A1 (pr (some (gi W)) L1 A3) ∧ A3 20 0 = E ∧ (E = 0 → A3 18 0 = nrm W) ∧ LM L1 ∧ L1 18 = 2 ∧ LI (i + 1) L1 A3 := by
  obtain ⟨hV, hX, hI, hJ, hR, hM, h18, h8⟩ := id h
  have hL0 := vc_L hV 0 rfl
  have hE3 : perE a1 a2 ≤ 3 := by unfold perE; (repeat' split) <;> omega
  have hH := c_L_ofPerson hL0 h18 h18 (c_X3_ofPerson hV ha1 ha2)
  by_cases hE : perE a1 a2 = 0
  · rw [if_pos hE, if_pos hE] at hH
    have hRA : Rel A (gup (A) 18 0 (nrm (perV A a1 a2))) := rel_cls hR (LI_out (fun n q1 q2 => by rfl))
    have hV1 := hV
    have hM1 := hM
    have h181 := h18
    have hR4 := c_X4_ofPerson hM1 hV1 hRA ha1 ha2
    rw [if_pos hE, if_pos hE] at hR4
    have ho2 : ∀ n, n < 20 ∨ 55 < n → (gup (gup (A) 18 0 (nrm (perV A a1 a2))) 20 0 0) n = (gup (A) 18 0 (nrm (perV A a1 a2))) n := fun n q => by rw [gup_ne (by omega)]
    have ho5 : (gup (gup (A) 18 0 (nrm (perV A a1 a2))) 20 0 0) 20 0 = 0 := by rw [gup_ap, if_pos ⟨rfl, rfl⟩]
    have hk : VC L A ∧ XC L A ∧ IV A ∧ JV A ∧ Rel A (gup (gup (A) 18 0 (nrm (perV A a1 a2))) 20 0 0) := ⟨hV, hX, hI, hJ, rl_th hRA 0⟩
    have hLI : LI (i + 1) (L) (gup (gup (A) 18 0 (nrm (perV A a1 a2))) 20 0 0) := LI_fin (R := gup (gup (A) 18 0 (nrm (perV A a1 a2))) 20 0 0) hk.1 hk.2.1 hk.2.2.1 hk.2.2.2.1 hk.2.2.2.2 hM1 h181 (fun p => by have := h8 p; omega) (fun n q => by rw [ho2 n (by omega), gup_ne (by omega)]) (fun _ _ => rfl) (fun _ _ => rfl)
    exact ⟨_, _, _, _, _, hE3, hH, hR4, by rw [ho5, hE]; rfl, fun _ => by rw [ho2 18 (by omega), gup_ap, if_pos ⟨rfl, rfl⟩], hM1, h181, hLI⟩
  · rw [if_neg hE, if_neg hE] at hH
    have hR4 := c_X4_ofPerson hM hV hR ha1 ha2
    rw [if_neg hE, if_neg hE] at hR4
    exact ⟨_, _, _, _, _, hE3, hH, hR4, by rw [gup_ap, if_pos ⟨rfl, rfl⟩], fun q => absurd q hE, hM, h18, LI_err h _⟩
set_option maxHeartbeats 1000000 in
theorem st_ofStone {i : Nat} {L : Nat → Nat} {A : Mem} (h : LI i L A) (hi9 : i < 600) {a1 a2 : Int} (ha1 : -2147483648 ≤ a1 ∧ a1 < 2147483648) (ha2 : -2147483648 ≤ a2 ∧ a2 < 2147483648) : ∃ (E : Nat) (W : Int) (L1 : Nat → Nat) (A1 A3 : Mem), E ≤ 3 ∧ Ct mL_ofStone [gr 0, gi a1, gi a2, gr 18] L A (pr (some (gi (E : Int))) L1 A1) ∧ Ct mX4_ofStone [gr 20, gi a1, gi a2] L1 A1 (pr (some (gi W)) L1 A3) ∧ A3 20 0 = E ∧ (E = 0 → A3 18 0 = nrm W) ∧ LM L1 ∧ L1 18 = 2 ∧ LI (i + 1) L1 A3 := by
  obtain ⟨hV, hX, hI, hJ, hR, hM, h18, h8⟩ := id h
  have hL0 := vc_L hV 0 rfl
  have hE3 : stoE A a1 a2 ≤ 3 := by unfold stoE; (repeat' split) <;> omega
  have hH := c_L_ofStone hL0 h18 h18 (c_X3_ofStone hV ha1 ha2)
  by_cases hE : stoE A a1 a2 = 0
  · rw [if_pos hE, if_pos hE] at hH
    have hRA : Rel A (gup (A) 18 0 (nrm (stoV A a1 a2))) := rel_cls hR (LI_out (fun n q1 q2 => by rfl))
    have hV1 := hV
    have hM1 := hM
    have h181 := h18
    have hR4 := c_X4_ofStone hM1 hV1 hRA ha1 ha2
    rw [if_pos hE, if_pos hE] at hR4
    have ho2 : ∀ n, n < 20 ∨ 55 < n → (gup (gup (A) 18 0 (nrm (stoV A a1 a2))) 20 0 0) n = (gup (A) 18 0 (nrm (stoV A a1 a2))) n := fun n q => by rw [gup_ne (by omega)]
    have ho5 : (gup (gup (A) 18 0 (nrm (stoV A a1 a2))) 20 0 0) 20 0 = 0 := by rw [gup_ap, if_pos ⟨rfl, rfl⟩]
    have hk : VC L A ∧ XC L A ∧ IV A ∧ JV A ∧ Rel A (gup (gup (A) 18 0 (nrm (stoV A a1 a2))) 20 0 0) := ⟨hV, hX, hI, hJ, rl_th hRA 0⟩
    have hLI : LI (i + 1) (L) (gup (gup (A) 18 0 (nrm (stoV A a1 a2))) 20 0 0) := LI_fin (R := gup (gup (A) 18 0 (nrm (stoV A a1 a2))) 20 0 0) hk.1 hk.2.1 hk.2.2.1 hk.2.2.2.1 hk.2.2.2.2 hM1 h181 (fun p => by have := h8 p; omega) (fun n q => by rw [ho2 n (by omega), gup_ne (by omega)]) (fun _ _ => rfl) (fun _ _ => rfl)
    exact ⟨_, _, _, _, _, hE3, hH, hR4, by rw [ho5, hE]; rfl, fun _ => by rw [ho2 18 (by omega), gup_ap, if_pos ⟨rfl, rfl⟩], hM1, h181, hLI⟩
  · rw [if_neg hE, if_neg hE] at hH
    have hR4 := c_X4_ofStone hM hV hR ha1 ha2
    rw [if_neg hE, if_neg hE] at hR4
    exact ⟨_, _, _, _, _, hE3, hH, hR4, by rw [gup_ap, if_pos ⟨rfl, rfl⟩], fun q => absurd q hE, hM, h18, LI_err h _⟩
set_option maxHeartbeats 1000000 in
theorem st_purse {i : Nat} {L : Nat → Nat} {A : Mem} (h : LI i L A) (hi9 : i < 600) {a1 : Int} (ha1 : -2147483648 ≤ a1 ∧ a1 < 2147483648) : ∃ (E : Nat) (W : Int) (L1 : Nat → Nat) (A1 A3 : Mem), E ≤ 3 ∧ Ct mL_purse [gr 0, gi a1, gr 18] L A (pr (some (gi (E : Int))) L1 A1) ∧ Ct mX4_purse [gr 20, gi a1] L1 A1 (pr (some (gi W)) L1 A3) ∧ A3 20 0 = E ∧ (E = 0 → A3 18 0 = nrm W) ∧ LM L1 ∧ L1 18 = 2 ∧ LI (i + 1) L1 A3 := by
  obtain ⟨hV, hX, hI, hJ, hR, hM, h18, h8⟩ := id h
  have hL0 := vc_L hV 0 rfl
  have hE3 : purE a1 ≤ 3 := by unfold purE; (repeat' split) <;> omega
  have hH := c_L_purse hL0 h18 h18 (c_X3_purse hV ha1)
  by_cases hE : purE a1 = 0
  · rw [if_pos hE, if_pos hE] at hH
    have hRA : Rel A (gup (A) 18 0 (nrm (A 9 a1.toNat))) := rel_cls hR (LI_out (fun n q1 q2 => by rfl))
    have hV1 := hV
    have hM1 := hM
    have h181 := h18
    have hR4 := c_X4_purse hM1 hV1 hRA ha1
    rw [if_pos hE, if_pos hE] at hR4
    have ho2 : ∀ n, n < 20 ∨ 55 < n → (gup (gup (A) 18 0 (nrm (A 9 a1.toNat))) 20 0 0) n = (gup (A) 18 0 (nrm (A 9 a1.toNat))) n := fun n q => by rw [gup_ne (by omega)]
    have ho5 : (gup (gup (A) 18 0 (nrm (A 9 a1.toNat))) 20 0 0) 20 0 = 0 := by rw [gup_ap, if_pos ⟨rfl, rfl⟩]
    have hk : VC L A ∧ XC L A ∧ IV A ∧ JV A ∧ Rel A (gup (gup (A) 18 0 (nrm (A 9 a1.toNat))) 20 0 0) := ⟨hV, hX, hI, hJ, rl_th hRA 0⟩
    have hLI : LI (i + 1) (L) (gup (gup (A) 18 0 (nrm (A 9 a1.toNat))) 20 0 0) := LI_fin (R := gup (gup (A) 18 0 (nrm (A 9 a1.toNat))) 20 0 0) hk.1 hk.2.1 hk.2.2.1 hk.2.2.2.1 hk.2.2.2.2 hM1 h181 (fun p => by have := h8 p; omega) (fun n q => by rw [ho2 n (by omega), gup_ne (by omega)]) (fun _ _ => rfl) (fun _ _ => rfl)
    exact ⟨_, _, _, _, _, hE3, hH, hR4, by rw [ho5, hE]; rfl, fun _ => by rw [ho2 18 (by omega), gup_ap, if_pos ⟨rfl, rfl⟩], hM1, h181, hLI⟩
  · rw [if_neg hE, if_neg hE] at hH
    have hR4 := c_X4_purse hM hV hR ha1
    rw [if_neg hE, if_neg hE] at hR4
    exact ⟨_, _, _, _, _, hE3, hH, hR4, by rw [gup_ap, if_pos ⟨rfl, rfl⟩], fun q => absurd q hE, hM, h18, LI_err h _⟩
set_option maxHeartbeats 1000000 in
theorem st_carats {i : Nat} {L : Nat → Nat} {A : Mem} (h : LI i L A) (hi9 : i < 600) {a1 : Int} (ha1 : -2147483648 ≤ a1 ∧ a1 < 2147483648) : ∃ (E : Nat) (W : Int) (L1 : Nat → Nat) (A1 A3 : Mem), E ≤ 3 ∧ Ct mL_carats [gr 0, gi a1, gr 18] L A (pr (some (gi (E : Int))) L1 A1) ∧ Ct mX4_carats [gr 20, gi a1] L1 A1 (pr (some (gi W)) L1 A3) ∧ A3 20 0 = E ∧ (E = 0 → A3 18 0 = nrm W) ∧ LM L1 ∧ L1 18 = 2 ∧ LI (i + 1) L1 A3 := by
  obtain ⟨hV, hX, hI, hJ, hR, hM, h18, h8⟩ := id h
  have hL0 := vc_L hV 0 rfl
  have hE3 : carE a1 ≤ 3 := by unfold carE; (repeat' split) <;> omega
  have hH := c_L_carats hL0 h18 h18 (c_X3_carats hV ha1)
  by_cases hE : carE a1 = 0
  · rw [if_pos hE, if_pos hE] at hH
    have hRA : Rel A (gup (A) 18 0 (nrm (carV A a1))) := rel_cls hR (LI_out (fun n q1 q2 => by rfl))
    have hV1 := hV
    have hM1 := hM
    have h181 := h18
    have hR4 := c_X4_carats hM1 hV1 hRA hI ha1
    rw [if_pos hE, if_pos hE] at hR4
    have ho2 : ∀ n, n < 20 ∨ 55 < n → (gup (gup (A) 18 0 (nrm (carV A a1))) 20 0 0) n = (gup (A) 18 0 (nrm (carV A a1))) n := fun n q => by rw [gup_ne (by omega)]
    have ho5 : (gup (gup (A) 18 0 (nrm (carV A a1))) 20 0 0) 20 0 = 0 := by rw [gup_ap, if_pos ⟨rfl, rfl⟩]
    have hk : VC L A ∧ XC L A ∧ IV A ∧ JV A ∧ Rel A (gup (gup (A) 18 0 (nrm (carV A a1))) 20 0 0) := ⟨hV, hX, hI, hJ, rl_th hRA 0⟩
    have hLI : LI (i + 1) (L) (gup (gup (A) 18 0 (nrm (carV A a1))) 20 0 0) := LI_fin (R := gup (gup (A) 18 0 (nrm (carV A a1))) 20 0 0) hk.1 hk.2.1 hk.2.2.1 hk.2.2.2.1 hk.2.2.2.2 hM1 h181 (fun p => by have := h8 p; omega) (fun n q => by rw [ho2 n (by omega), gup_ne (by omega)]) (fun _ _ => rfl) (fun _ _ => rfl)
    exact ⟨_, _, _, _, _, hE3, hH, hR4, by rw [ho5, hE]; rfl, fun _ => by rw [ho2 18 (by omega), gup_ap, if_pos ⟨rfl, rfl⟩], hM1, h181, hLI⟩
  · rw [if_neg hE, if_neg hE] at hH
    have hR4 := c_X4_carats hM hV hR hI ha1
    rw [if_neg hE, if_neg hE] at hR4
    exact ⟨_, _, _, _, _, hE3, hH, hR4, by rw [gup_ap, if_pos ⟨rfl, rfl⟩], fun q => absurd q hE, hM, h18, LI_err h _⟩
set_option maxHeartbeats 1000000 in
theorem st_plan {i : Nat} {L : Nat → Nat} {A : Mem} (h : LI i L A) (hi9 : i < 600) {a1 a2 : Int} (ha1 : -2147483648 ≤ a1 ∧ a1 < 2147483648) (ha2 : -2147483648 ≤ a2 ∧ a2 < 2147483648) : ∃ (E : Nat) (W : Int) (L1 : Nat → Nat) (A1 A3 : Mem), E ≤ 3 ∧ Ct mL_plan [gr 0, gi a1, gi a2, gr 18] L A (pr (some (gi (E : Int))) L1 A1) ∧ Ct mX4_plan [gr 20, gi a1, gi a2] L1 A1 (pr (some (gi W)) L1 A3) ∧ A3 20 0 = E ∧ (E = 0 → A3 18 0 = nrm W) ∧ LM L1 ∧ L1 18 = 2 ∧ LI (i + 1) L1 A3 := by
  obtain ⟨hV, hX, hI, hJ, hR, hM, h18, h8⟩ := id h
  have hL0 := vc_L hV 0 rfl
  have hE3 : plnE A a1 a2 ≤ 3 := by unfold plnE; (repeat' split) <;> omega
  have hH := c_L_plan hL0 h18 h18 (c_X3_plan hV ha1 ha2)
  by_cases hE : plnE A a1 a2 = 0
  · rw [if_pos hE, if_pos hE] at hH
    have hRA : Rel A (gup (ldM A (ldF A a1.toNat) 100) 18 0 (nrm (mbS (ldM A (ldF A a1.toNat) 100 11) (ldN (ldF A a1.toNat) 100) a2.toNat (ldM A (ldF A a1.toNat) 100) 0))) := rel_cls hR (LI_out (fun n q1 q2 => by exact ldM_ne _ _ _ (by omega)))
    have hV1 := hV
    have hM1 := hM
    have h181 := h18
    have hR4 := c_X4_plan hM1 hV1 hRA ha1 ha2
    rw [if_pos hE, if_pos hE] at hR4
    have ho2 : ∀ n, n < 20 ∨ 55 < n → (gup (gup (ldM A (ldF A a1.toNat) 100) 18 0 (nrm (mbS (ldM A (ldF A a1.toNat) 100 11) (ldN (ldF A a1.toNat) 100) a2.toNat (ldM A (ldF A a1.toNat) 100) 0))) 20 0 0) n = (gup (ldM A (ldF A a1.toNat) 100) 18 0 (nrm (mbS (ldM A (ldF A a1.toNat) 100 11) (ldN (ldF A a1.toNat) 100) a2.toNat (ldM A (ldF A a1.toNat) 100) 0))) n := fun n q => by rw [gup_ne (by omega)]
    have ho5 : (gup (gup (ldM A (ldF A a1.toNat) 100) 18 0 (nrm (mbS (ldM A (ldF A a1.toNat) 100 11) (ldN (ldF A a1.toNat) 100) a2.toNat (ldM A (ldF A a1.toNat) 100) 0))) 20 0 0) 20 0 = 0 := by rw [gup_ap, if_pos ⟨rfl, rfl⟩]
    have hk : VC L A ∧ XC L A ∧ IV A ∧ JV A ∧ Rel A (gup (gup (ldM A (ldF A a1.toNat) 100) 18 0 (nrm (mbS (ldM A (ldF A a1.toNat) 100 11) (ldN (ldF A a1.toNat) 100) a2.toNat (ldM A (ldF A a1.toNat) 100) 0))) 20 0 0) := ⟨hV, hX, hI, hJ, rl_th hRA 0⟩
    have hLI : LI (i + 1) (L) (gup (gup (ldM A (ldF A a1.toNat) 100) 18 0 (nrm (mbS (ldM A (ldF A a1.toNat) 100 11) (ldN (ldF A a1.toNat) 100) a2.toNat (ldM A (ldF A a1.toNat) 100) 0))) 20 0 0) := LI_fin (R := gup (gup (ldM A (ldF A a1.toNat) 100) 18 0 (nrm (mbS (ldM A (ldF A a1.toNat) 100 11) (ldN (ldF A a1.toNat) 100) a2.toNat (ldM A (ldF A a1.toNat) 100) 0))) 20 0 0) hk.1 hk.2.1 hk.2.2.1 hk.2.2.2.1 hk.2.2.2.2 hM1 h181 (fun p => by have := h8 p; omega) (fun n q => by rw [ho2 n (by omega), gup_ne (by omega)]; exact ldM_ne _ _ _ (by omega)) (fun _ _ => rfl) (fun _ _ => rfl)
    exact ⟨_, _, _, _, _, hE3, hH, hR4, by rw [ho5, hE]; rfl, fun _ => by rw [ho2 18 (by omega), gup_ap, if_pos ⟨rfl, rfl⟩]; rw [plan_pl hV hI (k := a1.toNat) (by unfold plnE at hE; grind) a2.toNat, show ((a1.toNat : Nat) : Int) = a1 by unfold plnE at hE; grind], hM1, h181, hLI⟩
  · rw [if_neg hE, if_neg hE] at hH
    have hR4 := c_X4_plan hM hV hR ha1 ha2
    rw [if_neg hE, if_neg hE] at hR4
    exact ⟨_, _, _, _, _, hE3, hH, hR4, by rw [gup_ap, if_pos ⟨rfl, rfl⟩], fun q => absurd q hE, hM, h18, LI_err h _⟩
set_option maxHeartbeats 1000000 in
theorem st_planAnew {i : Nat} {L : Nat → Nat} {A : Mem} (h : LI i L A) (hi9 : i < 600) {a1 a2 : Int} (ha1 : -2147483648 ≤ a1 ∧ a1 < 2147483648) (ha2 : -2147483648 ≤ a2 ∧ a2 < 2147483648) : ∃ (E : Nat) (W : Int) (L1 : Nat → Nat) (A1 A3 : Mem), E ≤ 3 ∧ Ct mL_planAnew [gr 0, gi a1, gi a2, gr 18] L A (pr (some (gi (E : Int))) L1 A1) ∧ Ct mX4_planAnew [gr 20, gi a1, gi a2] L1 A1 (pr (some (gi W)) L1 A3) ∧ A3 20 0 = E ∧ (E = 0 → A3 18 0 = nrm W) ∧ LM L1 ∧ L1 18 = 2 ∧ LI (i + 1) L1 A3 := by
  obtain ⟨hV, hX, hI, hJ, hR, hM, h18, h8⟩ := id h
  have hL0 := vc_L hV 0 rfl
  have hE3 : plnE A a1 a2 ≤ 3 := by unfold plnE; (repeat' split) <;> omega
  have hH := c_L_planAnew hL0 h18 h18 (c_X3_planAnew hV ha1 ha2)
  by_cases hE : plnE A a1 a2 = 0
  · rw [if_pos hE, if_pos hE] at hH
    have hRA : Rel A (gup (ldM A (ldF A a1.toNat) 100) 18 0 (nrm (mbR (ldM A (ldF A a1.toNat) 100 11) (ldN (ldF A a1.toNat) 100) a2.toNat (ldM A (ldF A a1.toNat) 100)))) := rel_cls hR (LI_out (fun n q1 q2 => by exact ldM_ne _ _ _ (by omega)))
    have hV1 := hV
    have hM1 := hM
    have h181 := h18
    have hR4 := c_X4_planAnew hM1 hV1 hRA ha1 ha2
    rw [if_pos hE, if_pos hE] at hR4
    have ho2 : ∀ n, n < 20 ∨ 55 < n → (gup (gup (ldM A (ldF A a1.toNat) 100) 18 0 (nrm (mbR (ldM A (ldF A a1.toNat) 100 11) (ldN (ldF A a1.toNat) 100) a2.toNat (ldM A (ldF A a1.toNat) 100)))) 20 0 0) n = (gup (ldM A (ldF A a1.toNat) 100) 18 0 (nrm (mbR (ldM A (ldF A a1.toNat) 100 11) (ldN (ldF A a1.toNat) 100) a2.toNat (ldM A (ldF A a1.toNat) 100)))) n := fun n q => by rw [gup_ne (by omega)]
    have ho5 : (gup (gup (ldM A (ldF A a1.toNat) 100) 18 0 (nrm (mbR (ldM A (ldF A a1.toNat) 100 11) (ldN (ldF A a1.toNat) 100) a2.toNat (ldM A (ldF A a1.toNat) 100)))) 20 0 0) 20 0 = 0 := by rw [gup_ap, if_pos ⟨rfl, rfl⟩]
    have hk : VC L A ∧ XC L A ∧ IV A ∧ JV A ∧ Rel A (gup (gup (ldM A (ldF A a1.toNat) 100) 18 0 (nrm (mbR (ldM A (ldF A a1.toNat) 100 11) (ldN (ldF A a1.toNat) 100) a2.toNat (ldM A (ldF A a1.toNat) 100)))) 20 0 0) := ⟨hV, hX, hI, hJ, rl_th hRA 0⟩
    have hLI : LI (i + 1) (L) (gup (gup (ldM A (ldF A a1.toNat) 100) 18 0 (nrm (mbR (ldM A (ldF A a1.toNat) 100 11) (ldN (ldF A a1.toNat) 100) a2.toNat (ldM A (ldF A a1.toNat) 100)))) 20 0 0) := LI_fin (R := gup (gup (ldM A (ldF A a1.toNat) 100) 18 0 (nrm (mbR (ldM A (ldF A a1.toNat) 100 11) (ldN (ldF A a1.toNat) 100) a2.toNat (ldM A (ldF A a1.toNat) 100)))) 20 0 0) hk.1 hk.2.1 hk.2.2.1 hk.2.2.2.1 hk.2.2.2.2 hM1 h181 (fun p => by have := h8 p; omega) (fun n q => by rw [ho2 n (by omega), gup_ne (by omega)]; exact ldM_ne _ _ _ (by omega)) (fun _ _ => rfl) (fun _ _ => rfl)
    exact ⟨_, _, _, _, _, hE3, hH, hR4, by rw [ho5, hE]; rfl, fun _ => by rw [ho2 18 (by omega), gup_ap, if_pos ⟨rfl, rfl⟩]; rw [anew_pl hV (k := a1.toNat) (by unfold plnE at hE; grind) a2.toNat, show ((a1.toNat : Nat) : Int) = a1 by unfold plnE at hE; grind], hM1, h181, hLI⟩
  · rw [if_neg hE, if_neg hE] at hH
    have hR4 := c_X4_planAnew hM hV hR ha1 ha2
    rw [if_neg hE, if_neg hE] at hR4
    exact ⟨_, _, _, _, _, hE3, hH, hR4, by rw [gup_ap, if_pos ⟨rfl, rfl⟩], fun q => absurd q hE, hM, h18, LI_err h _⟩
