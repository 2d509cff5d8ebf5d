/-- f is the best of those that P takes in: the highest price, the earliest turn -/
def IsBest (P : Nat → Prop) (pr tu : Nat → Int) (f : Int) : Prop := (f = -1 ∧ ∀ c, ¬ P c) ∨ ∃ b : Nat, f = b ∧ P b ∧ ∀ c, P c → pr c < pr b ∨ (pr c = pr b ∧ (tu b < tu c ∨ c = b))
theorem best_one {P : Nat → Prop} {pr tu : Nat → Int} {f g : Int} (h1 : IsBest P pr tu f) (h2 : IsBest P pr tu g) : f = g := by
  rcases h1 with ⟨e1, a1⟩ | ⟨b, e1, p1, a1⟩ <;> rcases h2 with ⟨e2, a2⟩ | ⟨c, e2, p2, a2⟩
  · omega
  · exact absurd p2 (a1 c)
  · exact absurd p1 (a2 b)
  · have h3 := a1 c p2
    have h4 := a2 b p1
    omega
theorem best_cg {P Q : Nat → Prop} {pr tu : Nat → Int} {f : Int} (h : ∀ c, P c ↔ Q c) (h1 : IsBest P pr tu f) : IsBest Q pr tu f := by
  rcases h1 with ⟨e1, a1⟩ | ⟨b, e1, p1, a1⟩
  · exact Or.inl ⟨e1, fun c q => a1 c ((h c).2 q)⟩
  · exact Or.inr ⟨b, e1, (h b).1 p1, fun c q => a1 c ((h c).2 q)⟩
/-- one more -/
theorem best_add {P : Nat → Prop} {pr tu : Nat → Int} {f : Int} {n : Nat} (h1 : IsBest P pr tu f) (hc : f = -1 ∨ pr f.toNat < pr n ∨ (pr f.toNat = pr n ∧ tu n < tu f.toNat)) : IsBest (fun c => P c ∨ c = n) pr tu n := by
  refine Or.inr ⟨n, rfl, Or.inr rfl, fun c q => ?_⟩
  rcases q with q | q
  · rcases h1 with ⟨e1, a1⟩ | ⟨b, e1, p1, a1⟩
    · exact absurd q (a1 c)
    · have h2 := a1 c q
      subst e1
      rw [show ((b : Int)).toNat = b by omega] at hc
      rcases h2 with h2 | ⟨h2, h3 | h3⟩
      · omega
      · omega
      · subst h3; omega
  · exact Or.inr ⟨by rw [q], Or.inr q⟩
theorem best_keep {P : Nat → Prop} {pr tu : Nat → Int} {f : Int} {n : Nat} (h1 : IsBest P pr tu f) (hf : f ≠ -1) (hc : pr n < pr f.toNat ∨ (pr n = pr f.toNat ∧ tu f.toNat < tu n)) : IsBest (fun c => P c ∨ c = n) pr tu f := by
  rcases h1 with ⟨e1, a1⟩ | ⟨b, e1, p1, a1⟩
  · exact absurd e1 hf
  · refine Or.inr ⟨b, e1, Or.inl p1, fun c q => ?_⟩
    rcases q with q | q
    · exact a1 c q
    · rw [e1, show ((b : Int)).toNat = b by omega] at hc
      rw [q]
      omega
def Elig (pr pu : Nat → Int) (c : Nat) : Prop := c < 5 ∧ 0 < pr c ∧ pr c ≤ pu c
def hiI (pr tu pu : Nat → Int) (n : Int) (f : Int) : Nat → Int
  | 0 => f
  | b + 1 => if (0 < pr b ∧ tu b = n ∧ pr b ≤ pu b) ∧ (hiI pr tu pu n f b = -1 ∨ pr (hiI pr tu pu n f b).toNat < pr b) then b else hiI pr tu pu n f b
def hiO (pr tu pu : Nat → Int) : Nat → Int
  | 0 => -1
  | n + 1 => hiI pr tu pu n (hiO pr tu pu n) 5
theorem hiI_rg {pr tu pu : Nat → Int} {n f : Int} (hf : -1 ≤ f ∧ f < 5) (b : Nat) (hb : b ≤ 5) : -1 ≤ hiI pr tu pu n f b ∧ hiI pr tu pu n f b < 5 := by
  induction b with
  | zero => exact hf
  | succ b ih => have := ih (by omega); simp only [hiI]; split <;> omega
theorem hiO_rg (pr tu pu : Nat → Int) (n : Nat) : -1 ≤ hiO pr tu pu n ∧ hiO pr tu pu n < 5 := by
  induction n with
  | zero => simp [hiO]
  | succ n ih => exact hiI_rg ih 5 (by omega)
section GB
variable {pr tu pu : Nat → Int} (hd : ∀ b c : Nat, b < 5 → c < 5 → 0 < pr b → 0 < pr c → tu b = tu c → b = c)
theorem bst_is {pr tu pu : Nat → Int} (hd : ∀ b c : Nat, b < 5 → c < 5 → 0 < pr b → 0 < pr c → tu b = tu c → b = c) (n : Nat) (hn : n ≤ 5) : IsBest (fun c => c < n ∧ Elig pr pu c) pr tu (bstC pr tu pu n) := by
  induction n with
  | zero => exact Or.inl ⟨rfl, fun c q => by omega⟩
  | succ n ih =>
    have i1 := ih (by omega)
    simp only [bstC]
    by_cases h1 : 0 < pr n ∧ pr n ≤ pu n
    · have e : ∀ c, ((c < n ∧ Elig pr pu c) ∨ c = n) ↔ (c < n + 1 ∧ Elig pr pu c) := fun c => by
        constructor
        · rintro (q | q)
          · exact ⟨by omega, q.2⟩
          · rw [q]; exact ⟨by omega, by omega, h1⟩
        · intro q
          rcases Nat.lt_or_ge c n with h | h
          · exact Or.inl ⟨h, q.2⟩
          · exact Or.inr (by omega)
      by_cases h2 : bstC pr tu pu n = -1 ∨ ahdB pr tu n (bstC pr tu pu n).toNat = true
      · rw [if_pos (by grind)]
        refine best_cg e (best_add i1 ?_)
        unfold ahdB at h2
        rw [decide_eq_true_eq] at h2
        omega
      · rw [if_neg (by grind)]
        refine best_cg e (best_keep i1 (fun q => h2 (Or.inl q)) ?_)
        have h3 : ¬ ahdB pr tu n (bstC pr tu pu n).toNat = true := fun q => h2 (Or.inr q)
        unfold ahdB at h3
        rw [decide_eq_true_eq] at h3
        rcases i1 with ⟨e1, _⟩ | ⟨b, e1, p1, _⟩
        · exact absurd (Or.inl e1) h2
        · rw [e1, show ((b : Int)).toNat = b by omega] at h3 ⊢
          have h4 : tu b ≠ tu n := fun q => by have := hd b n (by omega) (by omega) p1.2.2.1 h1.1 q; omega
          omega
    · rw [if_neg (by grind)]
      refine best_cg (fun c => ?_) i1
      constructor
      · intro q; exact ⟨by omega, q.2⟩
      · intro q
        rcases Nat.lt_or_ge c n with h | h
        · exact ⟨h, q.2⟩
        · rw [show c = n by omega] at q; exact absurd q.2.2 h1
theorem hiI_is {pr tu pu : Nat → Int} (hd : ∀ b c : Nat, b < 5 → c < 5 → 0 < pr b → 0 < pr c → tu b = tu c → b = c) {n f : Int} (hf : IsBest (fun c => Elig pr pu c ∧ tu c < n) pr tu f) (b : Nat) (hb : b ≤ 5) : IsBest (fun c => Elig pr pu c ∧ (tu c < n ∨ (tu c = n ∧ c < b))) pr tu (hiI pr tu pu n f b) := by
  induction b with
  | zero => exact best_cg (fun c => by constructor <;> intro q <;> exact ⟨q.1, by omega⟩) hf
  | succ b ih =>
    have i1 := ih (by omega)
    simp only [hiI]
    by_cases h1 : 0 < pr b ∧ tu b = n ∧ pr b ≤ pu b
    · have e : ∀ c, ((Elig pr pu c ∧ (tu c < n ∨ (tu c = n ∧ c < b))) ∨ c = b) ↔ (Elig pr pu c ∧ (tu c < n ∨ (tu c = n ∧ c < b + 1))) := fun c => by
        constructor
        · rintro (q | q)
          · exact ⟨q.1, by omega⟩
          · rw [q]; exact ⟨⟨by omega, h1.1, h1.2.2⟩, by omega⟩
        · intro q
          by_cases h : c = b
          · exact Or.inr h
          · exact Or.inl ⟨q.1, by omega⟩
      by_cases h2 : hiI pr tu pu n f b = -1 ∨ pr (hiI pr tu pu n f b).toNat < pr b
      · rw [if_pos ⟨h1, h2⟩]
        exact best_cg e (best_add i1 (by omega))
      · rw [if_neg (fun q => h2 q.2)]
        refine best_cg e (best_keep i1 (fun q => h2 (Or.inl q)) ?_)
        rcases i1 with ⟨e1, _⟩ | ⟨d, e1, p1, _⟩
        · exact absurd (Or.inl e1) h2
        · rw [e1, show ((d : Int)).toNat = d by omega] at h2 ⊢
          rcases p1.2 with h4 | ⟨h4, h5⟩
          · omega
          · have := hd d b p1.1.1 (by omega) p1.1.2.1 h1.1 (by omega); omega
    · rw [if_neg (fun q => h1 q.1)]
      refine best_cg (fun c => ?_) i1
      constructor
      · intro q; exact ⟨q.1, by omega⟩
      · intro q
        by_cases h : c = b
        · rw [h] at q ⊢
          refine ⟨q.1, ?_⟩
          by_cases h9 : tu b = n
          · exact absurd ⟨q.1.2.1, h9, q.1.2.2⟩ h1
          · omega
        · exact ⟨q.1, by omega⟩
theorem hiO_is {pr tu pu : Nat → Int} (hd : ∀ b c : Nat, b < 5 → c < 5 → 0 < pr b → 0 < pr c → tu b = tu c → b = c) (ht : ∀ c, 0 ≤ tu c) (n : Nat) : IsBest (fun c => Elig pr pu c ∧ tu c < n) pr tu (hiO pr tu pu n) := by
  induction n with
  | zero => exact Or.inl ⟨rfl, fun c q => by have := ht c; omega⟩
  | succ n ih =>
    refine best_cg (fun c => ?_) (hiI_is hd ih 5 (Nat.le_refl _))
    constructor
    · intro q; exact ⟨q.1, by omega⟩
    · intro q; exact ⟨q.1, by have := q.1.1; omega⟩
end GB
theorem hi_bst {L : Nat → Nat} {B : Mem} (hV : VC L B) (hI : IV B) {s : Nat} (hs : (s : Int) < B 3 2) : hiO (B (201 + 3 * s)) (B (202 + 3 * s)) (B 9) (B (200 + 3 * s) 8).toNat = bstA B s := by
  have his := iv_s hI hs
  have hsv := vc_sv hV hs
  refine best_one (hiO_is his.2.2.1 (fun c => (hsv.2.2.2.2.2.2.2.2.2.2 c).1) _) (best_cg (fun c => ?_) (bst_is his.2.2.1 5 (Nat.le_refl _)))
  constructor
  · intro q; exact ⟨q.2, by have := his.2.1 c q.2.1 q.2.2.1; omega⟩
  · intro q; exact ⟨q.1.1, q.1⟩
theorem bst_el {L : Nat → Nat} {B : Mem} (hI : IV B) {s : Nat} (hs : (s : Int) < B 3 2) (h : bstA B s ≠ -1) : 0 ≤ bstA B s ∧ bstA B s < 5 ∧ 0 < B (201 + 3 * s) (bstA B s).toNat ∧ B (201 + 3 * s) (bstA B s).toNat ≤ B 9 (bstA B s).toNat := by
  rcases bst_is (pu := B 9) (iv_s hI hs).2.2.1 5 (Nat.le_refl _) with ⟨e, _⟩ | ⟨b, e, p, _⟩
  · exact absurd e h
  · unfold bstA
    rw [e, show ((b : Int)).toNat = b by omega]
    exact ⟨by omega, by have := p.1; omega, p.2.2⟩
theorem sumF_ge {f : Nat → Int} {n j : Nat} (h : ∀ i, i < n → 0 ≤ f i) (hj : j < n) : f j ≤ sumF f n := by
  induction n with
  | zero => omega
  | succ n ih =>
    have h0 : ∀ m, m ≤ n → 0 ≤ sumF f m := by
      intro m
      induction m with
      | zero => intro _; exact Int.le_refl _
      | succ m im => intro hm; have := im (by omega); have := h m (by omega); simp only [sumF]; omega
    simp only [sumF]
    by_cases e : j = n
    · rw [e]; have := h0 n (Nat.le_refl _); omega
    · have := ih (fun i hi => h i (by omega)) (by omega); have := h n (by omega); omega

set_option maxHeartbeats 2000000 in
set_option maxRecDepth 20000 in
theorem c_X4_highest {L : Nat → Nat} {A B : Mem} (hM : LM L) (hV : VC L B) (hR : Rel B A) (hI : IV B) {s : Nat} (hs : (s : Int) < B 3 2) : Ct mX4_highest [gr 20, gi (s : Int)] L A (pr (some (gi (bstA B s))) L A) := by
  have hnc := vc_nc hV; have hns := vc_ns hV; have hp0 := (vc_p hV).1
  have rnow := rl_now hR; have rnc := rl_nc hR; have rns := rl_ns hR
  have rs := rl_s hR hs; have hsv := vc_sv hV hs; have his := iv_s hI hs
  have v8 := hsv.2.2.2.2.2.2.2.2.1; have r8 := rs.2.2.2.2.2.2.2.1
  refine Ct_of (ls := [(0, _), (1, _)]) rfl (by decide) (fun _ => rfl) (fun _ => Nat.le_of_ble_eq_true rfl) ?_
  refine g_iconst dX4_highest_0 ?_
  refine g_st (ls2 := [(2, _), (0, _), (1, _)]) dX4_highest_1 rfl (by decide) (c1_cr (c1_ci c1_0)) rfl ?_
  refine g_iconst dX4_highest_2 ?_
  refine g_st (ls2 := [(3, _), (2, _), (0, _), (1, _)]) dX4_highest_3 rfl (by decide) (c1_ci (c1_cr (c1_ci c1_0))) rfl ?_
  refine g_sub [2, 3, 1, 0] (ls2 := [(0, _), (1, _), (2, _), (3, _)]) rfl ?_
  have hQ4 : (fun i : Nat => GW mX4_highest (pr (some (gi (bstA B s))) L A) 0 0 4 [(0, gr (20)), (1, gi ((s : Int))), (2, gi (hiO (B (201 + 3 * s)) (B (202 + 3 * s)) (B 9) i)), (3, gi ((i : Int)))] [] L (A)) 0 := by
    refine lp_up (Q := (fun i : Nat => GW mX4_highest (pr (some (gi (bstA B s))) L A) 0 0 4 [(0, gr (20)), (1, gi ((s : Int))), (2, gi (hiO (B (201 + 3 * s)) (B (202 + 3 * s)) (B 9) i)), (3, gi ((i : Int)))] [] L (A))) (n := (B (200 + 3 * s) 8).toNat) ?_ (fun i hi4 ih4 => ?_)
    · skip
      refine g_iload_n 3 dX4_highest_4 rfl rfl ?_
      refine g_aload_n 0 dX4_highest_5 rfl rfl ?_
      refine g_getfr2 (r := 52) cf_5 31 rfl (by decide) (by decide) rfl (by decide) wf_X4_92 dX4_highest_6 (hM 20 rfl) rfl ?_
      refine g_iload_n 1 dX4_highest_9 rfl rfl ?_
      refine g_iald (s) (by omega) (by omega) rfl (by decide) dX4_highest_10 (n2 (hM 52 rfl)) (fun h10_1 => ?_)
      refine g_icmp_ge (tgt := 119) (by omega) (by omega) dX4_highest_11 (by decide) (fun h11_2 => ?_) (fun h11_2 => absurd h11_2 (by omega))
      refine g_iload_n 2 dX4_highest_119 rfl rfl ?_
      exact g_iret dX4_highest_120 rfl (Nat.le_of_ble_eq_true rfl) (Nat.le_of_ble_eq_true rfl) (pr_i (by rw [hi_bst hV hI hs]) (rfl))
    · skip
      refine g_iload_n 3 dX4_highest_4 rfl rfl ?_
      refine g_aload_n 0 dX4_highest_5 rfl rfl ?_
      refine g_getfr2 (r := 52) cf_5 31 rfl (by decide) (by decide) rfl (by decide) wf_X4_92 dX4_highest_6 (hM 20 rfl) rfl ?_
      refine g_iload_n 1 dX4_highest_9 rfl rfl ?_
      refine g_iald (s) (by omega) (by omega) rfl (by decide) dX4_highest_10 (n2 (hM 52 rfl)) (fun h10_3 => ?_)
      refine g_icmp_ge (tgt := 119) (by omega) (by omega) dX4_highest_11 (by decide) (fun h11_4 => absurd h11_4 (by omega)) (fun h11_4 => ?_)
      refine g_iconst dX4_highest_14 ?_
      refine g_st2 (ls2 := [(4, _), (0, _), (1, _), (2, _), (3, _)]) dX4_highest_15 (by decide) (c1_cr (c1_ci (c1_ci (c1_ci c1_0)))) rfl ?_
      refine g_sub [1, 2, 3, 4, 0] (ls2 := [(0, _), (1, _), (2, _), (3, _), (4, _)]) rfl ?_
      have hQ17 : (fun b : Nat => GW mX4_highest (pr (some (gi (bstA B s))) L A) 0 0 17 [(0, gr (20)), (1, gi ((s : Int))), (2, gi (hiI (B (201 + 3 * s)) (B (202 + 3 * s)) (B 9) i (hiO (B (201 + 3 * s)) (B (202 + 3 * s)) (B 9) i) b)), (3, gi ((i : Int))), (4, gi ((b : Int)))] [] L (A)) 0 := by
        refine lp_up (Q := (fun b : Nat => GW mX4_highest (pr (some (gi (bstA B s))) L A) 0 0 17 [(0, gr (20)), (1, gi ((s : Int))), (2, gi (hiI (B (201 + 3 * s)) (B (202 + 3 * s)) (B 9) i (hiO (B (201 + 3 * s)) (B (202 + 3 * s)) (B 9) i) b)), (3, gi ((i : Int))), (4, gi ((b : Int)))] [] L (A))) (n := 5) ?_ (fun b hi17 ih17 => ?_)
        · skip
          refine g_iload 4 dX4_highest_17 rfl ?_
          refine g_iconst dX4_highest_19 ?_
          refine g_icmp_ge (tgt := 113) (by omega) (by omega) dX4_highest_20 (by decide) (fun h20_5 => ?_) (fun h20_5 => absurd h20_5 (by omega))
          refine g_inc (ls2 := [(3, _), (0, _), (1, _), (2, _), (4, _)]) 3 dX4_highest_113 rfl (by decide) (c1_cr (c1_ci (c1_ci (c1_ci (c1_ci c1_0))))) rfl ?_
          refine g_goto (tgt := 4) dX4_highest_116 (by decide) ?_
          refine g_sub [1, 2, 3, 0] (ls2 := [(0, _), (1, _), (2, _), (3, _)]) rfl ?_
          exact g_ls (by rfl) rfl rfl ih4
        · skip
          refine g_iload 4 dX4_highest_17 rfl ?_
          refine g_iconst dX4_highest_19 ?_
          refine g_icmp_ge (tgt := 113) (by omega) (by omega) dX4_highest_20 (by decide) (fun h20_6 => absurd h20_6 (by omega)) (fun h20_6 => ?_)
          refine g_aload_n 0 dX4_highest_23 rfl rfl ?_
          refine g_getfr2 (r := 53) cf_5 32 rfl (by decide) (by decide) rfl (by decide) wf_X4_95 dX4_highest_24 (hM 20 rfl) rfl ?_
          refine g_iconst dX4_highest_27 ?_
          refine g_iload_n 1 dX4_highest_28 rfl rfl ?_
          refine g_imul dX4_highest_29 ?_
          refine g_iload 4 dX4_highest_30 rfl ?_
          refine g_iadd dX4_highest_32 ?_
          refine g_iald (5 * s + b) (by omega) (by omega) rfl (by decide) dX4_highest_33 (n2 (hM 53 rfl)) (fun h33_7 => ?_)
          have q1 := rs.2.2.2.2.2.2.2.2.1 b hi17; have q2 := rs.2.2.2.2.2.2.2.2.2 b hi17; have q3 := congrFun (rl_pu hR) b
          have q4 := hiI_rg (pr := B (201 + 3 * s)) (tu := B (202 + 3 * s)) (pu := B 9) (n := (i : Int)) (hiO_rg (B (201 + 3 * s)) (B (202 + 3 * s)) (B 9) i) b (by omega)
          refine g_top (y := B (201 + 3 * s) b) q1 ?_
          have q9 := hsv.2.2.2.2.2.2.2.2.2.1 b
          refine g_st2 (ls2 := [(5, _), (0, _), (1, _), (2, _), (3, _), (4, _)]) dX4_highest_34 (by decide) (c1_cr (c1_ci (c1_ci (c1_ci (c1_ci c1_0))))) rfl ?_
          refine g_iload 0 dX4_highest_36 rfl ?_
          refine g_if_le (tgt := 72) (by omega) dX4_highest_38 (by decide) (fun h38_8 => ?_) (fun h38_8 => ?_)
          · skip
            refine g_iconst dX4_highest_72 ?_
            refine g_st2 (ls2 := [(6, _), (5, _), (0, _), (1, _), (2, _), (3, _), (4, _)]) dX4_highest_73 (by decide) (c1_ci (c1_cr (c1_ci (c1_ci (c1_ci (c1_ci c1_0)))))) rfl ?_
            refine g_iload 0 dX4_highest_75 rfl ?_
            refine g_if_eq (tgt := 105) (by omega) dX4_highest_77 (by decide) (fun h77_9 => ?_) (fun h77_9 => absurd h77_9 (by omega))
            refine g_iload_n 4 dX4_highest_105 rfl rfl ?_
            refine g_top (y := hiI (B (201 + 3 * s)) (B (202 + 3 * s)) (B 9) i (hiO (B (201 + 3 * s)) (B (202 + 3 * s)) (B 9) i) (b + 1)) (by simp only [hiI]; grind) ?_
            refine g_st (ls2 := [(2, _), (6, _), (5, _), (0, _), (1, _), (3, _), (4, _)]) dX4_highest_106 rfl (by decide) (c1_ci (c1_ci (c1_cr (c1_ci (c1_ci (c1_ci (c1_ci c1_0))))))) rfl ?_
            refine g_inc (ls2 := [(4, _), (2, _), (6, _), (5, _), (0, _), (1, _), (3, _)]) 6 dX4_highest_107 rfl (by decide) (c1_ci (c1_ci (c1_ci (c1_cr (c1_ci (c1_ci (c1_ci c1_0))))))) rfl ?_
            refine g_goto (tgt := 17) dX4_highest_110 (by decide) ?_
            refine g_sub [4, 5, 1, 6, 0] (ls2 := [(0, _), (1, _), (2, _), (3, _), (4, _)]) rfl ?_
            exact g_ls (by rfl) rfl rfl ih17
          · skip
            refine g_aload_n 1 dX4_highest_41 rfl rfl ?_
            refine g_getfr2 (r := 54) cf_5 33 rfl (by decide) (by decide) rfl (by decide) wf_X4_98 dX4_highest_42 (hM 20 rfl) rfl ?_
            refine g_iconst dX4_highest_45 ?_
            refine g_iload_n 2 dX4_highest_46 rfl rfl ?_
            refine g_imul dX4_highest_47 ?_
            refine g_iload 5 dX4_highest_48 rfl ?_
            refine g_iadd dX4_highest_50 ?_
            refine g_iald (5 * s + b) (by omega) (by omega) rfl (by decide) dX4_highest_51 (n2 (hM 54 rfl)) (fun h51_10 => ?_)
            refine g_iload_n 4 dX4_highest_52 rfl rfl ?_
            refine g_icmp_ne (tgt := 72) (by omega) (by omega) dX4_highest_53 (by decide) (fun h53_11 => ?_) (fun h53_11 => ?_)
            · skip
              refine g_iconst dX4_highest_72 ?_
              refine g_st2 (ls2 := [(6, _), (5, _), (0, _), (1, _), (2, _), (3, _), (4, _)]) dX4_highest_73 (by decide) (c1_ci (c1_cr (c1_ci (c1_ci (c1_ci (c1_ci c1_0)))))) rfl ?_
              refine g_iload 0 dX4_highest_75 rfl ?_
              refine g_if_eq (tgt := 105) (by omega) dX4_highest_77 (by decide) (fun h77_12 => ?_) (fun h77_12 => absurd h77_12 (by omega))
              refine g_iload_n 4 dX4_highest_105 rfl rfl ?_
              refine g_top (y := hiI (B (201 + 3 * s)) (B (202 + 3 * s)) (B 9) i (hiO (B (201 + 3 * s)) (B (202 + 3 * s)) (B 9) i) (b + 1)) (by simp only [hiI]; grind) ?_
              refine g_st (ls2 := [(2, _), (6, _), (5, _), (0, _), (1, _), (3, _), (4, _)]) dX4_highest_106 rfl (by decide) (c1_ci (c1_ci (c1_cr (c1_ci (c1_ci (c1_ci (c1_ci c1_0))))))) rfl ?_
              refine g_inc (ls2 := [(4, _), (2, _), (6, _), (5, _), (0, _), (1, _), (3, _)]) 6 dX4_highest_107 rfl (by decide) (c1_ci (c1_ci (c1_ci (c1_cr (c1_ci (c1_ci (c1_ci c1_0))))))) rfl ?_
              refine g_goto (tgt := 17) dX4_highest_110 (by decide) ?_
              refine g_sub [4, 5, 1, 6, 0] (ls2 := [(0, _), (1, _), (2, _), (3, _), (4, _)]) rfl ?_
              exact g_ls (by rfl) rfl rfl ih17
            · skip
              refine g_iload 0 dX4_highest_56 rfl ?_
              refine g_aload_n 1 dX4_highest_58 rfl rfl ?_
              refine g_getfr2 (r := 55) cf_5 34 rfl (by decide) (by decide) rfl (by decide) wf_X4_101 dX4_highest_59 (hM 20 rfl) rfl ?_
              refine g_iload 5 dX4_highest_62 rfl ?_
              refine g_iald (b) (by omega) (by omega) rfl (by decide) dX4_highest_64 (n2 (hM 55 rfl)) (fun h64_13 => ?_)
              refine g_icmp_gt (tgt := 72) (by omega) (by omega) dX4_highest_65 (by decide) (fun h65_14 => ?_) (fun h65_14 => ?_)
              · skip
                refine g_iconst dX4_highest_72 ?_
                refine g_st2 (ls2 := [(6, _), (5, _), (0, _), (1, _), (2, _), (3, _), (4, _)]) dX4_highest_73 (by decide) (c1_ci (c1_cr (c1_ci (c1_ci (c1_ci (c1_ci c1_0)))))) rfl ?_
                refine g_iload 0 dX4_highest_75 rfl ?_
                refine g_if_eq (tgt := 105) (by omega) dX4_highest_77 (by decide) (fun h77_15 => ?_) (fun h77_15 => absurd h77_15 (by omega))
                refine g_iload_n 4 dX4_highest_105 rfl rfl ?_
                refine g_top (y := hiI (B (201 + 3 * s)) (B (202 + 3 * s)) (B 9) i (hiO (B (201 + 3 * s)) (B (202 + 3 * s)) (B 9) i) (b + 1)) (by simp only [hiI]; grind) ?_
                refine g_st (ls2 := [(2, _), (6, _), (5, _), (0, _), (1, _), (3, _), (4, _)]) dX4_highest_106 rfl (by decide) (c1_ci (c1_ci (c1_cr (c1_ci (c1_ci (c1_ci (c1_ci c1_0))))))) rfl ?_
                refine g_inc (ls2 := [(4, _), (2, _), (6, _), (5, _), (0, _), (1, _), (3, _)]) 6 dX4_highest_107 rfl (by decide) (c1_ci (c1_ci (c1_ci (c1_cr (c1_ci (c1_ci (c1_ci c1_0))))))) rfl ?_
                refine g_goto (tgt := 17) dX4_highest_110 (by decide) ?_
                refine g_sub [4, 5, 1, 6, 0] (ls2 := [(0, _), (1, _), (2, _), (3, _), (4, _)]) rfl ?_
                exact g_ls (by rfl) rfl rfl ih17
              · skip
                refine g_iconst dX4_highest_68 ?_
                refine g_goto (tgt := 73) dX4_highest_69 (by decide) ?_
                refine g_st2 (ls2 := [(6, _), (5, _), (0, _), (1, _), (2, _), (3, _), (4, _)]) dX4_highest_73 (by decide) (c1_ci (c1_cr (c1_ci (c1_ci (c1_ci (c1_ci c1_0)))))) rfl ?_
                refine g_iload 0 dX4_highest_75 rfl ?_
                refine g_if_eq (tgt := 105) (by omega) dX4_highest_77 (by decide) (fun h77_16 => absurd h77_16 (by omega)) (fun h77_16 => ?_)
                refine g_iload_n 4 dX4_highest_80 rfl rfl ?_
                refine g_iconst dX4_highest_81 ?_
                refine g_icmp_eq (tgt := 100) (by omega) (by omega) dX4_highest_82 (by decide) (fun h82_17 => ?_) (fun h82_17 => ?_)
                · skip
                  refine g_iload 6 dX4_highest_100 rfl ?_
                  refine g_goto (tgt := 106) dX4_highest_102 (by decide) ?_
                  refine g_top (y := hiI (B (201 + 3 * s)) (B (202 + 3 * s)) (B 9) i (hiO (B (201 + 3 * s)) (B (202 + 3 * s)) (B 9) i) (b + 1)) (by simp only [hiI]; grind) ?_
                  refine g_st (ls2 := [(2, _), (6, _), (5, _), (0, _), (1, _), (3, _), (4, _)]) dX4_highest_106 rfl (by decide) (c1_ci (c1_ci (c1_cr (c1_ci (c1_ci (c1_ci (c1_ci c1_0))))))) rfl ?_
                  refine g_inc (ls2 := [(4, _), (2, _), (6, _), (5, _), (0, _), (1, _), (3, _)]) 6 dX4_highest_107 rfl (by decide) (c1_ci (c1_ci (c1_ci (c1_cr (c1_ci (c1_ci (c1_ci c1_0))))))) rfl ?_
                  refine g_goto (tgt := 17) dX4_highest_110 (by decide) ?_
                  refine g_sub [4, 5, 1, 6, 0] (ls2 := [(0, _), (1, _), (2, _), (3, _), (4, _)]) rfl ?_
                  exact g_ls (by rfl) rfl rfl ih17
                · skip
                  have q5 := rs.2.2.2.2.2.2.2.2.1 (hiI (B (201 + 3 * s)) (B (202 + 3 * s)) (B 9) i (hiO (B (201 + 3 * s)) (B (202 + 3 * s)) (B 9) i) b).toNat (by omega)
                  refine g_iload 1 dX4_highest_85 rfl ?_
                  refine g_aload_n 2 dX4_highest_87 rfl rfl ?_
                  refine g_getfr2 (r := 53) cf_5 32 rfl (by decide) (by decide) rfl (by decide) wf_X4_95 dX4_highest_88 (hM 20 rfl) rfl ?_
                  refine g_iconst dX4_highest_91 ?_
                  refine g_iload_n 3 dX4_highest_92 rfl rfl ?_
                  refine g_imul dX4_highest_93 ?_
                  refine g_iload_n 4 dX4_highest_94 rfl rfl ?_
                  refine g_iadd dX4_highest_95 ?_
                  refine g_iald (5 * s + (hiI (B (201 + 3 * s)) (B (202 + 3 * s)) (B 9) i (hiO (B (201 + 3 * s)) (B (202 + 3 * s)) (B 9) i) b).toNat) (by omega) (by omega) rfl (by decide) dX4_highest_96 (n2 (hM 53 rfl)) (fun h96_18 => ?_)
                  refine g_icmp_le (tgt := 105) (by omega) (by omega) dX4_highest_97 (by decide) (fun h97_19 => ?_) (fun h97_19 => ?_)
                  · skip
                    refine g_iload_n 4 dX4_highest_105 rfl rfl ?_
                    refine g_top (y := hiI (B (201 + 3 * s)) (B (202 + 3 * s)) (B 9) i (hiO (B (201 + 3 * s)) (B (202 + 3 * s)) (B 9) i) (b + 1)) (by simp only [hiI]; grind) ?_
                    refine g_st (ls2 := [(2, _), (6, _), (5, _), (0, _), (1, _), (3, _), (4, _)]) dX4_highest_106 rfl (by decide) (c1_ci (c1_ci (c1_cr (c1_ci (c1_ci (c1_ci (c1_ci c1_0))))))) rfl ?_
                    refine g_inc (ls2 := [(4, _), (2, _), (6, _), (5, _), (0, _), (1, _), (3, _)]) 6 dX4_highest_107 rfl (by decide) (c1_ci (c1_ci (c1_ci (c1_cr (c1_ci (c1_ci (c1_ci c1_0))))))) rfl ?_
                    refine g_goto (tgt := 17) dX4_highest_110 (by decide) ?_
                    refine g_sub [4, 5, 1, 6, 0] (ls2 := [(0, _), (1, _), (2, _), (3, _), (4, _)]) rfl ?_
                    exact g_ls (by rfl) rfl rfl ih17
                  · skip
                    refine g_iload 6 dX4_highest_100 rfl ?_
                    refine g_goto (tgt := 106) dX4_highest_102 (by decide) ?_
                    refine g_top (y := hiI (B (201 + 3 * s)) (B (202 + 3 * s)) (B 9) i (hiO (B (201 + 3 * s)) (B (202 + 3 * s)) (B 9) i) (b + 1)) (by simp only [hiI]; grind) ?_
                    refine g_st (ls2 := [(2, _), (6, _), (5, _), (0, _), (1, _), (3, _), (4, _)]) dX4_highest_106 rfl (by decide) (c1_ci (c1_ci (c1_cr (c1_ci (c1_ci (c1_ci (c1_ci c1_0))))))) rfl ?_
                    refine g_inc (ls2 := [(4, _), (2, _), (6, _), (5, _), (0, _), (1, _), (3, _)]) 6 dX4_highest_107 rfl (by decide) (c1_ci (c1_ci (c1_ci (c1_cr (c1_ci (c1_ci (c1_ci c1_0))))))) rfl ?_
                    refine g_goto (tgt := 17) dX4_highest_110 (by decide) ?_
                    refine g_sub [4, 5, 1, 6, 0] (ls2 := [(0, _), (1, _), (2, _), (3, _), (4, _)]) rfl ?_
                    exact g_ls (by rfl) rfl rfl ih17
      exact g_ls (by rfl) rfl rfl hQ17
  exact g_ls (by rfl) rfl rfl hQ4

section GKEEP4
variable {L : Nat → Nat} {B A : Mem}
theorem keep_sel {x : Int} (hV : VC L B) (hI : IV B) (hR : Rel B A) (he : selE B x = 0) : VC L (selA B x.toNat) ∧ IV (selA B x.toNat) ∧ Rel (selA B x.toNat) (selR A x.toNat (bstA B x.toNat).toNat) := by
  have h0 : (0 ≤ x ∧ x < B 3 2) ∧ plC B x.toNat = 1 ∧ bstA B x.toNat ≠ -1 := by unfold selE at he; grind
  obtain ⟨s, rfl⟩ : ∃ s : Nat, x = s := ⟨x.toNat, by omega⟩
  have e1 : ((s : Int)).toNat = s := by omega
  rw [e1] at h0 ⊢
  obtain ⟨⟨_, hs⟩, hpl, hb⟩ := h0
  have hp1 := plC_1 hV hs hpl
  have hel := bst_el (L := L) hI hs hb
  obtain ⟨w, hw⟩ : ∃ w : Nat, bstA B s = w := ⟨(bstA B s).toNat, by omega⟩
  obtain ⟨p, hp⟩ : ∃ p : Nat, B (200 + 3 * s) 6 = p := ⟨(B (200 + 3 * s) 6).toNat, by omega⟩
  rw [hw, show ((w : Int)).toNat = w by omega] at hel
  rw [hw, show ((w : Int)).toNat = w by omega]
  have hsv := vc_sv hV hs
  have his := iv_s hI hs
  have rs := rl_s hR hs
  have hpv := vc_p hV
  have hde : selA B s = gup (gup (gup B (200 + 3 * s) 7 w) 9 w (B 9 w - B (201 + 3 * s) w)) 6 p (B 6 p + B (201 + 3 * s) w) := by unfold selA; rw [hw, hp, show ((w : Int)).toNat = w by omega, show ((p : Int)).toNat = p by omega]
  have f : ∀ n, n ≠ 6 → n ≠ 9 → n ≠ 200 + 3 * s → selA B s n = B n := fun n q0 q1 q2 => by rw [hde, gup_ne q0, gup_ne q1, gup_ne q2]
  have g : ∀ j, selA B s (200 + 3 * s) j = if j = 7 then (w : Int) else B (200 + 3 * s) j := fun j => by rw [hde, gup_ne (by omega), gup_ne (by omega), gup_ap]; simp
  have g6 : selA B s 6 = gup B 6 p (B 6 p + B (201 + 3 * s) w) 6 := by rw [hde]; exact gup_cg (by rw [gup_ne (by omega), gup_ne (by omega)])
  have g9 : selA B s 9 = gup B 9 w (B 9 w - B (201 + 3 * s) w) 9 := by rw [hde, gup_ne (by omega)]; exact gup_cg (by rw [gup_ne (by omega)])
  have hf : ∀ n, n ≠ 6 → n ≠ 9 → n ≠ 200 + 3 * s → n ≠ 201 + 3 * s → n ≠ 202 + 3 * s → selA B s n = B n := fun n q0 q1 q2 _ _ => f n q0 q1 q2
  have hm : sumF (selA B s 6) 8 + sumF (selA B s 9) 5 = 100000 := by
    rw [g6, g9, sumF_gup, sumF_gup, if_pos (by omega), if_pos (by omega)]; have := iv_m hI; omega
  have hm6 : B 6 p + B (201 + 3 * s) w ≤ 100000 := by
    have h1 := sumF_ge (f := selA B s 6) (n := 8) (j := p) (fun i _ => by rw [g6, gup_ap]; have := hpv.2.1 i; have := hpv.2.1 p; split <;> omega) (by omega)
    have h2 : 0 ≤ sumF (selA B s 9) 5 := (sumF_rg (M := 20000) (fun i => by rw [g9, gup_ap]; have := hpv.2.2.2.2 i; have := hpv.2.2.2.2 w; split <;> omega) 5).1
    have h3 : selA B s 6 p = B 6 p + B (201 + 3 * s) w := by rw [g6, gup_at]
    omega
  refine ⟨vc_stone hV hf ?_ ?_, iv_stone hV hI hf hm ?_, ?_⟩
  · obtain ⟨p1, p2, p3, p4, p5⟩ := hpv
    unfold PVd
    rw [f 0 (by omega) (by omega) (by omega), f 7 (by omega) (by omega) (by omega), f 8 (by omega) (by omega) (by omega), g6, g9]
    refine ⟨p1, fun i => ?_, p3, p4, fun i => ?_⟩
    · rw [gup_ap]; have := p2 i; have := p2 p; split <;> omega
    · rw [gup_ap]; have := p5 i; have := p5 w; split <;> omega
  · obtain ⟨a1, a2, a3, a4, a5, a6, a7, a8, a9, a10, a11⟩ := hsv
    unfold SV
    rw [f (201 + 3 * s) (by omega) (by omega) (by omega), f (202 + 3 * s) (by omega) (by omega) (by omega)]
    simp only [g]
    simp
    exact ⟨a1, a2, a3, a4, a5, a6, a7, by omega, a9, a10, a11⟩
  · obtain ⟨a1, a2, a3, a4, a5⟩ := his
    unfold IVs
    rw [f (201 + 3 * s) (by omega) (by omega) (by omega), f (202 + 3 * s) (by omega) (by omega) (by omega)]
    simp only [g]
    simp
    exact ⟨fun q => by omega, a2, a3, a4, a5⟩
  · have rd := rs.2.2.2.1
    have ry := rs.2.2.2.2.2.2.2.2.1 w (by omega)
    have m1 := rl_mo hR; have m2 := rl_pu hR
    have hre : selR A s w = gup (gup (gup (gup A 20 0 0) 55 w (B 9 w - B (201 + 3 * s) w)) 41 p (B 6 p + B (201 + 3 * s) w)) 51 s w := by unfold selR; rw [rd, hp, show ((p : Int)).toNat = p by omega, ry, m1, m2]
    have fA : ∀ n, n ≠ 20 → n ≠ 55 → n ≠ 41 → n ≠ 51 → selR A s w n = A n := fun n q1 q2 q3 q4 => by rw [hre, gup_ne q4, gup_ne q3, gup_ne q2, gup_ne q1]
    have f20 : ∀ j, j ≠ 0 → selR A s w 20 j = A 20 j := fun j q => by rw [hre, gup_ne (by omega), gup_ne (by omega), gup_ne (by omega), gup_ap, if_neg (by omega)]
    have f51 : ∀ i, selR A s w 51 i = if i = s then (w : Int) else A 51 i := fun i => by rw [hre, gup_ap, gup_ne (by omega), gup_ne (by omega), gup_ne (by omega)]; simp
    refine rel_stone hV hR hf (fun n _ _ _ _ => fA n (by omega) (by omega) (by omega) (by omega)) (fun j q1 q2 => f20 j q1) ?_ ?_ ?_ (fun n i q1 q2 q3 => ?_) (fun i _ => by rw [fA 53 (by omega) (by omega) (by omega) (by omega)]) (fun i _ => by rw [fA 54 (by omega) (by omega) (by omega) (by omega)]) hs ?_
    · rw [hre, gup_ne (by omega), g6]; exact gup_cg (by rw [gup_ne (by omega), gup_ne (by omega)]; exact m1)
    · rw [hre, gup_ne (by omega), gup_ne (by omega), g9]; exact gup_cg (by rw [gup_ne (by omega)]; exact m2)
    · rw [f20 36 (by omega), rl_lost hR]
      refine sumF_cg (fun i hi => ?_)
      by_cases q : i = s
      · rw [q, g, if_neg (by omega)]
      · rw [f _ (by omega) (by omega) (by omega)]
    · by_cases q4 : n = 51
      · rw [q4, f51, if_neg q3]
      · rw [fA n (by omega) (by omega) (by omega) q4]
    · unfold RelS at *
      obtain ⟨a1, a2, a3, a4, a5, a6, a7, a8, a9, a10⟩ := rs
      rw [f51, if_pos rfl, fA 45 (by omega) (by omega) (by omega) (by omega), fA 46 (by omega) (by omega) (by omega) (by omega), fA 47 (by omega) (by omega) (by omega) (by omega), fA 48 (by omega) (by omega) (by omega) (by omega), fA 49 (by omega) (by omega) (by omega) (by omega), fA 50 (by omega) (by omega) (by omega) (by omega), fA 52 (by omega) (by omega) (by omega) (by omega), fA 53 (by omega) (by omega) (by omega) (by omega), fA 54 (by omega) (by omega) (by omega) (by omega), f (201 + 3 * s) (by omega) (by omega) (by omega), f (202 + 3 * s) (by omega) (by omega) (by omega)]
      simp only [g]
      simp
      exact ⟨a1, a2, a3, a4, a5, a6, a8, a9, a10⟩
end GKEEP4

set_option maxHeartbeats 1000000 in
set_option maxRecDepth 20000 in
theorem c_X4_sell {L : Nat → Nat} {A B : Mem} (hM : LM L) (hV : VC L B) (hR : Rel B A) (hI : IV B) {x : Int} (hx : -2147483648 ≤ x ∧ x < 2147483648) : Ct mX4_sell [gr 20, gi x] L A (pr (some (gi (if selE B x = 0 then bstA B x.toNat else 0))) L (if selE B x = 0 then selR A x.toNat (bstA B x.toNat).toNat else gup A 20 0 (selE B x : Nat))) := by
  have hnc := vc_nc hV; have hns := vc_ns hV; have hp0 := (vc_p hV).1
  have rnow := rl_now hR; have rnc := rl_nc hR; have rns := rl_ns hR
  have hpv := vc_p hV
  refine Ct_of (ls := [(0, _), (1, _)]) rfl (by decide) (fun _ => rfl) (fun _ => Nat.le_of_ble_eq_true rfl) ?_
  refine g_aload_n 0 dX4_sell_0 rfl rfl ?_
  refine g_aload_n 0 dX4_sell_1 rfl rfl ?_
  refine g_iload_n 1 dX4_sell_2 rfl rfl ?_
  by_cases hs3 : 0 ≤ x ∧ x < B 3 2
  · skip
    obtain ⟨s, rfl⟩ : ∃ s : Nat, x = s := ⟨x.toNat, by omega⟩
    have hs : (s : Int) < B 3 2 := by omega
    have rs := rl_s hR hs; have hsv := vc_sv hV hs; have his := iv_s hI hs
    have e3 := rs.1; have e6 := rs.2.2.2.1; have e7 := rs.2.2.2.2.2.2.1; have e8 := rs.2.2.2.2.2.2.2.1
    have v8 := hsv.2.2.2.2.2.2.2.2.1; have v6 := hsv.2.2.2.2.2.2.1; have v7 := hsv.2.2.2.2.2.2.2.1
    refine g_cV_i (My := mX4_isStone) (gs := [_]) (c_X4_isStone hM hV hR (by omega)) mfX4_isStone cf_5 wi_X4_isStone wsl_X4_isStone wm_X4_211 dX4_sell_3 (Nat.le_of_ble_eq_true rfl) rfl (by decide) (n2 (hM 20 rfl)) rfl (fun _ => Nat.le_of_ble_eq_true rfl) (Nat.le_of_ble_eq_true rfl) (Nat.le_of_ble_eq_true rfl) rfl rfl ?_
    refine g_top (y := 1) (by rw [decide_eq_true hs3]; rfl) ?_
    refine g_if_ne (tgt := 13) (by first | omega | (simp only [inB, cellB, decide_eq_true_eq, decide_eq_false_iff_not] at *; omega)) dX4_sell_6 (by decide) (fun h6_1 => ?_) (fun h6_1 => absurd h6_1 (by omega))
    refine g_aload_n 0 dX4_sell_13 rfl rfl ?_
    refine g_iload_n 1 dX4_sell_14 rfl rfl ?_
    refine g_cV_i (My := mX4_isInParcel) (gs := [_]) (c_X4_isInParcel hM hV hR hs) mfX4_isInParcel cf_5 wi_X4_isInParcel wsl_X4_isInParcel wm_X4_214 dX4_sell_15 (Nat.le_of_ble_eq_true rfl) rfl (by decide) (n2 (hM 20 rfl)) rfl (fun _ => Nat.le_of_ble_eq_true rfl) (Nat.le_of_ble_eq_true rfl) (Nat.le_of_ble_eq_true rfl) rfl rfl ?_
    refine g_ifb_ne (tgt := 40) dX4_sell_18 (by decide) (fun h18_2 => ?_) (fun h18_2 => ?_)
    · skip
      refine g_iconst dX4_sell_40 ?_
      refine g_goto (tgt := 45) dX4_sell_41 (by decide) ?_
      refine g_putfi cf_5 0 rfl (by decide) (by decide) rfl (by decide) wf_X4_104 (Or.inl rfl) rfl dX4_sell_45 (n2 (hM 20 rfl)) (by first | omega | (simp only [inB, cellB, decide_eq_true_eq, decide_eq_false_iff_not] at *; omega)) ?_
      refine g_aload_n 0 dX4_sell_48 rfl rfl ?_
      refine g_getfi cf_5 0 rfl (by decide) (by decide) rfl (by decide) wf_X4_104 dX4_sell_49 (n2 (hM 20 rfl)) (fun h49_3 => ?_)
      refine g_top (y := 2) (gup_at _ _ _ _) ?_
      refine g_if_le (tgt := 57) (by first | omega | (simp only [inB, cellB, decide_eq_true_eq, decide_eq_false_iff_not] at *; omega)) dX4_sell_52 (by decide) (fun h52_4 => absurd h52_4 (by omega)) (fun h52_4 => ?_)
      refine g_iconst dX4_sell_55 ?_
      exact g_iret dX4_sell_56 rfl (Nat.le_of_ble_eq_true rfl) (Nat.le_of_ble_eq_true rfl) (pr_i (by first | (rw [hse, if_pos rfl]; try rw [hkt]) | (rw [show selE B x = 1 from by simp only [selE, inB, cellB, plC, plcC, decide_eq_true_eq, decide_eq_false_iff_not] at *; grind]; rfl) | (rw [show selE B (s : Int) = 1 from by simp only [selE, inB, cellB, plC, plcC, decide_eq_true_eq, decide_eq_false_iff_not] at *; grind]; rfl) | (rw [show selE B x = 2 from by simp only [selE, inB, cellB, plC, plcC, decide_eq_true_eq, decide_eq_false_iff_not] at *; grind]; rfl) | (rw [show selE B (s : Int) = 2 from by simp only [selE, inB, cellB, plC, plcC, decide_eq_true_eq, decide_eq_false_iff_not] at *; grind]; rfl)) (by first | (rw [hse, if_pos rfl]; try (rw [hkt]; unfold selR; rw [show (((bstA B s).toNat : Nat) : Int) = bstA B s by omega])) | (rw [show selE B x = 1 from by simp only [selE, inB, cellB, plC, plcC, decide_eq_true_eq, decide_eq_false_iff_not] at *; grind]; rfl) | (rw [show selE B (s : Int) = 1 from by simp only [selE, inB, cellB, plC, plcC, decide_eq_true_eq, decide_eq_false_iff_not] at *; grind]; rfl) | (rw [show selE B x = 2 from by simp only [selE, inB, cellB, plC, plcC, decide_eq_true_eq, decide_eq_false_iff_not] at *; grind]; rfl) | (rw [show selE B (s : Int) = 2 from by simp only [selE, inB, cellB, plC, plcC, decide_eq_true_eq, decide_eq_false_iff_not] at *; grind]; rfl)))
    · skip
      refine g_aload_n 0 dX4_sell_21 rfl rfl ?_
      refine g_getfr2 (r := 51) cf_5 30 rfl (by decide) (by decide) rfl (by decide) wf_X4_89 dX4_sell_22 (hM 20 rfl) rfl ?_
      refine g_iload_n 1 dX4_sell_25 rfl rfl ?_
      refine g_iald (s) (by first | omega | (simp only [inB, cellB, decide_eq_true_eq, decide_eq_false_iff_not] at *; omega)) (by first | omega | (simp only [inB, cellB, decide_eq_true_eq, decide_eq_false_iff_not] at *; omega)) rfl (by decide) dX4_sell_26 (n2 (hM 51 rfl)) (fun h26_5 => ?_)
      refine g_iconst dX4_sell_27 ?_
      refine g_icmp_ne (tgt := 40) (by first | omega | (simp only [inB, cellB, decide_eq_true_eq, decide_eq_false_iff_not] at *; omega)) (by first | omega | (simp only [inB, cellB, decide_eq_true_eq, decide_eq_false_iff_not] at *; omega)) dX4_sell_28 (by decide) (fun h28_6 => ?_) (fun h28_6 => ?_)
      · skip
        refine g_iconst dX4_sell_40 ?_
        refine g_goto (tgt := 45) dX4_sell_41 (by decide) ?_
        refine g_putfi cf_5 0 rfl (by decide) (by decide) rfl (by decide) wf_X4_104 (Or.inl rfl) rfl dX4_sell_45 (n2 (hM 20 rfl)) (by first | omega | (simp only [inB, cellB, decide_eq_true_eq, decide_eq_false_iff_not] at *; omega)) ?_
        refine g_aload_n 0 dX4_sell_48 rfl rfl ?_
        refine g_getfi cf_5 0 rfl (by decide) (by decide) rfl (by decide) wf_X4_104 dX4_sell_49 (n2 (hM 20 rfl)) (fun h49_7 => ?_)
        refine g_top (y := 2) (gup_at _ _ _ _) ?_
        refine g_if_le (tgt := 57) (by first | omega | (simp only [inB, cellB, decide_eq_true_eq, decide_eq_false_iff_not] at *; omega)) dX4_sell_52 (by decide) (fun h52_8 => absurd h52_8 (by omega)) (fun h52_8 => ?_)
        refine g_iconst dX4_sell_55 ?_
        exact g_iret dX4_sell_56 rfl (Nat.le_of_ble_eq_true rfl) (Nat.le_of_ble_eq_true rfl) (pr_i (by first | (rw [hse, if_pos rfl]; try rw [hkt]) | (rw [show selE B x = 1 from by simp only [selE, inB, cellB, plC, plcC, decide_eq_true_eq, decide_eq_false_iff_not] at *; grind]; rfl) | (rw [show selE B (s : Int) = 1 from by simp only [selE, inB, cellB, plC, plcC, decide_eq_true_eq, decide_eq_false_iff_not] at *; grind]; rfl) | (rw [show selE B x = 2 from by simp only [selE, inB, cellB, plC, plcC, decide_eq_true_eq, decide_eq_false_iff_not] at *; grind]; rfl) | (rw [show selE B (s : Int) = 2 from by simp only [selE, inB, cellB, plC, plcC, decide_eq_true_eq, decide_eq_false_iff_not] at *; grind]; rfl)) (by first | (rw [hse, if_pos rfl]; try (rw [hkt]; unfold selR; rw [show (((bstA B s).toNat : Nat) : Int) = bstA B s by omega])) | (rw [show selE B x = 1 from by simp only [selE, inB, cellB, plC, plcC, decide_eq_true_eq, decide_eq_false_iff_not] at *; grind]; rfl) | (rw [show selE B (s : Int) = 1 from by simp only [selE, inB, cellB, plC, plcC, decide_eq_true_eq, decide_eq_false_iff_not] at *; grind]; rfl) | (rw [show selE B x = 2 from by simp only [selE, inB, cellB, plC, plcC, decide_eq_true_eq, decide_eq_false_iff_not] at *; grind]; rfl) | (rw [show selE B (s : Int) = 2 from by simp only [selE, inB, cellB, plC, plcC, decide_eq_true_eq, decide_eq_false_iff_not] at *; grind]; rfl)))
      · skip
        refine g_aload_n 0 dX4_sell_31 rfl rfl ?_
        refine g_iload_n 1 dX4_sell_32 rfl rfl ?_
        refine g_cV_i (My := mX4_highest) (gs := [_]) (c_X4_highest hM hV hR hI hs) mfX4_highest cf_5 wi_X4_highest wsl_X4_highest wm_X4_227 dX4_sell_33 (Nat.le_of_ble_eq_true rfl) rfl (by decide) (n2 (hM 20 rfl)) rfl (fun _ => Nat.le_of_ble_eq_true rfl) (Nat.le_of_ble_eq_true rfl) (Nat.le_of_ble_eq_true rfl) rfl rfl ?_
        have hbr := bstC_rg (B (201 + 3 * s)) (B (202 + 3 * s)) (B 9) 5; have hbs : bstA B s = bstC (B (201 + 3 * s)) (B (202 + 3 * s)) (B 9) 5 := rfl
        refine g_iconst dX4_sell_36 ?_
        refine g_icmp_ne (tgt := 44) (by first | omega | (simp only [inB, cellB, decide_eq_true_eq, decide_eq_false_iff_not] at *; omega)) (by first | omega | (simp only [inB, cellB, decide_eq_true_eq, decide_eq_false_iff_not] at *; omega)) dX4_sell_37 (by decide) (fun h37_9 => ?_) (fun h37_9 => ?_)
        · skip
          refine g_iconst dX4_sell_44 ?_
          refine g_putfi cf_5 0 rfl (by decide) (by decide) rfl (by decide) wf_X4_104 (Or.inl rfl) rfl dX4_sell_45 (n2 (hM 20 rfl)) (by first | omega | (simp only [inB, cellB, decide_eq_true_eq, decide_eq_false_iff_not] at *; omega)) ?_
          refine g_aload_n 0 dX4_sell_48 rfl rfl ?_
          refine g_getfi cf_5 0 rfl (by decide) (by decide) rfl (by decide) wf_X4_104 dX4_sell_49 (n2 (hM 20 rfl)) (fun h49_10 => ?_)
          refine g_top (y := 0) (gup_at _ _ _ _) ?_
          refine g_if_le (tgt := 57) (by first | omega | (simp only [inB, cellB, decide_eq_true_eq, decide_eq_false_iff_not] at *; omega)) dX4_sell_52 (by decide) (fun h52_11 => ?_) (fun h52_11 => absurd h52_11 (by omega))
          refine g_aload_n 0 dX4_sell_57 rfl rfl ?_
          refine g_iload_n 1 dX4_sell_58 rfl rfl ?_
          refine g_cV_i (My := mX4_highest) (gs := [_]) (c_X4_highest hM hV (rl_th hR _) hI hs) mfX4_highest cf_5 wi_X4_highest wsl_X4_highest wm_X4_227 dX4_sell_59 (Nat.le_of_ble_eq_true rfl) rfl (by decide) (n2 (hM 20 rfl)) rfl (fun _ => Nat.le_of_ble_eq_true rfl) (Nat.le_of_ble_eq_true rfl) (Nat.le_of_ble_eq_true rfl) rfl rfl ?_
          refine g_st (ls2 := [(2, _), (0, _), (1, _)]) dX4_sell_62 rfl (by decide) (c1_cr (c1_ci c1_0)) rfl ?_
          have hel := bst_el (L := L) hI hs (by omega)
          have ry := rs.2.2.2.2.2.2.2.2.1 (bstA B s).toNat (by omega); have m1 := congrFun (rl_mo hR) (A 48 s).toNat; have m2 := congrFun (rl_pu hR) (bstA B s).toNat
          have p6 := hpv.2.1 (A 48 s).toNat; have p9 := hpv.2.2.2.2 (bstA B s).toNat; have py := hsv.2.2.2.2.2.2.2.2.2.1 (bstA B s).toNat
          have hse : selE B s = 0 := by simp only [selE, plC, plcC]; grind
          have hkt : ((s : Int)).toNat = s := by omega
          refine g_aload_n 1 dX4_sell_63 rfl rfl ?_
          refine g_getfr2 (r := 53) cf_5 32 rfl (by decide) (by decide) rfl (by decide) wf_X4_95 dX4_sell_64 (hM 20 rfl) rfl ?_
          refine g_iconst dX4_sell_67 ?_
          refine g_iload_n 2 dX4_sell_68 rfl rfl ?_
          refine g_imul dX4_sell_69 ?_
          refine g_iload_n 0 dX4_sell_70 rfl rfl ?_
          refine g_iadd dX4_sell_71 ?_
          refine g_iald (5 * s + (bstA B s).toNat) (by first | omega | (simp only [inB, cellB, decide_eq_true_eq, decide_eq_false_iff_not] at *; omega)) (by first | omega | (simp only [inB, cellB, decide_eq_true_eq, decide_eq_false_iff_not] at *; omega)) rfl (by decide) dX4_sell_72 (n2 (hM 53 rfl)) (fun h72_12 => ?_)
          refine g_top (y := A 53 (5 * s + (bstA B s).toNat)) (by simp [gup_ap]) ?_
          refine g_st (ls2 := [(3, _), (2, _), (0, _), (1, _)]) dX4_sell_73 rfl (by decide) (c1_ci (c1_cr (c1_ci c1_0))) rfl ?_
          refine g_aload_n 2 dX4_sell_74 rfl rfl ?_
          refine g_getfr2 (r := 55) cf_5 34 rfl (by decide) (by decide) rfl (by decide) wf_X4_101 dX4_sell_75 (hM 20 rfl) rfl ?_
          refine g_iload_n 1 dX4_sell_78 rfl rfl ?_
          refine g_dup2 dX4_sell_79 (c1_i _) (c1_r _) ?_
          refine g_iald ((bstA B s).toNat) (by first | omega | (simp only [inB, cellB, decide_eq_true_eq, decide_eq_false_iff_not] at *; omega)) (by first | omega | (simp only [inB, cellB, decide_eq_true_eq, decide_eq_false_iff_not] at *; omega)) rfl (by decide) dX4_sell_80 (n2 (hM 55 rfl)) (fun h80_13 => ?_)
          refine g_top (y := A 55 (bstA B s).toNat) (by simp [gup_ap]) ?_
          refine g_iload_n 0 dX4_sell_81 rfl rfl ?_
          refine g_isub dX4_sell_82 ?_
          refine g_iast ((bstA B s).toNat) (by first | omega | (simp only [inB, cellB, decide_eq_true_eq, decide_eq_false_iff_not] at *; omega)) (by first | omega | (simp only [inB, cellB, decide_eq_true_eq, decide_eq_false_iff_not] at *; omega)) (by first | omega | (simp only [inB, cellB, decide_eq_true_eq, decide_eq_false_iff_not] at *; omega)) rfl (by decide) dX4_sell_83 (n2 (hM 55 rfl)) ?_
          refine g_aload_n 2 dX4_sell_84 rfl rfl ?_
          refine g_getfr2 (r := 41) cf_5 20 rfl (by decide) (by decide) rfl (by decide) wf_X4_62 dX4_sell_85 (hM 20 rfl) rfl ?_
          refine g_aload_n 2 dX4_sell_88 rfl rfl ?_
          refine g_getfr2 (r := 48) cf_5 27 rfl (by decide) (by decide) rfl (by decide) wf_X4_80 dX4_sell_89 (hM 20 rfl) rfl ?_
          refine g_iload_n 3 dX4_sell_92 rfl rfl ?_
          refine g_iald (s) (by first | omega | (simp only [inB, cellB, decide_eq_true_eq, decide_eq_false_iff_not] at *; omega)) (by first | omega | (simp only [inB, cellB, decide_eq_true_eq, decide_eq_false_iff_not] at *; omega)) rfl (by decide) dX4_sell_93 (n2 (hM 48 rfl)) (fun h93_14 => ?_)
          refine g_top (y := A 48 s) (by simp [gup_ap]) ?_
          refine g_dup2 dX4_sell_94 (c1_i _) (c1_r _) ?_
          refine g_iald ((A 48 s).toNat) (by first | omega | (simp only [inB, cellB, decide_eq_true_eq, decide_eq_false_iff_not] at *; omega)) (by first | omega | (simp only [inB, cellB, decide_eq_true_eq, decide_eq_false_iff_not] at *; omega)) rfl (by decide) dX4_sell_95 (n2 (hM 41 rfl)) (fun h95_15 => ?_)
          refine g_top (y := A 41 (A 48 s).toNat) (by simp [gup_ap]) ?_
          refine g_iload_n 0 dX4_sell_96 rfl rfl ?_
          refine g_iadd dX4_sell_97 ?_
          refine g_iast ((A 48 s).toNat) (by first | omega | (simp only [inB, cellB, decide_eq_true_eq, decide_eq_false_iff_not] at *; omega)) (by first | omega | (simp only [inB, cellB, decide_eq_true_eq, decide_eq_false_iff_not] at *; omega)) (by first | omega | (simp only [inB, cellB, decide_eq_true_eq, decide_eq_false_iff_not] at *; omega)) rfl (by decide) dX4_sell_98 (n2 (hM 41 rfl)) ?_
          refine g_aload_n 2 dX4_sell_99 rfl rfl ?_
          refine g_getfr2 (r := 51) cf_5 30 rfl (by decide) (by decide) rfl (by decide) wf_X4_89 dX4_sell_100 (hM 20 rfl) rfl ?_
          refine g_iload_n 3 dX4_sell_103 rfl rfl ?_
          refine g_iload_n 1 dX4_sell_104 rfl rfl ?_
          refine g_iast (s) (by first | omega | (simp only [inB, cellB, decide_eq_true_eq, decide_eq_false_iff_not] at *; omega)) (by first | omega | (simp only [inB, cellB, decide_eq_true_eq, decide_eq_false_iff_not] at *; omega)) (by first | omega | (simp only [inB, cellB, decide_eq_true_eq, decide_eq_false_iff_not] at *; omega)) rfl (by decide) dX4_sell_105 (n2 (hM 51 rfl)) ?_
          refine g_iload_n 1 dX4_sell_106 rfl rfl ?_
          exact g_iret dX4_sell_107 rfl (Nat.le_of_ble_eq_true rfl) (Nat.le_of_ble_eq_true rfl) (pr_i (by first | (rw [hse, if_pos rfl]; try rw [hkt]) | (rw [show selE B x = 1 from by simp only [selE, inB, cellB, plC, plcC, decide_eq_true_eq, decide_eq_false_iff_not] at *; grind]; rfl) | (rw [show selE B (s : Int) = 1 from by simp only [selE, inB, cellB, plC, plcC, decide_eq_true_eq, decide_eq_false_iff_not] at *; grind]; rfl) | (rw [show selE B x = 2 from by simp only [selE, inB, cellB, plC, plcC, decide_eq_true_eq, decide_eq_false_iff_not] at *; grind]; rfl) | (rw [show selE B (s : Int) = 2 from by simp only [selE, inB, cellB, plC, plcC, decide_eq_true_eq, decide_eq_false_iff_not] at *; grind]; rfl)) (by first | (rw [hse, if_pos rfl]; try (rw [hkt]; unfold selR; rw [show (((bstA B s).toNat : Nat) : Int) = bstA B s by omega])) | (rw [show selE B x = 1 from by simp only [selE, inB, cellB, plC, plcC, decide_eq_true_eq, decide_eq_false_iff_not] at *; grind]; rfl) | (rw [show selE B (s : Int) = 1 from by simp only [selE, inB, cellB, plC, plcC, decide_eq_true_eq, decide_eq_false_iff_not] at *; grind]; rfl) | (rw [show selE B x = 2 from by simp only [selE, inB, cellB, plC, plcC, decide_eq_true_eq, decide_eq_false_iff_not] at *; grind]; rfl) | (rw [show selE B (s : Int) = 2 from by simp only [selE, inB, cellB, plC, plcC, decide_eq_true_eq, decide_eq_false_iff_not] at *; grind]; rfl)))
        · skip
          refine g_iconst dX4_sell_40 ?_
          refine g_goto (tgt := 45) dX4_sell_41 (by decide) ?_
          refine g_putfi cf_5 0 rfl (by decide) (by decide) rfl (by decide) wf_X4_104 (Or.inl rfl) rfl dX4_sell_45 (n2 (hM 20 rfl)) (by first | omega | (simp only [inB, cellB, decide_eq_true_eq, decide_eq_false_iff_not] at *; omega)) ?_
          refine g_aload_n 0 dX4_sell_48 rfl rfl ?_
          refine g_getfi cf_5 0 rfl (by decide) (by decide) rfl (by decide) wf_X4_104 dX4_sell_49 (n2 (hM 20 rfl)) (fun h49_16 => ?_)
          refine g_top (y := 2) (gup_at _ _ _ _) ?_
          refine g_if_le (tgt := 57) (by first | omega | (simp only [inB, cellB, decide_eq_true_eq, decide_eq_false_iff_not] at *; omega)) dX4_sell_52 (by decide) (fun h52_17 => absurd h52_17 (by omega)) (fun h52_17 => ?_)
          refine g_iconst dX4_sell_55 ?_
          exact g_iret dX4_sell_56 rfl (Nat.le_of_ble_eq_true rfl) (Nat.le_of_ble_eq_true rfl) (pr_i (by first | (rw [hse, if_pos rfl]; try rw [hkt]) | (rw [show selE B x = 1 from by simp only [selE, inB, cellB, plC, plcC, decide_eq_true_eq, decide_eq_false_iff_not] at *; grind]; rfl) | (rw [show selE B (s : Int) = 1 from by simp only [selE, inB, cellB, plC, plcC, decide_eq_true_eq, decide_eq_false_iff_not] at *; grind]; rfl) | (rw [show selE B x = 2 from by simp only [selE, inB, cellB, plC, plcC, decide_eq_true_eq, decide_eq_false_iff_not] at *; grind]; rfl) | (rw [show selE B (s : Int) = 2 from by simp only [selE, inB, cellB, plC, plcC, decide_eq_true_eq, decide_eq_false_iff_not] at *; grind]; rfl)) (by first | (rw [hse, if_pos rfl]; try (rw [hkt]; unfold selR; rw [show (((bstA B s).toNat : Nat) : Int) = bstA B s by omega])) | (rw [show selE B x = 1 from by simp only [selE, inB, cellB, plC, plcC, decide_eq_true_eq, decide_eq_false_iff_not] at *; grind]; rfl) | (rw [show selE B (s : Int) = 1 from by simp only [selE, inB, cellB, plC, plcC, decide_eq_true_eq, decide_eq_false_iff_not] at *; grind]; rfl) | (rw [show selE B x = 2 from by simp only [selE, inB, cellB, plC, plcC, decide_eq_true_eq, decide_eq_false_iff_not] at *; grind]; rfl) | (rw [show selE B (s : Int) = 2 from by simp only [selE, inB, cellB, plC, plcC, decide_eq_true_eq, decide_eq_false_iff_not] at *; grind]; rfl)))
  · skip
    refine g_cV_i (My := mX4_isStone) (gs := [_]) (c_X4_isStone hM hV hR (by omega)) mfX4_isStone cf_5 wi_X4_isStone wsl_X4_isStone wm_X4_211 dX4_sell_3 (Nat.le_of_ble_eq_true rfl) rfl (by decide) (n2 (hM 20 rfl)) rfl (fun _ => Nat.le_of_ble_eq_true rfl) (Nat.le_of_ble_eq_true rfl) (Nat.le_of_ble_eq_true rfl) rfl rfl ?_
    refine g_top (y := 0) (by rw [decide_eq_false hs3]; rfl) ?_
    refine g_if_ne (tgt := 13) (by first | omega | (simp only [inB, cellB, decide_eq_true_eq, decide_eq_false_iff_not] at *; omega)) dX4_sell_6 (by decide) (fun h6_18 => absurd h6_18 (by omega)) (fun h6_18 => ?_)
    refine g_iconst dX4_sell_9 ?_
    refine g_goto (tgt := 45) dX4_sell_10 (by decide) ?_
    refine g_putfi cf_5 0 rfl (by decide) (by decide) rfl (by decide) wf_X4_104 (Or.inl rfl) rfl dX4_sell_45 (n2 (hM 20 rfl)) (by first | omega | (simp only [inB, cellB, decide_eq_true_eq, decide_eq_false_iff_not] at *; omega)) ?_
    refine g_aload_n 0 dX4_sell_48 rfl rfl ?_
    refine g_getfi cf_5 0 rfl (by decide) (by decide) rfl (by decide) wf_X4_104 dX4_sell_49 (n2 (hM 20 rfl)) (fun h49_19 => ?_)
    refine g_top (y := 1) (gup_at _ _ _ _) ?_
    refine g_if_le (tgt := 57) (by first | omega | (simp only [inB, cellB, decide_eq_true_eq, decide_eq_false_iff_not] at *; omega)) dX4_sell_52 (by decide) (fun h52_20 => absurd h52_20 (by omega)) (fun h52_20 => ?_)
    refine g_iconst dX4_sell_55 ?_
    exact g_iret dX4_sell_56 rfl (Nat.le_of_ble_eq_true rfl) (Nat.le_of_ble_eq_true rfl) (pr_i (by first | (rw [hse, if_pos rfl]; try rw [hkt]) | (rw [show selE B x = 1 from by simp only [selE, inB, cellB, plC, plcC, decide_eq_true_eq, decide_eq_false_iff_not] at *; grind]; rfl) | (rw [show selE B (s : Int) = 1 from by simp only [selE, inB, cellB, plC, plcC, decide_eq_true_eq, decide_eq_false_iff_not] at *; grind]; rfl) | (rw [show selE B x = 2 from by simp only [selE, inB, cellB, plC, plcC, decide_eq_true_eq, decide_eq_false_iff_not] at *; grind]; rfl) | (rw [show selE B (s : Int) = 2 from by simp only [selE, inB, cellB, plC, plcC, decide_eq_true_eq, decide_eq_false_iff_not] at *; grind]; rfl)) (by first | (rw [hse, if_pos rfl]; try (rw [hkt]; unfold selR; rw [show (((bstA B s).toNat : Nat) : Int) = bstA B s by omega])) | (rw [show selE B x = 1 from by simp only [selE, inB, cellB, plC, plcC, decide_eq_true_eq, decide_eq_false_iff_not] at *; grind]; rfl) | (rw [show selE B (s : Int) = 1 from by simp only [selE, inB, cellB, plC, plcC, decide_eq_true_eq, decide_eq_false_iff_not] at *; grind]; rfl) | (rw [show selE B x = 2 from by simp only [selE, inB, cellB, plC, plcC, decide_eq_true_eq, decide_eq_false_iff_not] at *; grind]; rfl) | (rw [show selE B (s : Int) = 2 from by simp only [selE, inB, cellB, plC, plcC, decide_eq_true_eq, decide_eq_false_iff_not] at *; grind]; rfl)))

set_option maxHeartbeats 1000000 in
set_option maxRecDepth 20000 in
theorem c_X4_bid {L : Nat → Nat} {A B : Mem} (hM : LM L) (hV : VC L B) (hR : Rel B A) (hI : IV B) {b x y : Int} (hb : -2147483648 ≤ b ∧ b < 2147483648) (hx : -2147483648 ≤ x ∧ x < 2147483648) (hy : -2147483648 ≤ y ∧ y < 2147483648) : Ct mX4_bid [gr 20, gi b, gi x, gi y] L A (pr (some (gi (if bidE B b x y = 0 then A 52 x.toNat + 1 else 0))) L (if bidE B b x y = 0 then bidR A b.toNat x.toNat y else gup A 20 0 (bidE B b x y : Nat))) := by
  have hnc := vc_nc hV; have hns := vc_ns hV; have hp0 := (vc_p hV).1
  have rnow := rl_now hR; have rnc := rl_nc hR; have rns := rl_ns hR
  refine Ct_of (ls := [(0, _), (1, _), (2, _), (3, _)]) rfl (by decide) (fun _ => rfl) (fun _ => Nat.le_of_ble_eq_true rfl) ?_
  refine g_aload_n 0 dX4_bid_0 rfl rfl ?_
  refine g_iload_n 1 dX4_bid_1 rfl rfl ?_
  by_cases hs2 : 0 ≤ b ∧ b < 5
  · skip
    refine g_cS_i (My := mX4_isBuyer) (gs := [_]) (c_X4_isBuyer (by omega)) mfX4_isBuyer rfl wst_X4_isBuyer wm_X4_223 dX4_bid_2 (Nat.le_of_ble_eq_true rfl) rfl (fun _ => Nat.le_of_ble_eq_true rfl) (Nat.le_of_ble_eq_true rfl) (Nat.le_of_ble_eq_true rfl) rfl rfl ?_
    refine g_top (y := 1) (by first | (rw [decide_eq_true hs2]; rfl) | (rw [cellB, decide_eq_true hs2]; rfl)) ?_
    refine g_if_eq (tgt := 16) (by first | omega | (simp only [inB, cellB, decide_eq_true_eq, decide_eq_false_iff_not] at *; omega)) dX4_bid_5 (by decide) (fun h5_1 => absurd h5_1 (by omega)) (fun h5_1 => ?_)
    refine g_aload_n 0 dX4_bid_8 rfl rfl ?_
    refine g_iload_n 2 dX4_bid_9 rfl rfl ?_
    by_cases hs10 : 0 ≤ x ∧ x < B 3 2
    · skip
      obtain ⟨s, rfl⟩ : ∃ s : Nat, x = s := ⟨x.toNat, by omega⟩
      have hs : (s : Int) < B 3 2 := by omega
      have rs := rl_s hR hs; have hsv := vc_sv hV hs; have his := iv_s hI hs
      have e3 := rs.1; have e6 := rs.2.2.2.1; have e7 := rs.2.2.2.2.2.2.1; have e8 := rs.2.2.2.2.2.2.2.1
      have v8 := hsv.2.2.2.2.2.2.2.2.1; have v6 := hsv.2.2.2.2.2.2.1; have v7 := hsv.2.2.2.2.2.2.2.1
      refine g_cV_i (My := mX4_isStone) (gs := [_]) (c_X4_isStone hM hV hR (by omega)) mfX4_isStone cf_5 wi_X4_isStone wsl_X4_isStone wm_X4_211 dX4_bid_10 (Nat.le_of_ble_eq_true rfl) rfl (by decide) (n2 (hM 20 rfl)) rfl (fun _ => Nat.le_of_ble_eq_true rfl) (Nat.le_of_ble_eq_true rfl) (Nat.le_of_ble_eq_true rfl) rfl rfl ?_
      refine g_top (y := 1) (by rw [decide_eq_true hs10]; rfl) ?_
      refine g_if_ne (tgt := 20) (by first | omega | (simp only [inB, cellB, decide_eq_true_eq, decide_eq_false_iff_not] at *; omega)) dX4_bid_13 (by decide) (fun h13_2 => ?_) (fun h13_2 => absurd h13_2 (by omega))
      refine g_iload_n 3 dX4_bid_20 rfl rfl ?_
      refine g_iconst dX4_bid_21 ?_
      refine g_ldci (n := 99999) dX4_bid_22 wk_X4_226 ?_
      by_cases hs24 : 1 ≤ y ∧ y ≤ 99999
      · skip
        refine g_cS_i (My := mX4_in) (gs := [_, _, _]) (c_X4_in (by omega) (by omega) (by omega)) mfX4_in rfl wst_X4_in wm_X4_108 dX4_bid_24 (Nat.le_of_ble_eq_true rfl) rfl (fun _ => Nat.le_of_ble_eq_true rfl) (Nat.le_of_ble_eq_true rfl) (Nat.le_of_ble_eq_true rfl) rfl rfl ?_
        refine g_top (y := 1) (by first | (rw [decide_eq_true hs24]; rfl) | (rw [inB, decide_eq_true hs24]; rfl)) ?_
        refine g_if_ne (tgt := 34) (by first | omega | (simp only [inB, cellB, decide_eq_true_eq, decide_eq_false_iff_not] at *; omega)) dX4_bid_27 (by decide) (fun h27_3 => ?_) (fun h27_3 => absurd h27_3 (by omega))
        refine g_iconst dX4_bid_34 ?_
        refine g_putfi cf_5 0 rfl (by decide) (by decide) rfl (by decide) wf_X4_104 (Or.inl rfl) rfl dX4_bid_35 (n2 (hM 20 rfl)) (by first | omega | (simp only [inB, cellB, decide_eq_true_eq, decide_eq_false_iff_not] at *; omega)) ?_
        refine g_aload_n 0 dX4_bid_38 rfl rfl ?_
        refine g_getfi cf_5 0 rfl (by decide) (by decide) rfl (by decide) wf_X4_104 dX4_bid_39 (n2 (hM 20 rfl)) (fun h39_4 => ?_)
        refine g_top (y := 0) (gup_at _ _ _ _) ?_
        refine g_if_ne (tgt := 81) (by first | omega | (simp only [inB, cellB, decide_eq_true_eq, decide_eq_false_iff_not] at *; omega)) dX4_bid_42 (by decide) (fun h42_5 => absurd h42_5 (by omega)) (fun h42_5 => ?_)
        have rs0 := rl_s (rl_th hR 0) hs; have z7 := rs0.2.2.2.2.2.2.1; have zp := rs0.2.2.2.2.2.2.2.2.1 b.toNat (by omega); have vp := hsv.2.2.2.2.2.2.2.2.2.1 b.toNat
        refine g_aload_n 0 dX4_bid_45 rfl rfl ?_
        refine g_iload_n 2 dX4_bid_46 rfl rfl ?_
        refine g_cV_i (My := mX4_isInParcel) (gs := [_]) (c_X4_isInParcel hM hV (rl_th hR _) hs) mfX4_isInParcel cf_5 wi_X4_isInParcel wsl_X4_isInParcel wm_X4_214 dX4_bid_47 (Nat.le_of_ble_eq_true rfl) rfl (by decide) (n2 (hM 20 rfl)) rfl (fun _ => Nat.le_of_ble_eq_true rfl) (Nat.le_of_ble_eq_true rfl) (Nat.le_of_ble_eq_true rfl) rfl rfl ?_
        refine g_ifb_ne (tgt := 76) dX4_bid_50 (by decide) (fun h50_6 => ?_) (fun h50_6 => ?_)
        · skip
          refine g_aload_n 0 dX4_bid_76 rfl rfl ?_
          refine g_iconst dX4_bid_77 ?_
          refine g_putfi cf_5 0 rfl (by decide) (by decide) rfl (by decide) wf_X4_104 (Or.inl rfl) rfl dX4_bid_78 (n2 (hM 20 rfl)) (by first | omega | (simp only [inB, cellB, decide_eq_true_eq, decide_eq_false_iff_not] at *; omega)) ?_
          refine g_ls (A2 := gup A 20 0 3) rfl rfl (gup_tw _ _ _ _ _) ?_
          refine g_aload_n 0 dX4_bid_81 rfl rfl ?_
          refine g_getfi cf_5 0 rfl (by decide) (by decide) rfl (by decide) wf_X4_104 dX4_bid_82 (n2 (hM 20 rfl)) (fun h82_7 => ?_)
          refine g_top (y := 3) (gup_at _ _ _ _) ?_
          refine g_if_le (tgt := 90) (by first | omega | (simp only [inB, cellB, decide_eq_true_eq, decide_eq_false_iff_not] at *; omega)) dX4_bid_85 (by decide) (fun h85_8 => absurd h85_8 (by omega)) (fun h85_8 => ?_)
          refine g_iconst dX4_bid_88 ?_
          exact g_iret dX4_bid_89 rfl (Nat.le_of_ble_eq_true rfl) (Nat.le_of_ble_eq_true rfl) (pr_i (by first | (rw [show bidE B b x y = 0 from by simp only [bidE, inB, cellB, plC, plcC, decide_eq_true_eq, decide_eq_false_iff_not] at *; grind]; rfl) | (rw [show bidE B b (s : Int) y = 0 from by simp only [bidE, inB, cellB, plC, plcC, decide_eq_true_eq, decide_eq_false_iff_not] at *; grind]; rfl) | (rw [show bidE B b x y = 1 from by simp only [bidE, inB, cellB, plC, plcC, decide_eq_true_eq, decide_eq_false_iff_not] at *; grind]; rfl) | (rw [show bidE B b (s : Int) y = 1 from by simp only [bidE, inB, cellB, plC, plcC, decide_eq_true_eq, decide_eq_false_iff_not] at *; grind]; rfl) | (rw [show bidE B b x y = 2 from by simp only [bidE, inB, cellB, plC, plcC, decide_eq_true_eq, decide_eq_false_iff_not] at *; grind]; rfl) | (rw [show bidE B b (s : Int) y = 2 from by simp only [bidE, inB, cellB, plC, plcC, decide_eq_true_eq, decide_eq_false_iff_not] at *; grind]; rfl) | (rw [show bidE B b x y = 3 from by simp only [bidE, inB, cellB, plC, plcC, decide_eq_true_eq, decide_eq_false_iff_not] at *; grind]; rfl) | (rw [show bidE B b (s : Int) y = 3 from by simp only [bidE, inB, cellB, plC, plcC, decide_eq_true_eq, decide_eq_false_iff_not] at *; grind]; rfl)) (by first | (rw [show bidE B b x y = 0 from by simp only [bidE, inB, cellB, plC, plcC, decide_eq_true_eq, decide_eq_false_iff_not] at *; grind]; rfl) | (rw [show bidE B b (s : Int) y = 0 from by simp only [bidE, inB, cellB, plC, plcC, decide_eq_true_eq, decide_eq_false_iff_not] at *; grind]; rfl) | (rw [show bidE B b x y = 1 from by simp only [bidE, inB, cellB, plC, plcC, decide_eq_true_eq, decide_eq_false_iff_not] at *; grind]; rfl) | (rw [show bidE B b (s : Int) y = 1 from by simp only [bidE, inB, cellB, plC, plcC, decide_eq_true_eq, decide_eq_false_iff_not] at *; grind]; rfl) | (rw [show bidE B b x y = 2 from by simp only [bidE, inB, cellB, plC, plcC, decide_eq_true_eq, decide_eq_false_iff_not] at *; grind]; rfl) | (rw [show bidE B b (s : Int) y = 2 from by simp only [bidE, inB, cellB, plC, plcC, decide_eq_true_eq, decide_eq_false_iff_not] at *; grind]; rfl) | (rw [show bidE B b x y = 3 from by simp only [bidE, inB, cellB, plC, plcC, decide_eq_true_eq, decide_eq_false_iff_not] at *; grind]; rfl) | (rw [show bidE B b (s : Int) y = 3 from by simp only [bidE, inB, cellB, plC, plcC, decide_eq_true_eq, decide_eq_false_iff_not] at *; grind]; rfl)))
        · skip
          refine g_aload_n 0 dX4_bid_53 rfl rfl ?_
          refine g_getfr2 (r := 51) cf_5 30 rfl (by decide) (by decide) rfl (by decide) wf_X4_89 dX4_bid_54 (hM 20 rfl) rfl ?_
          refine g_iload_n 2 dX4_bid_57 rfl rfl ?_
          refine g_iald (s) (by first | omega | (simp only [inB, cellB, decide_eq_true_eq, decide_eq_false_iff_not] at *; omega)) (by first | omega | (simp only [inB, cellB, decide_eq_true_eq, decide_eq_false_iff_not] at *; omega)) rfl (by decide) dX4_bid_58 (n2 (hM 51 rfl)) (fun h58_9 => ?_)
          refine g_iconst dX4_bid_59 ?_
          refine g_icmp_ne (tgt := 76) (by first | omega | (simp only [inB, cellB, decide_eq_true_eq, decide_eq_false_iff_not] at *; omega)) (by first | omega | (simp only [inB, cellB, decide_eq_true_eq, decide_eq_false_iff_not] at *; omega)) dX4_bid_60 (by decide) (fun h60_10 => ?_) (fun h60_10 => ?_)
          · skip
            refine g_aload_n 0 dX4_bid_76 rfl rfl ?_
            refine g_iconst dX4_bid_77 ?_
            refine g_putfi cf_5 0 rfl (by decide) (by decide) rfl (by decide) wf_X4_104 (Or.inl rfl) rfl dX4_bid_78 (n2 (hM 20 rfl)) (by first | omega | (simp only [inB, cellB, decide_eq_true_eq, decide_eq_false_iff_not] at *; omega)) ?_
            refine g_ls (A2 := gup A 20 0 3) rfl rfl (gup_tw _ _ _ _ _) ?_
            refine g_aload_n 0 dX4_bid_81 rfl rfl ?_
            refine g_getfi cf_5 0 rfl (by decide) (by decide) rfl (by decide) wf_X4_104 dX4_bid_82 (n2 (hM 20 rfl)) (fun h82_11 => ?_)
            refine g_top (y := 3) (gup_at _ _ _ _) ?_
            refine g_if_le (tgt := 90) (by first | omega | (simp only [inB, cellB, decide_eq_true_eq, decide_eq_false_iff_not] at *; omega)) dX4_bid_85 (by decide) (fun h85_12 => absurd h85_12 (by omega)) (fun h85_12 => ?_)
            refine g_iconst dX4_bid_88 ?_
            exact g_iret dX4_bid_89 rfl (Nat.le_of_ble_eq_true rfl) (Nat.le_of_ble_eq_true rfl) (pr_i (by first | (rw [show bidE B b x y = 0 from by simp only [bidE, inB, cellB, plC, plcC, decide_eq_true_eq, decide_eq_false_iff_not] at *; grind]; rfl) | (rw [show bidE B b (s : Int) y = 0 from by simp only [bidE, inB, cellB, plC, plcC, decide_eq_true_eq, decide_eq_false_iff_not] at *; grind]; rfl) | (rw [show bidE B b x y = 1 from by simp only [bidE, inB, cellB, plC, plcC, decide_eq_true_eq, decide_eq_false_iff_not] at *; grind]; rfl) | (rw [show bidE B b (s : Int) y = 1 from by simp only [bidE, inB, cellB, plC, plcC, decide_eq_true_eq, decide_eq_false_iff_not] at *; grind]; rfl) | (rw [show bidE B b x y = 2 from by simp only [bidE, inB, cellB, plC, plcC, decide_eq_true_eq, decide_eq_false_iff_not] at *; grind]; rfl) | (rw [show bidE B b (s : Int) y = 2 from by simp only [bidE, inB, cellB, plC, plcC, decide_eq_true_eq, decide_eq_false_iff_not] at *; grind]; rfl) | (rw [show bidE B b x y = 3 from by simp only [bidE, inB, cellB, plC, plcC, decide_eq_true_eq, decide_eq_false_iff_not] at *; grind]; rfl) | (rw [show bidE B b (s : Int) y = 3 from by simp only [bidE, inB, cellB, plC, plcC, decide_eq_true_eq, decide_eq_false_iff_not] at *; grind]; rfl)) (by first | (rw [show bidE B b x y = 0 from by simp only [bidE, inB, cellB, plC, plcC, decide_eq_true_eq, decide_eq_false_iff_not] at *; grind]; rfl) | (rw [show bidE B b (s : Int) y = 0 from by simp only [bidE, inB, cellB, plC, plcC, decide_eq_true_eq, decide_eq_false_iff_not] at *; grind]; rfl) | (rw [show bidE B b x y = 1 from by simp only [bidE, inB, cellB, plC, plcC, decide_eq_true_eq, decide_eq_false_iff_not] at *; grind]; rfl) | (rw [show bidE B b (s : Int) y = 1 from by simp only [bidE, inB, cellB, plC, plcC, decide_eq_true_eq, decide_eq_false_iff_not] at *; grind]; rfl) | (rw [show bidE B b x y = 2 from by simp only [bidE, inB, cellB, plC, plcC, decide_eq_true_eq, decide_eq_false_iff_not] at *; grind]; rfl) | (rw [show bidE B b (s : Int) y = 2 from by simp only [bidE, inB, cellB, plC, plcC, decide_eq_true_eq, decide_eq_false_iff_not] at *; grind]; rfl) | (rw [show bidE B b x y = 3 from by simp only [bidE, inB, cellB, plC, plcC, decide_eq_true_eq, decide_eq_false_iff_not] at *; grind]; rfl) | (rw [show bidE B b (s : Int) y = 3 from by simp only [bidE, inB, cellB, plC, plcC, decide_eq_true_eq, decide_eq_false_iff_not] at *; grind]; rfl)))
          · skip
            refine g_aload_n 0 dX4_bid_63 rfl rfl ?_
            refine g_getfr2 (r := 53) cf_5 32 rfl (by decide) (by decide) rfl (by decide) wf_X4_95 dX4_bid_64 (hM 20 rfl) rfl ?_
            refine g_iconst dX4_bid_67 ?_
            refine g_iload_n 2 dX4_bid_68 rfl rfl ?_
            refine g_imul dX4_bid_69 ?_
            refine g_iload_n 1 dX4_bid_70 rfl rfl ?_
            refine g_iadd dX4_bid_71 ?_
            refine g_iald (5 * s + b.toNat) (by first | omega | (simp only [inB, cellB, decide_eq_true_eq, decide_eq_false_iff_not] at *; omega)) (by first | omega | (simp only [inB, cellB, decide_eq_true_eq, decide_eq_false_iff_not] at *; omega)) rfl (by decide) dX4_bid_72 (n2 (hM 53 rfl)) (fun h72_13 => ?_)
            refine g_if_le (tgt := 81) (by first | omega | (simp only [inB, cellB, decide_eq_true_eq, decide_eq_false_iff_not] at *; omega)) dX4_bid_73 (by decide) (fun h73_14 => ?_) (fun h73_14 => ?_)
            · skip
              refine g_aload_n 0 dX4_bid_81 rfl rfl ?_
              refine g_getfi cf_5 0 rfl (by decide) (by decide) rfl (by decide) wf_X4_104 dX4_bid_82 (n2 (hM 20 rfl)) (fun h82_15 => ?_)
              refine g_top (y := 0) (gup_at _ _ _ _) ?_
              refine g_if_le (tgt := 90) (by first | omega | (simp only [inB, cellB, decide_eq_true_eq, decide_eq_false_iff_not] at *; omega)) dX4_bid_85 (by decide) (fun h85_16 => ?_) (fun h85_16 => absurd h85_16 (by omega))
              refine g_aload_n 0 dX4_bid_90 rfl rfl ?_
              refine g_getfr2 (r := 53) cf_5 32 rfl (by decide) (by decide) rfl (by decide) wf_X4_95 dX4_bid_91 (hM 20 rfl) rfl ?_
              refine g_iconst dX4_bid_94 ?_
              refine g_iload_n 2 dX4_bid_95 rfl rfl ?_
              refine g_imul dX4_bid_96 ?_
              refine g_iload_n 1 dX4_bid_97 rfl rfl ?_
              refine g_iadd dX4_bid_98 ?_
              refine g_iload_n 3 dX4_bid_99 rfl rfl ?_
              refine g_iast (5 * s + b.toNat) (by first | omega | (simp only [inB, cellB, decide_eq_true_eq, decide_eq_false_iff_not] at *; omega)) (by first | omega | (simp only [inB, cellB, decide_eq_true_eq, decide_eq_false_iff_not] at *; omega)) (by first | omega | (simp only [inB, cellB, decide_eq_true_eq, decide_eq_false_iff_not] at *; omega)) rfl (by decide) dX4_bid_100 (n2 (hM 53 rfl)) ?_
              refine g_aload_n 0 dX4_bid_101 rfl rfl ?_
              refine g_getfr2 (r := 54) cf_5 33 rfl (by decide) (by decide) rfl (by decide) wf_X4_98 dX4_bid_102 (hM 20 rfl) rfl ?_
              refine g_iconst dX4_bid_105 ?_
              refine g_iload_n 2 dX4_bid_106 rfl rfl ?_
              refine g_imul dX4_bid_107 ?_
              refine g_iload_n 1 dX4_bid_108 rfl rfl ?_
              refine g_iadd dX4_bid_109 ?_
              refine g_aload_n 0 dX4_bid_110 rfl rfl ?_
              refine g_getfr2 (r := 52) cf_5 31 rfl (by decide) (by decide) rfl (by decide) wf_X4_92 dX4_bid_111 (hM 20 rfl) rfl ?_
              refine g_iload_n 2 dX4_bid_114 rfl rfl ?_
              refine g_iald (s) (by first | omega | (simp only [inB, cellB, decide_eq_true_eq, decide_eq_false_iff_not] at *; omega)) (by first | omega | (simp only [inB, cellB, decide_eq_true_eq, decide_eq_false_iff_not] at *; omega)) rfl (by decide) dX4_bid_115 (n2 (hM 52 rfl)) (fun h115_17 => ?_)
              refine g_top (y := A 52 s) (by simp [gup_ap]) ?_
              refine g_iast (5 * s + b.toNat) (by first | omega | (simp only [inB, cellB, decide_eq_true_eq, decide_eq_false_iff_not] at *; omega)) (by first | omega | (simp only [inB, cellB, decide_eq_true_eq, decide_eq_false_iff_not] at *; omega)) (by first | omega | (simp only [inB, cellB, decide_eq_true_eq, decide_eq_false_iff_not] at *; omega)) rfl (by decide) dX4_bid_116 (n2 (hM 54 rfl)) ?_
              refine g_aload_n 0 dX4_bid_117 rfl rfl ?_
              refine g_getfr2 (r := 52) cf_5 31 rfl (by decide) (by decide) rfl (by decide) wf_X4_92 dX4_bid_118 (hM 20 rfl) rfl ?_
              refine g_iload_n 2 dX4_bid_121 rfl rfl ?_
              refine g_dup2 dX4_bid_122 (c1_i _) (c1_r _) ?_
              refine g_iald (s) (by first | omega | (simp only [inB, cellB, decide_eq_true_eq, decide_eq_false_iff_not] at *; omega)) (by first | omega | (simp only [inB, cellB, decide_eq_true_eq, decide_eq_false_iff_not] at *; omega)) rfl (by decide) dX4_bid_123 (n2 (hM 52 rfl)) (fun h123_18 => ?_)
              refine g_top (y := A 52 s) (by simp [gup_ap]) ?_
              refine g_iconst dX4_bid_124 ?_
              refine g_iadd dX4_bid_125 ?_
              refine g_iast (s) (by first | omega | (simp only [inB, cellB, decide_eq_true_eq, decide_eq_false_iff_not] at *; omega)) (by first | omega | (simp only [inB, cellB, decide_eq_true_eq, decide_eq_false_iff_not] at *; omega)) (by first | omega | (simp only [inB, cellB, decide_eq_true_eq, decide_eq_false_iff_not] at *; omega)) rfl (by decide) dX4_bid_126 (n2 (hM 52 rfl)) ?_
              refine g_aload_n 0 dX4_bid_127 rfl rfl ?_
              refine g_getfr2 (r := 52) cf_5 31 rfl (by decide) (by decide) rfl (by decide) wf_X4_92 dX4_bid_128 (hM 20 rfl) rfl ?_
              refine g_iload_n 2 dX4_bid_131 rfl rfl ?_
              refine g_iald (s) (by first | omega | (simp only [inB, cellB, decide_eq_true_eq, decide_eq_false_iff_not] at *; omega)) (by first | omega | (simp only [inB, cellB, decide_eq_true_eq, decide_eq_false_iff_not] at *; omega)) rfl (by decide) dX4_bid_132 (n2 (hM 52 rfl)) (fun h132_19 => ?_)
              refine g_top (y := A 52 s + 1) (by simp [gup_ap]) ?_
              exact g_iret dX4_bid_133 rfl (Nat.le_of_ble_eq_true rfl) (Nat.le_of_ble_eq_true rfl) (pr_i (by first | (rw [show bidE B b x y = 0 from by simp only [bidE, inB, cellB, plC, plcC, decide_eq_true_eq, decide_eq_false_iff_not] at *; grind]; rfl) | (rw [show bidE B b (s : Int) y = 0 from by simp only [bidE, inB, cellB, plC, plcC, decide_eq_true_eq, decide_eq_false_iff_not] at *; grind]; rfl) | (rw [show bidE B b x y = 1 from by simp only [bidE, inB, cellB, plC, plcC, decide_eq_true_eq, decide_eq_false_iff_not] at *; grind]; rfl) | (rw [show bidE B b (s : Int) y = 1 from by simp only [bidE, inB, cellB, plC, plcC, decide_eq_true_eq, decide_eq_false_iff_not] at *; grind]; rfl) | (rw [show bidE B b x y = 2 from by simp only [bidE, inB, cellB, plC, plcC, decide_eq_true_eq, decide_eq_false_iff_not] at *; grind]; rfl) | (rw [show bidE B b (s : Int) y = 2 from by simp only [bidE, inB, cellB, plC, plcC, decide_eq_true_eq, decide_eq_false_iff_not] at *; grind]; rfl) | (rw [show bidE B b x y = 3 from by simp only [bidE, inB, cellB, plC, plcC, decide_eq_true_eq, decide_eq_false_iff_not] at *; grind]; rfl) | (rw [show bidE B b (s : Int) y = 3 from by simp only [bidE, inB, cellB, plC, plcC, decide_eq_true_eq, decide_eq_false_iff_not] at *; grind]; rfl)) (by first | (rw [show bidE B b x y = 0 from by simp only [bidE, inB, cellB, plC, plcC, decide_eq_true_eq, decide_eq_false_iff_not] at *; grind]; rfl) | (rw [show bidE B b (s : Int) y = 0 from by simp only [bidE, inB, cellB, plC, plcC, decide_eq_true_eq, decide_eq_false_iff_not] at *; grind]; rfl) | (rw [show bidE B b x y = 1 from by simp only [bidE, inB, cellB, plC, plcC, decide_eq_true_eq, decide_eq_false_iff_not] at *; grind]; rfl) | (rw [show bidE B b (s : Int) y = 1 from by simp only [bidE, inB, cellB, plC, plcC, decide_eq_true_eq, decide_eq_false_iff_not] at *; grind]; rfl) | (rw [show bidE B b x y = 2 from by simp only [bidE, inB, cellB, plC, plcC, decide_eq_true_eq, decide_eq_false_iff_not] at *; grind]; rfl) | (rw [show bidE B b (s : Int) y = 2 from by simp only [bidE, inB, cellB, plC, plcC, decide_eq_true_eq, decide_eq_false_iff_not] at *; grind]; rfl) | (rw [show bidE B b x y = 3 from by simp only [bidE, inB, cellB, plC, plcC, decide_eq_true_eq, decide_eq_false_iff_not] at *; grind]; rfl) | (rw [show bidE B b (s : Int) y = 3 from by simp only [bidE, inB, cellB, plC, plcC, decide_eq_true_eq, decide_eq_false_iff_not] at *; grind]; rfl)))
            · skip
              refine g_aload_n 0 dX4_bid_76 rfl rfl ?_
              refine g_iconst dX4_bid_77 ?_
              refine g_putfi cf_5 0 rfl (by decide) (by decide) rfl (by decide) wf_X4_104 (Or.inl rfl) rfl dX4_bid_78 (n2 (hM 20 rfl)) (by first | omega | (simp only [inB, cellB, decide_eq_true_eq, decide_eq_false_iff_not] at *; omega)) ?_
              refine g_ls (A2 := gup A 20 0 3) rfl rfl (gup_tw _ _ _ _ _) ?_
              refine g_aload_n 0 dX4_bid_81 rfl rfl ?_
              refine g_getfi cf_5 0 rfl (by decide) (by decide) rfl (by decide) wf_X4_104 dX4_bid_82 (n2 (hM 20 rfl)) (fun h82_20 => ?_)
              refine g_top (y := 3) (gup_at _ _ _ _) ?_
              refine g_if_le (tgt := 90) (by first | omega | (simp only [inB, cellB, decide_eq_true_eq, decide_eq_false_iff_not] at *; omega)) dX4_bid_85 (by decide) (fun h85_21 => absurd h85_21 (by omega)) (fun h85_21 => ?_)
              refine g_iconst dX4_bid_88 ?_
              exact g_iret dX4_bid_89 rfl (Nat.le_of_ble_eq_true rfl) (Nat.le_of_ble_eq_true rfl) (pr_i (by first | (rw [show bidE B b x y = 0 from by simp only [bidE, inB, cellB, plC, plcC, decide_eq_true_eq, decide_eq_false_iff_not] at *; grind]; rfl) | (rw [show bidE B b (s : Int) y = 0 from by simp only [bidE, inB, cellB, plC, plcC, decide_eq_true_eq, decide_eq_false_iff_not] at *; grind]; rfl) | (rw [show bidE B b x y = 1 from by simp only [bidE, inB, cellB, plC, plcC, decide_eq_true_eq, decide_eq_false_iff_not] at *; grind]; rfl) | (rw [show bidE B b (s : Int) y = 1 from by simp only [bidE, inB, cellB, plC, plcC, decide_eq_true_eq, decide_eq_false_iff_not] at *; grind]; rfl) | (rw [show bidE B b x y = 2 from by simp only [bidE, inB, cellB, plC, plcC, decide_eq_true_eq, decide_eq_false_iff_not] at *; grind]; rfl) | (rw [show bidE B b (s : Int) y = 2 from by simp only [bidE, inB, cellB, plC, plcC, decide_eq_true_eq, decide_eq_false_iff_not] at *; grind]; rfl) | (rw [show bidE B b x y = 3 from by simp only [bidE, inB, cellB, plC, plcC, decide_eq_true_eq, decide_eq_false_iff_not] at *; grind]; rfl) | (rw [show bidE B b (s : Int) y = 3 from by simp only [bidE, inB, cellB, plC, plcC, decide_eq_true_eq, decide_eq_false_iff_not] at *; grind]; rfl)) (by first | (rw [show bidE B b x y = 0 from by simp only [bidE, inB, cellB, plC, plcC, decide_eq_true_eq, decide_eq_false_iff_not] at *; grind]; rfl) | (rw [show bidE B b (s : Int) y = 0 from by simp only [bidE, inB, cellB, plC, plcC, decide_eq_true_eq, decide_eq_false_iff_not] at *; grind]; rfl) | (rw [show bidE B b x y = 1 from by simp only [bidE, inB, cellB, plC, plcC, decide_eq_true_eq, decide_eq_false_iff_not] at *; grind]; rfl) | (rw [show bidE B b (s : Int) y = 1 from by simp only [bidE, inB, cellB, plC, plcC, decide_eq_true_eq, decide_eq_false_iff_not] at *; grind]; rfl) | (rw [show bidE B b x y = 2 from by simp only [bidE, inB, cellB, plC, plcC, decide_eq_true_eq, decide_eq_false_iff_not] at *; grind]; rfl) | (rw [show bidE B b (s : Int) y = 2 from by simp only [bidE, inB, cellB, plC, plcC, decide_eq_true_eq, decide_eq_false_iff_not] at *; grind]; rfl) | (rw [show bidE B b x y = 3 from by simp only [bidE, inB, cellB, plC, plcC, decide_eq_true_eq, decide_eq_false_iff_not] at *; grind]; rfl) | (rw [show bidE B b (s : Int) y = 3 from by simp only [bidE, inB, cellB, plC, plcC, decide_eq_true_eq, decide_eq_false_iff_not] at *; grind]; rfl)))
      · skip
        refine g_cS_i (My := mX4_in) (gs := [_, _, _]) (c_X4_in (by omega) (by omega) (by omega)) mfX4_in rfl wst_X4_in wm_X4_108 dX4_bid_24 (Nat.le_of_ble_eq_true rfl) rfl (fun _ => Nat.le_of_ble_eq_true rfl) (Nat.le_of_ble_eq_true rfl) (Nat.le_of_ble_eq_true rfl) rfl rfl ?_
        refine g_top (y := 0) (by first | (rw [decide_eq_false hs24]; rfl) | (rw [inB, decide_eq_false hs24]; rfl)) ?_
        refine g_if_ne (tgt := 34) (by first | omega | (simp only [inB, cellB, decide_eq_true_eq, decide_eq_false_iff_not] at *; omega)) dX4_bid_27 (by decide) (fun h27_22 => absurd h27_22 (by omega)) (fun h27_22 => ?_)
        refine g_iconst dX4_bid_30 ?_
        refine g_goto (tgt := 35) dX4_bid_31 (by decide) ?_
        refine g_putfi cf_5 0 rfl (by decide) (by decide) rfl (by decide) wf_X4_104 (Or.inl rfl) rfl dX4_bid_35 (n2 (hM 20 rfl)) (by first | omega | (simp only [inB, cellB, decide_eq_true_eq, decide_eq_false_iff_not] at *; omega)) ?_
        refine g_aload_n 0 dX4_bid_38 rfl rfl ?_
        refine g_getfi cf_5 0 rfl (by decide) (by decide) rfl (by decide) wf_X4_104 dX4_bid_39 (n2 (hM 20 rfl)) (fun h39_23 => ?_)
        refine g_top (y := 2) (gup_at _ _ _ _) ?_
        refine g_if_ne (tgt := 81) (by first | omega | (simp only [inB, cellB, decide_eq_true_eq, decide_eq_false_iff_not] at *; omega)) dX4_bid_42 (by decide) (fun h42_24 => ?_) (fun h42_24 => absurd h42_24 (by omega))
        refine g_aload_n 0 dX4_bid_81 rfl rfl ?_
        refine g_getfi cf_5 0 rfl (by decide) (by decide) rfl (by decide) wf_X4_104 dX4_bid_82 (n2 (hM 20 rfl)) (fun h82_25 => ?_)
        refine g_top (y := 2) (gup_at _ _ _ _) ?_
        refine g_if_le (tgt := 90) (by first | omega | (simp only [inB, cellB, decide_eq_true_eq, decide_eq_false_iff_not] at *; omega)) dX4_bid_85 (by decide) (fun h85_26 => absurd h85_26 (by omega)) (fun h85_26 => ?_)
        refine g_iconst dX4_bid_88 ?_
        exact g_iret dX4_bid_89 rfl (Nat.le_of_ble_eq_true rfl) (Nat.le_of_ble_eq_true rfl) (pr_i (by first | (rw [show bidE B b x y = 0 from by simp only [bidE, inB, cellB, plC, plcC, decide_eq_true_eq, decide_eq_false_iff_not] at *; grind]; rfl) | (rw [show bidE B b (s : Int) y = 0 from by simp only [bidE, inB, cellB, plC, plcC, decide_eq_true_eq, decide_eq_false_iff_not] at *; grind]; rfl) | (rw [show bidE B b x y = 1 from by simp only [bidE, inB, cellB, plC, plcC, decide_eq_true_eq, decide_eq_false_iff_not] at *; grind]; rfl) | (rw [show bidE B b (s : Int) y = 1 from by simp only [bidE, inB, cellB, plC, plcC, decide_eq_true_eq, decide_eq_false_iff_not] at *; grind]; rfl) | (rw [show bidE B b x y = 2 from by simp only [bidE, inB, cellB, plC, plcC, decide_eq_true_eq, decide_eq_false_iff_not] at *; grind]; rfl) | (rw [show bidE B b (s : Int) y = 2 from by simp only [bidE, inB, cellB, plC, plcC, decide_eq_true_eq, decide_eq_false_iff_not] at *; grind]; rfl) | (rw [show bidE B b x y = 3 from by simp only [bidE, inB, cellB, plC, plcC, decide_eq_true_eq, decide_eq_false_iff_not] at *; grind]; rfl) | (rw [show bidE B b (s : Int) y = 3 from by simp only [bidE, inB, cellB, plC, plcC, decide_eq_true_eq, decide_eq_false_iff_not] at *; grind]; rfl)) (by first | (rw [show bidE B b x y = 0 from by simp only [bidE, inB, cellB, plC, plcC, decide_eq_true_eq, decide_eq_false_iff_not] at *; grind]; rfl) | (rw [show bidE B b (s : Int) y = 0 from by simp only [bidE, inB, cellB, plC, plcC, decide_eq_true_eq, decide_eq_false_iff_not] at *; grind]; rfl) | (rw [show bidE B b x y = 1 from by simp only [bidE, inB, cellB, plC, plcC, decide_eq_true_eq, decide_eq_false_iff_not] at *; grind]; rfl) | (rw [show bidE B b (s : Int) y = 1 from by simp only [bidE, inB, cellB, plC, plcC, decide_eq_true_eq, decide_eq_false_iff_not] at *; grind]; rfl) | (rw [show bidE B b x y = 2 from by simp only [bidE, inB, cellB, plC, plcC, decide_eq_true_eq, decide_eq_false_iff_not] at *; grind]; rfl) | (rw [show bidE B b (s : Int) y = 2 from by simp only [bidE, inB, cellB, plC, plcC, decide_eq_true_eq, decide_eq_false_iff_not] at *; grind]; rfl) | (rw [show bidE B b x y = 3 from by simp only [bidE, inB, cellB, plC, plcC, decide_eq_true_eq, decide_eq_false_iff_not] at *; grind]; rfl) | (rw [show bidE B b (s : Int) y = 3 from by simp only [bidE, inB, cellB, plC, plcC, decide_eq_true_eq, decide_eq_false_iff_not] at *; grind]; rfl)))
    · skip
      refine g_cV_i (My := mX4_isStone) (gs := [_]) (c_X4_isStone hM hV hR (by omega)) mfX4_isStone cf_5 wi_X4_isStone wsl_X4_isStone wm_X4_211 dX4_bid_10 (Nat.le_of_ble_eq_true rfl) rfl (by decide) (n2 (hM 20 rfl)) rfl (fun _ => Nat.le_of_ble_eq_true rfl) (Nat.le_of_ble_eq_true rfl) (Nat.le_of_ble_eq_true rfl) rfl rfl ?_
      refine g_top (y := 0) (by rw [decide_eq_false hs10]; rfl) ?_
      refine g_if_ne (tgt := 20) (by first | omega | (simp only [inB, cellB, decide_eq_true_eq, decide_eq_false_iff_not] at *; omega)) dX4_bid_13 (by decide) (fun h13_27 => absurd h13_27 (by omega)) (fun h13_27 => ?_)
      refine g_iconst dX4_bid_16 ?_
      refine g_goto (tgt := 35) dX4_bid_17 (by decide) ?_
      refine g_putfi cf_5 0 rfl (by decide) (by decide) rfl (by decide) wf_X4_104 (Or.inl rfl) rfl dX4_bid_35 (n2 (hM 20 rfl)) (by first | omega | (simp only [inB, cellB, decide_eq_true_eq, decide_eq_false_iff_not] at *; omega)) ?_
      refine g_aload_n 0 dX4_bid_38 rfl rfl ?_
      refine g_getfi cf_5 0 rfl (by decide) (by decide) rfl (by decide) wf_X4_104 dX4_bid_39 (n2 (hM 20 rfl)) (fun h39_28 => ?_)
      refine g_top (y := 1) (gup_at _ _ _ _) ?_
      refine g_if_ne (tgt := 81) (by first | omega | (simp only [inB, cellB, decide_eq_true_eq, decide_eq_false_iff_not] at *; omega)) dX4_bid_42 (by decide) (fun h42_29 => ?_) (fun h42_29 => absurd h42_29 (by omega))
      refine g_aload_n 0 dX4_bid_81 rfl rfl ?_
      refine g_getfi cf_5 0 rfl (by decide) (by decide) rfl (by decide) wf_X4_104 dX4_bid_82 (n2 (hM 20 rfl)) (fun h82_30 => ?_)
      refine g_top (y := 1) (gup_at _ _ _ _) ?_
      refine g_if_le (tgt := 90) (by first | omega | (simp only [inB, cellB, decide_eq_true_eq, decide_eq_false_iff_not] at *; omega)) dX4_bid_85 (by decide) (fun h85_31 => absurd h85_31 (by omega)) (fun h85_31 => ?_)
      refine g_iconst dX4_bid_88 ?_
      exact g_iret dX4_bid_89 rfl (Nat.le_of_ble_eq_true rfl) (Nat.le_of_ble_eq_true rfl) (pr_i (by first | (rw [show bidE B b x y = 0 from by simp only [bidE, inB, cellB, plC, plcC, decide_eq_true_eq, decide_eq_false_iff_not] at *; grind]; rfl) | (rw [show bidE B b (s : Int) y = 0 from by simp only [bidE, inB, cellB, plC, plcC, decide_eq_true_eq, decide_eq_false_iff_not] at *; grind]; rfl) | (rw [show bidE B b x y = 1 from by simp only [bidE, inB, cellB, plC, plcC, decide_eq_true_eq, decide_eq_false_iff_not] at *; grind]; rfl) | (rw [show bidE B b (s : Int) y = 1 from by simp only [bidE, inB, cellB, plC, plcC, decide_eq_true_eq, decide_eq_false_iff_not] at *; grind]; rfl) | (rw [show bidE B b x y = 2 from by simp only [bidE, inB, cellB, plC, plcC, decide_eq_true_eq, decide_eq_false_iff_not] at *; grind]; rfl) | (rw [show bidE B b (s : Int) y = 2 from by simp only [bidE, inB, cellB, plC, plcC, decide_eq_true_eq, decide_eq_false_iff_not] at *; grind]; rfl) | (rw [show bidE B b x y = 3 from by simp only [bidE, inB, cellB, plC, plcC, decide_eq_true_eq, decide_eq_false_iff_not] at *; grind]; rfl) | (rw [show bidE B b (s : Int) y = 3 from by simp only [bidE, inB, cellB, plC, plcC, decide_eq_true_eq, decide_eq_false_iff_not] at *; grind]; rfl)) (by first | (rw [show bidE B b x y = 0 from by simp only [bidE, inB, cellB, plC, plcC, decide_eq_true_eq, decide_eq_false_iff_not] at *; grind]; rfl) | (rw [show bidE B b (s : Int) y = 0 from by simp only [bidE, inB, cellB, plC, plcC, decide_eq_true_eq, decide_eq_false_iff_not] at *; grind]; rfl) | (rw [show bidE B b x y = 1 from by simp only [bidE, inB, cellB, plC, plcC, decide_eq_true_eq, decide_eq_false_iff_not] at *; grind]; rfl) | (rw [show bidE B b (s : Int) y = 1 from by simp only [bidE, inB, cellB, plC, plcC, decide_eq_true_eq, decide_eq_false_iff_not] at *; grind]; rfl) | (rw [show bidE B b x y = 2 from by simp only [bidE, inB, cellB, plC, plcC, decide_eq_true_eq, decide_eq_false_iff_not] at *; grind]; rfl) | (rw [show bidE B b (s : Int) y = 2 from by simp only [bidE, inB, cellB, plC, plcC, decide_eq_true_eq, decide_eq_false_iff_not] at *; grind]; rfl) | (rw [show bidE B b x y = 3 from by simp only [bidE, inB, cellB, plC, plcC, decide_eq_true_eq, decide_eq_false_iff_not] at *; grind]; rfl) | (rw [show bidE B b (s : Int) y = 3 from by simp only [bidE, inB, cellB, plC, plcC, decide_eq_true_eq, decide_eq_false_iff_not] at *; grind]; rfl)))
  · skip
    refine g_cS_i (My := mX4_isBuyer) (gs := [_]) (c_X4_isBuyer (by omega)) mfX4_isBuyer rfl wst_X4_isBuyer wm_X4_223 dX4_bid_2 (Nat.le_of_ble_eq_true rfl) rfl (fun _ => Nat.le_of_ble_eq_true rfl) (Nat.le_of_ble_eq_true rfl) (Nat.le_of_ble_eq_true rfl) rfl rfl ?_
    refine g_top (y := 0) (by first | (rw [decide_eq_false hs2]; rfl) | (rw [cellB, decide_eq_false hs2]; rfl)) ?_
    refine g_if_eq (tgt := 16) (by first | omega | (simp only [inB, cellB, decide_eq_true_eq, decide_eq_false_iff_not] at *; omega)) dX4_bid_5 (by decide) (fun h5_32 => ?_) (fun h5_32 => absurd h5_32 (by omega))
    refine g_iconst dX4_bid_16 ?_
    refine g_goto (tgt := 35) dX4_bid_17 (by decide) ?_
    refine g_putfi cf_5 0 rfl (by decide) (by decide) rfl (by decide) wf_X4_104 (Or.inl rfl) rfl dX4_bid_35 (n2 (hM 20 rfl)) (by first | omega | (simp only [inB, cellB, decide_eq_true_eq, decide_eq_false_iff_not] at *; omega)) ?_
    refine g_aload_n 0 dX4_bid_38 rfl rfl ?_
    refine g_getfi cf_5 0 rfl (by decide) (by decide) rfl (by decide) wf_X4_104 dX4_bid_39 (n2 (hM 20 rfl)) (fun h39_33 => ?_)
    refine g_top (y := 1) (gup_at _ _ _ _) ?_
    refine g_if_ne (tgt := 81) (by first | omega | (simp only [inB, cellB, decide_eq_true_eq, decide_eq_false_iff_not] at *; omega)) dX4_bid_42 (by decide) (fun h42_34 => ?_) (fun h42_34 => absurd h42_34 (by omega))
    refine g_aload_n 0 dX4_bid_81 rfl rfl ?_
    refine g_getfi cf_5 0 rfl (by decide) (by decide) rfl (by decide) wf_X4_104 dX4_bid_82 (n2 (hM 20 rfl)) (fun h82_35 => ?_)
    refine g_top (y := 1) (gup_at _ _ _ _) ?_
    refine g_if_le (tgt := 90) (by first | omega | (simp only [inB, cellB, decide_eq_true_eq, decide_eq_false_iff_not] at *; omega)) dX4_bid_85 (by decide) (fun h85_36 => absurd h85_36 (by omega)) (fun h85_36 => ?_)
    refine g_iconst dX4_bid_88 ?_
    exact g_iret dX4_bid_89 rfl (Nat.le_of_ble_eq_true rfl) (Nat.le_of_ble_eq_true rfl) (pr_i (by first | (rw [show bidE B b x y = 0 from by simp only [bidE, inB, cellB, plC, plcC, decide_eq_true_eq, decide_eq_false_iff_not] at *; grind]; rfl) | (rw [show bidE B b (s : Int) y = 0 from by simp only [bidE, inB, cellB, plC, plcC, decide_eq_true_eq, decide_eq_false_iff_not] at *; grind]; rfl) | (rw [show bidE B b x y = 1 from by simp only [bidE, inB, cellB, plC, plcC, decide_eq_true_eq, decide_eq_false_iff_not] at *; grind]; rfl) | (rw [show bidE B b (s : Int) y = 1 from by simp only [bidE, inB, cellB, plC, plcC, decide_eq_true_eq, decide_eq_false_iff_not] at *; grind]; rfl) | (rw [show bidE B b x y = 2 from by simp only [bidE, inB, cellB, plC, plcC, decide_eq_true_eq, decide_eq_false_iff_not] at *; grind]; rfl) | (rw [show bidE B b (s : Int) y = 2 from by simp only [bidE, inB, cellB, plC, plcC, decide_eq_true_eq, decide_eq_false_iff_not] at *; grind]; rfl) | (rw [show bidE B b x y = 3 from by simp only [bidE, inB, cellB, plC, plcC, decide_eq_true_eq, decide_eq_false_iff_not] at *; grind]; rfl) | (rw [show bidE B b (s : Int) y = 3 from by simp only [bidE, inB, cellB, plC, plcC, decide_eq_true_eq, decide_eq_false_iff_not] at *; grind]; rfl)) (by first | (rw [show bidE B b x y = 0 from by simp only [bidE, inB, cellB, plC, plcC, decide_eq_true_eq, decide_eq_false_iff_not] at *; grind]; rfl) | (rw [show bidE B b (s : Int) y = 0 from by simp only [bidE, inB, cellB, plC, plcC, decide_eq_true_eq, decide_eq_false_iff_not] at *; grind]; rfl) | (rw [show bidE B b x y = 1 from by simp only [bidE, inB, cellB, plC, plcC, decide_eq_true_eq, decide_eq_false_iff_not] at *; grind]; rfl) | (rw [show bidE B b (s : Int) y = 1 from by simp only [bidE, inB, cellB, plC, plcC, decide_eq_true_eq, decide_eq_false_iff_not] at *; grind]; rfl) | (rw [show bidE B b x y = 2 from by simp only [bidE, inB, cellB, plC, plcC, decide_eq_true_eq, decide_eq_false_iff_not] at *; grind]; rfl) | (rw [show bidE B b (s : Int) y = 2 from by simp only [bidE, inB, cellB, plC, plcC, decide_eq_true_eq, decide_eq_false_iff_not] at *; grind]; rfl) | (rw [show bidE B b x y = 3 from by simp only [bidE, inB, cellB, plC, plcC, decide_eq_true_eq, decide_eq_false_iff_not] at *; grind]; rfl) | (rw [show bidE B b (s : Int) y = 3 from by simp only [bidE, inB, cellB, plC, plcC, decide_eq_true_eq, decide_eq_false_iff_not] at *; grind]; rfl)))

