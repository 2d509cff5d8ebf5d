theorem n2 {x : Nat} (h : x = 2) : x ≠ 0 := by rw [h]; decide
theorem ly_c0 {k : Nat} (h : k < 12) : ly (100 + 3 * k) = (1, 10) := by
  unfold ly; rw [if_neg (by omega), if_pos (by omega), if_pos (by omega)]
theorem ly_c1 {k : Nat} (h : k < 12) : ly (101 + 3 * k) = (6, 8) := by
  unfold ly; rw [if_neg (by omega), if_pos (by omega), if_neg (by omega)]
theorem ly_c2 {k : Nat} (h : k < 12) : ly (102 + 3 * k) = (6, 8) := by
  unfold ly; rw [if_neg (by omega), if_pos (by omega), if_neg (by omega)]
theorem ly_s0 (k : Nat) : ly (200 + 3 * k) = (3, 11) := by
  unfold ly; rw [if_neg (by omega), if_neg (by omega), if_pos (by omega)]
theorem ly_s1 (k : Nat) : ly (201 + 3 * k) = (6, 5) := by
  unfold ly; rw [if_neg (by omega), if_neg (by omega), if_neg (by omega)]
theorem ly_s2 (k : Nat) : ly (202 + 3 * k) = (6, 5) := by
  unfold ly; rw [if_neg (by omega), if_neg (by omega), if_neg (by omega)]
theorem rfn_c8 (k : Nat) : rfn 1 (100 + 3 * k) 8 = 101 + 3 * k := by show 100 + 3 * k + 1 = _; omega
theorem rfn_c9 (k : Nat) : rfn 1 (100 + 3 * k) 9 = 102 + 3 * k := by show 100 + 3 * k + 2 = _; omega
theorem rfn_s9 (k : Nat) : rfn 3 (200 + 3 * k) 9 = 201 + 3 * k := by show 200 + 3 * k + 1 = _; omega
theorem rfn_s10 (k : Nat) : rfn 3 (200 + 3 * k) 10 = 202 + 3 * k := by show 200 + 3 * k + 2 = _; omega
def fxC (n : Nat) : Bool := decide (n < 18) && n != 4 && n != 5
def fxM (n : Nat) : Bool := n == 20 || (decide (23 ≤ n) && decide (n ≤ 55) && n != 30 && n != 44)
def LC (L : Nat → Nat) : Prop := ∀ n, fxC n = true → L n = 2
def LM (L : Nat → Nat) : Prop := ∀ n, fxM n = true → L n = 2
def LK (L : Nat → Nat) (nc : Int) : Prop := nc ≤ 12 ∧ ∀ k : Nat, (k : Int) < nc → L (100 + 3 * k) = 2 ∧ L (101 + 3 * k) = 2 ∧ L (102 + 3 * k) = 2
def LQ (L : Nat → Nat) (ns : Int) : Prop := ns ≤ 100 ∧ ∀ k : Nat, (k : Int) < ns → L (200 + 3 * k) = 2 ∧ L (201 + 3 * k) = 2 ∧ L (202 + 3 * k) = 2
section GF
variable {M : MD} {P : Pst} {kc ks pc : Nat} {ls : List (Nat × GV)} {st : List GV} {L : Nat → Nat} {A : Mem}
theorem g_getfr2 {ci N n r ix : Nat} {C : String} {T : u_T} {ty : Nat → FieldType} (hF : CFx ci C T N ty) (k : Nat) (hy : ly n = (ci, N)) (hc : ci < 6) (hk : k < N) (hr : rfk ci k = true) (h0 : ¬ (ci = 0 ∧ k = 1)) (hw : Cond.fieldLink M.y.cls ix (T k).1 (T k).2.1 (T k).2.2.1 ∈ WS) (hd : decode M.cc pc = .ok (.getfield ix, 3)) (hn : L n = 2) (hrn : rfn ci n k = r)
    (kk : GW M P kc ks (pc + 3) ls (gr r :: st) L A) : GW M P kc ks pc ls (gr n :: st) L A := g_getfr hF k hy hc hk hr h0 hw hd hn (by rw [hrn]; exact kk)
theorem g_sub {ls2 : List (Nat × GV)} (is : List Nat) (h : is.filterMap (fun i => ls[i]?) = ls2) (k : GW M P kc ks pc ls2 st L A) : GW M P kc ks pc ls st L A := by
  intro p l e R s m args below meth c D a0 L0 a H locs lsr Q F E1 E3 S hl
  refine k p l e R s m args below meth c D a0 L0 a H locs lsr Q F E1 E3 S (lv_sub hl is ?_)
  subst h
  unfold lv_pick
  rw [List.map_filterMap]
  congr 1
  funext i
  rw [List.getElem?_map]
end GF
