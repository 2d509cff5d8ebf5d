theorem arrV_cg {cA : ClassId} {N : Nat} {f g : Nat → Value} (h : ∀ j, j < N → f j = g j) : arrV cA N f = arrV cA N g := by
  unfold arrV
  congr 1
  congr 1
  funext j
  exact h j.val j.isLt
section GGH
variable {X : State → (Nat → Nat) → Prop} {M : MD} {P : Pst} {kc ks pc : Nat} {ls : List (Nat × GV)} {st : List GV} {L : Nat → Nat} {A A' : Mem}
/-- what is beyond a row's places is free -/
theorem x_gh {n N : Nat} (hy : ly n = (6, N)) (h : ∀ m, m ≠ n → A' m = A m) (hj : ∀ j, j < N → A' n j = A n j) (hr : ∀ j, -2147483648 ≤ A' n j ∧ A' n j < 2147483648) (k : GX X M P kc ks pc ls st L A') : GX X M P kc ks pc ls st L A := by
  intro p l e R s m args below meth c D a0 L0 a H locs lsr Q XX F E1 E3 S hl
  refine k p l e R s m args below meth c D a0 L0 a H locs lsr Q XX F E1 E3 ?_ hl
  obtain ⟨⟨w1, w2, w3, w4⟩, hf, hag, hmo, hfl, hva⟩ := S
  refine ⟨⟨fun q hq => ?_, w2, fun q j hq hk h9 => ?_, fun q j => ?_⟩, hf, hag, hmo, hfl, hva⟩
  · by_cases e : q = n
    · subst e
      have h1 := w1 q hq
      rw [gcell_i hy] at h1 ⊢
      have h2 : H[a q]? = some (arrV D.2.1.1 N (fun j => .int (Int32.ofInt (A q j)))) := h1
      show H[a q]? = some (arrV D.2.1.1 N (fun j => .int (Int32.ofInt (A' q j))))
      rw [h2]
      exact congrArg some (arrV_cg (fun j hj2 => by rw [hj j hj2]))
    · rw [gcell_c (h q e)]; exact w1 q hq
  · by_cases e : q = n
    · subst e; rw [hy] at h9; exact absurd h9 (by simp [rfk])
    · rw [h q e]; exact w3 q j hq hk h9
  · by_cases e : q = n
    · subst e; exact hr j
    · rw [h q e]; exact w4 q j
end GGH
/-- the memory at the law's first call -/
def iniA : Mem := fun m j => if m = 17 ∨ m = 28 then -1 else if (m = 9 ∨ m = 55) ∧ j < 5 then 20000 else if m = 0 ∧ j < 9 then 1 else if m = 1 ∧ j < 6 then 1 else if (m = 2 ∨ m = 3) ∧ j = 1 then 1 else if m = 20 ∧ j < 37 ∧ rfk 5 j = true then 1 else 0
def iniL : Nat → Nat := gset (gset (gsL (gset (clsL (gset (fun _ => 0) 0 1)) 20 1) 21 5 37) 20 2) 18 2
theorem iniL_C : LC iniL := fun n hn => by
  have h : n < 18 ∧ n ≠ 4 ∧ n ≠ 5 := by unfold fxC at hn; simp at hn; omega
  rcases (show n = 0 ∨ n = 1 ∨ n = 2 ∨ n = 3 ∨ n = 6 ∨ n = 7 ∨ n = 8 ∨ n = 9 ∨ n = 10 ∨ n = 11 ∨ n = 12 ∨ n = 13 ∨ n = 14 ∨ n = 15 ∨ n = 16 ∨ n = 17 by omega) with rfl | rfl | rfl | rfl | rfl | rfl | rfl | rfl | rfl | rfl | rfl | rfl | rfl | rfl | rfl | rfl <;> rfl
theorem iniL_M : LM iniL := fun n hn => by
  have h : n = 20 ∨ (23 ≤ n ∧ n ≤ 55 ∧ n ≠ 30 ∧ n ≠ 44) := by unfold fxM at hn; simp at hn; omega
  rcases (show n = 20 ∨ n = 23 ∨ n = 24 ∨ n = 25 ∨ n = 26 ∨ n = 27 ∨ n = 28 ∨ n = 29 ∨ n = 31 ∨ n = 32 ∨ n = 33 ∨ n = 34 ∨ n = 35 ∨ n = 36 ∨ n = 37 ∨ n = 38 ∨ n = 39 ∨ n = 40 ∨ n = 41 ∨ n = 42 ∨ n = 43 ∨ n = 45 ∨ n = 46 ∨ n = 47 ∨ n = 48 ∨ n = 49 ∨ n = 50 ∨ n = 51 ∨ n = 52 ∨ n = 53 ∨ n = 54 ∨ n = 55 by omega) with rfl | rfl | rfl | rfl | rfl | rfl | rfl | rfl | rfl | rfl | rfl | rfl | rfl | rfl | rfl | rfl | rfl | rfl | rfl | rfl | rfl | rfl | rfl | rfl | rfl | rfl | rfl | rfl | rfl | rfl | rfl | rfl <;> rfl
theorem iniL_d {n : Nat} (h : 58 ≤ n) : iniL n = 0 := by
  unfold iniL clsL
  rw [gset_ne (by omega), gset_ne (by omega)]
  unfold gsL
  rw [if_neg (by omega)]
  repeat rw [gset_ne (by omega)]
  rw [if_neg (by omega)]
  repeat rw [gset_ne (by omega)]
theorem ini_0 {m : Nat} (h : m ≠ 17 ∧ m ≠ 28 ∧ m ≠ 9 ∧ m ≠ 55 ∧ m ≠ 0 ∧ m ≠ 1 ∧ m ≠ 2 ∧ m ≠ 3 ∧ m ≠ 20) (j : Nat) : iniA m j = 0 := by
  unfold iniA
  rw [if_neg (by omega), if_neg (by omega), if_neg (by omega), if_neg (by omega), if_neg (by omega), if_neg (by omega)]
theorem LI_ini : LI 0 iniL iniA := by
  have z : ∀ m, (m ≠ 17 ∧ m ≠ 28 ∧ m ≠ 9 ∧ m ≠ 55 ∧ m ≠ 0 ∧ m ≠ 1 ∧ m ≠ 2 ∧ m ≠ 3 ∧ m ≠ 20) → ∀ j, iniA m j = 0 := fun m h j => ini_0 h j
  have e17 : ∀ j, iniA 17 j = -1 := fun j => by unfold iniA; rw [if_pos (by omega)]
  have e28 : ∀ j, iniA 28 j = -1 := fun j => by unfold iniA; rw [if_pos (by omega)]
  have e9 : ∀ j, iniA 9 j = if j < 5 then 20000 else 0 := fun j => by
    unfold iniA
    rw [if_neg (by omega)]
    by_cases h : j < 5
    · rw [if_pos (by omega), if_pos h]
    · rw [if_neg (by omega), if_neg h, if_neg (by omega), if_neg (by omega), if_neg (by omega), if_neg (by omega)]
  have e55 : ∀ j, iniA 55 j = if j < 5 then 20000 else 0 := fun j => by
    unfold iniA
    rw [if_neg (by omega)]
    by_cases h : j < 5
    · rw [if_pos (by omega), if_pos h]
    · rw [if_neg (by omega), if_neg h, if_neg (by omega), if_neg (by omega), if_neg (by omega), if_neg (by omega)]
  have e22 : iniA 2 2 = 0 := rfl
  have e32 : iniA 3 2 = 0 := rfl
  have e09 : iniA 0 9 = 0 := rfl
  have hsum : sumF (iniA 6) 8 + sumF (iniA 9) 5 = 100000 := by decide +kernel
  have hs13 : ∀ n, sumF (iniA 13) n = 0 := fun n => sumF_0 _ _ (fun i _ => z 13 (by omega) i)
  refine ⟨⟨iniL_C, ?_, ?_, ?_, ?_, ?_, ?_, ?_, ?_⟩, ?_, ?_, ?_, ?_, iniL_M, rfl, ?_⟩
  · rw [e22]; omega
  · rw [e32]; omega
  · intro h; rw [e22] at h; exact absurd h (by decide)
  · intro h; rw [e32] at h; exact absurd h (by decide)
  · intro k hk; rw [e22] at hk; omega
  · intro s hs; rw [e32] at hs; omega
  · refine ⟨fun j => ?_, fun j => ?_, fun j => ?_, fun j => ?_, fun j => ?_, fun j => ?_⟩
    · rw [z 12 (by omega)]; omega
    · rw [z 13 (by omega)]; omega
    · rw [z 14 (by omega)]; omega
    · rw [z 15 (by omega)]; omega
    · rw [z 16 (by omega)]; omega
    · rw [e17]; omega
  · refine ⟨by rw [e09]; omega, fun j => ?_, fun j => ?_, fun j => ?_, fun j => ?_⟩
    · rw [z 6 (by omega)]; omega
    · rw [z 7 (by omega)]; omega
    · rw [z 8 (by omega)]; omega
    · rw [e9]; split <;> omega
  · refine ⟨fun n q1 q2 => ⟨iniL_d (by omega), fun j => z n (by omega) j⟩, fun n q => ⟨iniL_d (by omega), fun j => z n (by omega) j⟩, fun _ => ⟨rfl, rfl, rfl, rfl, fun j => z 4 (by omega) j⟩, fun _ => ⟨rfl, rfl, rfl, rfl, fun j => z 5 (by omega) j⟩, fun h => ?_, fun h => ?_, rfl, rfl⟩
    · rw [e22] at h; exact absurd h (by decide)
    · rw [e32] at h; exact absurd h (by decide)
  · refine ⟨fun j _ => z 16 (by omega) j, fun j h => ?_, ?_, hsum, fun k hk => ?_, fun s hs => ?_, fun j _ => ⟨z 14 (by omega) j, e17 j⟩⟩
    · rw [z 14 (by omega)] at h; exact absurd h (by decide)
    · rw [e32, cntF_0 _ _ (fun i _ => by rw [z 14 (by omega)]; rfl), cntF_0 _ _ (fun i _ => by rw [z 13 (by omega)]; rfl)]; decide
    · rw [e22] at hk; omega
    · rw [e32] at hs; omega
  · intro j; rw [e17, e22]; omega
  · have zz : ∀ m n, (m ≠ 17 ∧ m ≠ 28 ∧ m ≠ 9 ∧ m ≠ 55 ∧ m ≠ 0 ∧ m ≠ 1 ∧ m ≠ 2 ∧ m ≠ 3 ∧ m ≠ 20) → (n ≠ 17 ∧ n ≠ 28 ∧ n ≠ 9 ∧ n ≠ 55 ∧ n ≠ 0 ∧ n ≠ 1 ∧ n ≠ 2 ∧ n ≠ 3 ∧ n ≠ 20) → iniA m = iniA n := fun m n h1 h2 => by funext j; rw [z m h1, z n h2]
    refine rel_mk ⟨rfl, rfl, rfl, zz 23 12 (by omega) (by omega), zz 24 14 (by omega) (by omega), zz 25 15 (by omega) (by omega), fun c => ?_, zz 27 16 (by omega) (by omega), ?_, zz 40 7 (by omega) (by omega), zz 41 6 (by omega) (by omega), zz 42 8 (by omega) (by omega), ?_, ?_, ?_⟩ ?_ ?_ ?_ ?_
    · rw [z 26 (by omega), z 13 (by omega)]; rfl
    · funext j; rw [e28, e17]
    · funext j; rw [e55, e9]
    · rw [hs13]; rfl
    · rw [e32]; rfl
    · intro k hk; rw [e22] at hk; omega
    · intro k _; exact ⟨z 37 (by omega) k, fun p _ => z 38 (by omega) _⟩
    · intro s hs; rw [e32] at hs; omega
    · intro s _; exact ⟨z 47 (by omega) s, z 52 (by omega) s, fun b _ => ⟨z 53 (by omega) _, z 54 (by omega) _⟩⟩
  · intro p; rw [z 8 (by omega)]; omega
/-- the memory that the constructors leave -/
def bornA : Mem := refA (clsA (fun _ _ => 0))
theorem filA_ap (A : Mem) (n : Nat) (v : Int) (i m j : Nat) : filA A n v i m j = if m = n ∧ j < i then v else A m j := by
  by_cases e : m = n
  · subst e; rw [filA_v]; simp
  · rw [filA_ne _ _ _ _ e]; simp [e]
set_option maxHeartbeats 4000000 in
theorem bornA_v (m j : Nat) (h : m ≠ 17 ∧ m ≠ 28) : bornA m j = iniA m j := by
  unfold bornA refA clsA iniA
  simp only [filA_ap, gsA, gup_ap]
  rcases Nat.lt_or_ge m 56 with h5 | h5
  · rcases (show m = 0 ∨ m = 1 ∨ m = 2 ∨ m = 3 ∨ m = 4 ∨ m = 5 ∨ m = 6 ∨ m = 7 ∨ m = 8 ∨ m = 9 ∨ m = 10 ∨ m = 11 ∨ m = 12 ∨ m = 13 ∨ m = 14 ∨ m = 15 ∨ m = 16 ∨ m = 17 ∨ m = 18 ∨ m = 19 ∨ m = 20 ∨ m = 21 ∨ m = 22 ∨ m = 23 ∨ m = 24 ∨ m = 25 ∨ m = 26 ∨ m = 27 ∨ m = 28 ∨ m = 29 ∨ m = 30 ∨ m = 31 ∨ m = 32 ∨ m = 33 ∨ m = 34 ∨ m = 35 ∨ m = 36 ∨ m = 37 ∨ m = 38 ∨ m = 39 ∨ m = 40 ∨ m = 41 ∨ m = 42 ∨ m = 43 ∨ m = 44 ∨ m = 45 ∨ m = 46 ∨ m = 47 ∨ m = 48 ∨ m = 49 ∨ m = 50 ∨ m = 51 ∨ m = 52 ∨ m = 53 ∨ m = 54 ∨ m = 55 by omega) with rfl | rfl | rfl | rfl | rfl | rfl | rfl | rfl | rfl | rfl | rfl | rfl | rfl | rfl | rfl | rfl | rfl | rfl | rfl | rfl | rfl | rfl | rfl | rfl | rfl | rfl | rfl | rfl | rfl | rfl | rfl | rfl | rfl | rfl | rfl | rfl | rfl | rfl | rfl | rfl | rfl | rfl | rfl | rfl | rfl | rfl | rfl | rfl | rfl | rfl | rfl | rfl | rfl | rfl | rfl | rfl <;> first | (exact absurd rfl h.1) | (exact absurd rfl h.2) | (simp; done) | (simp [rfk]; done) | (simp; repeat' split <;> omega) | (simp; grind)
  · rw [if_neg (by omega), if_neg (by omega), if_neg (by omega), if_neg (by omega), if_neg (by omega), if_neg (by omega)]
    repeat rw [if_neg (by omega)]
theorem bornA_17 {j : Nat} (h : j < 100) : bornA 17 j = -1 := by
  unfold bornA refA clsA
  simp only [filA_ap, gsA, gup_ap]
  simp [h]
theorem bornA_28 {j : Nat} (h : j < 100) : bornA 28 j = -1 := by
  unfold bornA refA clsA
  simp only [filA_ap, gsA, gup_ap]
  simp [h]

