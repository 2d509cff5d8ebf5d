/-- a new cell, by a dead name -/
theorem SH_new {M : MD} {D : GD} {a0 L0 : Nat → Nat} {s : State} {a L : Nat → Nat} {A : Mem} {H H1 : Heap} {locs : List Loc} {n v : Nat} (S : SH M D a0 L0 s a L A H locs) (hfl : M.fl = true) (hn : L n = 0)
    (hc : va_at D.1 vwCl (H.size, gcell D (gset a n H.size) (gz A n) n) H1) (z : H1.size = H.size + 1) (oq : ∀ q : Nat, q < H.size → H1[q]? = H[q]?) (hcg : ∀ m, L m ≠ 0 → gcell D (gset a n H.size) (gz A n) m = gcell D a A m)
    (hv : v = 2 → ∀ k, k < (ly n).2 → rfk (ly n).1 k = false) :
    SH M D a0 L0 s (gset a n H.size) (gset L n v) (gz A n) H1 locs := by
  obtain ⟨⟨w1, w2, w3, w4⟩, hf, hag, hmo, hfl0, hva⟩ := S
  have hne : ∀ m, L m ≠ 0 → m ≠ n := fun m hm e => hm (by rw [e]; exact hn)
  have hlt : ∀ m, L m ≠ 0 → a m < H.size := fun m hm => va_at.lt (w1 m hm)
  have al : ∀ m, gset L n v m ≠ 0 → m ≠ n → L m ≠ 0 := fun m hm e => by rw [gset_ne e] at hm; exact hm
  refine ⟨⟨fun m hm => ?_, fun m k hm hk e => ?_, fun m k hm hk hr => ?_, fun m k => ?_⟩, fun m hm => ?_, fun m hm hy => ?_, fun m hm => ?_, fun h => absurd (h.symm.trans hfl) (by decide), ?_⟩
  · by_cases e : m = n
    · rw [e, gset_eq]; exact hc
    · rw [gset_ne e, hcg m (al m hm e)]
      exact va_at.kept (w1 m (al m hm e)) (oq _ (hlt m (al m hm e)))
  · by_cases e1 : m = n
    · by_cases e2 : k = n
      · rw [e1, e2]
      · rw [e1, gset_eq, gset_ne e2] at e; have := hlt k (al k hk e2); omega
    · by_cases e2 : k = n
      · rw [e2, gset_eq, gset_ne e1] at e; have := hlt m (al m hm e1); omega
      · rw [gset_ne e1, gset_ne e2] at e; exact w2 m k (al m hm e1) (al k hk e2) e
  · by_cases e : m = n
    · rw [e, gset_eq] at hm
      rw [e] at hk hr
      rw [hv hm k hk] at hr
      exact absurd hr (by decide)
    · rw [gset_ne e] at hm
      rw [gz_ne e]
      exact w3 m k hm hk hr
  · by_cases e : m = n
    · rw [e]; simp [gz]
    · rw [gz_ne e]; exact w4 m k
  · by_cases e : m = n
    · rw [e, gset_eq]; exact Or.inr hva.1
    · rw [gset_ne e]; exact hf m (al m hm e)
  · have e := hne m (hmo m hm)
    rw [gset_ne e]; exact hag m hm hy
  · rw [gset_ne (hne m (hmo m hm))]; exact hmo m hm
  · exact ⟨Nat.le_trans hva.1 (by omega), fun x h1 h2 => (oq x (Nat.lt_of_lt_of_le h1 hva.1)).trans (hva.2.1 x h1 h2), hva.2.2⟩
/-- an object is made wholly: its references stand -/
theorem SH_made {M : MD} {D : GD} {a0 L0 : Nat → Nat} {s : State} {a L : Nat → Nat} {A : Mem} {H : Heap} {locs : List Loc} {n : Nat} (S : SH M D a0 L0 s a L A H locs) (hfl : M.fl = true) (hn : L n ≠ 0) (hr : ∀ k, k < (ly n).2 → rfk (ly n).1 k = true → A n k ≠ 0) : SH M D a0 L0 s a (gset L n 2) A H locs := by
  obtain ⟨⟨w1, w2, w3, w4⟩, hf, hag, hmo, hfl0, hva⟩ := S
  have al : ∀ m, gset L n 2 m ≠ 0 → L m ≠ 0 := fun m hm => by
    by_cases e : m = n
    · rw [e]; exact hn
    · rw [gset_ne e] at hm; exact hm
  refine ⟨⟨fun m hm => w1 m (al m hm), fun m k hm hk e => w2 m k (al m hm) (al k hk) e, fun m k hm hk h9 => ?_, w4⟩, fun m hm => hf m (al m hm), hag, fun m hm => ?_, fun h => absurd (h.symm.trans hfl) (by decide), hva⟩
  · by_cases e : m = n
    · rw [e] at hk h9 ⊢; exact hr k hk h9
    · rw [gset_ne e] at hm; exact w3 m k hm hk h9
  · by_cases e : m = n
    · rw [e, gset_eq]; decide
    · rw [gset_ne e]; exact hmo m hm
/-- no cell that lives refers to the name n -/
def NoRef (L : Nat → Nat) (A : Mem) (n : Nat) : Prop := ∀ m, L m ≠ 0 → m ≠ n ∧ (∀ k, k < (ly m).2 → rfk (ly m).1 k = true → rfn (ly m).1 m k = n → A m k = 0) ∧ ((ly m).1 = 0 → m + 2 = n → A m 1 = 0 ∨ A m 1 = 1) ∧ ((ly m).1 = 9 → ∀ j : Nat, (j : Int) < A m 1 → eln m j ≠ n)
theorem gcell_new {D : GD} {a L : Nat → Nat} {A : Mem} {n q m : Nat} (h : NoRef L A n) (hm : L m ≠ 0) : gcell D (gset a n q) (gz A n) m = gcell D a A m := by
  obtain ⟨h0, h1, h2, h3⟩ := h m hm
  have ez : gz A n m = A m := gz_ne h0
  have ef : ∀ k, k < (ly m).2 → gfd D.2.2 (gset a n q) (gz A n) (ly m).1 m k = gfd D.2.2 a A (ly m).1 m k := by
    intro k hk
    unfold gfd
    rw [ez]
    by_cases c0 : (ly m).1 = 0 ∧ k = 1
    · rw [if_pos c0, if_pos c0]
      by_cases e1 : m + 2 = n
      · rcases h2 c0.1 e1 with e | e
        · rw [if_pos e, if_pos e]
        · rw [if_neg (by omega), if_pos e, if_neg (by omega), if_pos e]
      · rw [gset_ne e1]
    · rw [if_neg c0, if_neg c0]
      by_cases c1 : rfk (ly m).1 k = true
      · rw [if_pos c1, if_pos c1]
        by_cases e1 : rfn (ly m).1 m k = n
        · rw [if_pos (h1 k hk c1 e1), if_pos (h1 k hk c1 e1)]
        · rw [gset_ne e1]
      · rw [if_neg c1, if_neg c1]
  have em : ∀ c, (ly m).1 = c → (List.range (ly m).2).map (gfd D.2.2 (gset a n q) (gz A n) c m) = (List.range (ly m).2).map (gfd D.2.2 a A c m) := by
    intro c hc
    subst hc
    exact List.map_congr_left (fun k hk => ef k (List.mem_range.mp hk))
  have eg : (ly m).1 = 9 → grow_ (gset a n q) (gz A n) m = grow_ a A m := fun h9 => grow_c ez (fun j hj => gset_ne (h3 h9 j hj))
  unfold gcell
  rw [ez]
  split
  · rfl
  · rfl
  · rfl
  · rename_i h9; rw [eg h9]
  · rw [em _ rfl]
section GNEW
variable {M : MD} {P : Pst} {kc ks pc : Nat} {ls : List (Nat × GV)} {st : List GV} {L : Nat → Nat} {A : Mem}
theorem g_new {ci N n ix : Nat} {C : String} {T : u_T} {ty : Nat → FieldType} (hF : CFx ci C T N ty) (hy : ly n = (ci, N)) (hc : ci < 6) (hn : L n = 0) (hfl : M.fl = true) (hk1 : kc + 1 ≤ M.mc) (hk2 : ks + N ≤ M.ms) (hcl : Cond.classLink M.y.cls ix C ∈ WS) (hin : Cond.instantiable C N ∈ WS) (hit : Cond.initialized C ∈ WS) (hd : decode M.cc pc = .ok (.new ix, 3))
    (hdef : ∀ (eD : Nat) (a : Nat → Nat) j, j < N → defaultValue (ty j) = gfd eD a (gz A n) ci n j) (hnr : NoRef L A n) (hls : ∀ (a : Nat → Nat) (q : Nat), ls.map (fun w => (w.1, ev (gset a n q) w.2)) = ls.map fun w => (w.1, ev a w.2)) (hst : ∀ (a : Nat → Nat) (q : Nat), st.map (ev (gset a n q)) = st.map (ev a))
    (kk : GW M P (kc + 1) (ks + N) (pc + 3) ls (gr n :: st) (gset L n 1) (gz A n)) : GW M P kc ks pc ls st L A := by
  intro p l e R s m args below meth c D a0 L0 a H locs lsr Q F E1 E3 S hl
  obtain ⟨hx, hb, hml, hown, hws, hlocks, hrt, hnm, hlt, htab, hE, hR1, hR2, hR3, hR4⟩ := id F
  have hKn := hE.1.1 ci _ hF.1
  refine W.newcK hx hb hown (hws _ hcl) (hws _ hin) (hws _ hit) rfl hd (Nat.le_trans hk1 hR3) (Nat.le_trans hk2 hR4) hKn.2.1 rfl fun H1 kC hkC e1 z1 o1 => ?_
  have hob := u_born ty hws hF.2.1 hKn hkC e1 hF.2.2.1
  have hat : va_at D.1 vwCl (H.size, gcell D (gset a n H.size) (gz A n) n) H1 := by
    rw [gcell_o hy hc]
    refine ⟨_, hF.1, hob.to (fun j hj => ?_)⟩
    rw [hdef D.2.2 (gset a n H.size) j hj]
    simp [vp_V, List.getD, hj]
  have S1 := SH_new (v := 1) S hfl hn hat z1 o1 (fun m hm => gcell_new hnr hm) (fun h => absurd h (by decide))
  have k2 := kk p l e R s m args below meth c D a0 L0 (gset a n H.size) H1 locs lsr Q F E1 E3 S1 (by rw [hls]; exact hl)
  rw [List.map_cons, hst] at k2
  rw [show ev (gset a n H.size) (gr n) = .ref H.size from by show Value.ref (gset a n H.size n) = _; rw [gset_eq]] at k2
  exact k2
theorem g_made {n : Nat} (hfl : M.fl = true) (hn : L n ≠ 0) (hr : ∀ k, k < (ly n).2 → rfk (ly n).1 k = true → A n k ≠ 0) (kk : GW M P kc ks pc ls st (gset L n 2) A) : GW M P kc ks pc ls st L A := by
  intro p l e R s m args below meth c D a0 L0 a H locs lsr Q F E1 E3 S hl
  exact kk p l e R s m args below meth c D a0 L0 a H locs lsr Q F E1 E3 (SH_made S hfl hn hr) hl
theorem g_newi {n : Nat} {x : Int} (N : Nat) (hx : x = N) (hN : N ≤ 1000) (hy : ly n = (6, N)) (hn : L n = 0) (hfl : M.fl = true) (hk1 : kc + 1 ≤ M.mc) (hk2 : ks + N ≤ M.ms) (har : Cond.arrayClass .int ∈ WS) (hd : decode M.cc pc = .ok (.newarray .int, 2))
    (hnr : NoRef L A n) (hls : ∀ (a : Nat → Nat) (q : Nat), ls.map (fun w => (w.1, ev (gset a n q) w.2)) = ls.map fun w => (w.1, ev a w.2)) (hst : ∀ (a : Nat → Nat) (q : Nat), st.map (ev (gset a n q)) = st.map (ev a))
    (kk : GW M P (kc + 1) (ks + N) (pc + 2) ls (gr n :: st) (gset L n 2) (gz A n)) : GW M P kc ks pc ls (gi x :: st) L A := by
  intro p l e R s m args below meth c D a0 L0 a H locs lsr Q F E1 E3 S hl
  obtain ⟨hx0, hb, hml, hown, hws, hlocks, hrt, hnm, hlt, htab, hE, hR1, hR2, hR3, hR4⟩ := id F
  subst hx
  have hnn : (Int32.ofInt (N : Int)).toNatClampNeg = N := by
    unfold Int32.toNatClampNeg
    rw [Int32.toInt_ofInt_of_le (by omega) (by omega)]; omega
  refine va_newaK hx0 hb (atype := .int) (hws _ har) rfl hd rfl (by rw [Int32.lt_iff_toInt_lt, Int32.toInt_ofInt_of_le (by omega) (by omega)]; simp) hnn (by show N * 4 ≤ _; omega) (Nat.le_trans hk1 hR3) (Nat.le_trans hk2 hR4) rfl fun H1 cA e1 z1 o1 hAr hNm => ?_
  have hcA : cA = D.2.1.1 := Option.some.inj (hNm.symm.trans (hE.1.2 0 _ rfl).2)
  have hat : va_at D.1 vwCl (H.size, gcell D (gset a n H.size) (gz A n) n) H1 := by
    rw [gcell_i hy]
    show H1[H.size]? = some (vp_cell _ _)
    rw [vp_cell_i, e1, hcA]
    congr 2
    funext j
    simp [gz]
    rfl
  have S1 := SH_new (v := 2) S hfl hn hat z1 o1 (fun m hm => gcell_new hnr hm) (fun _ k _ => by rw [hy]; rfl)
  have k2 := kk p l e R s m args below meth c D a0 L0 (gset a n H.size) H1 locs lsr Q F E1 E3 S1 (by rw [hls]; exact hl)
  rw [List.map_cons, hst] at k2
  rw [show ev (gset a n H.size) (gr n) = .ref H.size from by show Value.ref (gset a n H.size n) = _; rw [gset_eq]] at k2
  exact k2
end GNEW

