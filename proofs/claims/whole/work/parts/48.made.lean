set_option maxRecDepth 100000 in
theorem ly_low3 : ∀ m, m < 100 → ((ly m).1 = 2 → m = 1) ∧ ((ly m).1 = 4 → m = 0) ∧ ((ly m).1 = 5 → m = 20) := by decide +kernel
/-- who refers to a low name -/
theorem rf_own {m k : Nat} (hm : m < 100) (hk : k < (ly m).2) (h : rfk (ly m).1 k = true) : (m = 1 ∧ k < 6 ∧ rfn (ly m).1 m k = 12 + k) ∨ (m = 20 ∧ rfn (ly m).1 m k = 21 + k) ∨ (m = 0 ∧ rfn (ly m).1 m k = [1, 2, 3, 6, 7, 8, 9, 10, 11].getD k 0 ∧ k < 9) := by
  have h1 := ly_low1 m hm
  have h2 := ly_low2 m hm
  have h3 := ly_low3 m hm
  generalize hc : (ly m).1 = c at *
  match c, hc, h, h1, h2, h3 with
  | 0, _, h, _, _, _ => exact absurd h (by simp [rfk])
  | 1, _, _, h1, _, _ => exact absurd rfl h1.1
  | 2, _, _, _, h2, h3 => exact Or.inl ⟨h3.1 rfl, by rw [h2.1 rfl] at hk; exact hk, rfl⟩
  | 3, _, _, h1, _, _ => exact absurd rfl h1.2.1
  | 4, _, h, _, h2, h3 => exact Or.inr (Or.inr ⟨h3.2.1 rfl, rfl, by
      rw [h2.2.1 rfl] at hk
      have : k ≠ 9 := fun e => absurd h (by rw [e]; decide)
      omega⟩)
  | 5, _, _, _, _, h3 => exact Or.inr (Or.inl ⟨h3.2.2 rfl, rfl⟩)
  | c + 6, _, h, _, _, _ => exact absurd h (by simp [rfk])
def ownF (n : Nat) : Nat × Nat := if 21 ≤ n then (20, n - 21) else if 12 ≤ n then (1, n - 12) else (0, if n < 4 then n - 1 else n - 3)
theorem nr_low {L : Nat → Nat} {A : Mem} {n : Nat} (hP : ∀ m, L m ≠ 0 → m < 100 ∧ m ≠ 4 ∧ m ≠ 5) (h0 : L n = 0) (hn : n ≠ 4 ∧ n ≠ 5) (ho : A (ownF n).1 (ownF n).2 = 0) : NoRef L A n := by
  intro m hm
  obtain ⟨hm1, hm4, hm5⟩ := hP m hm
  refine ⟨fun e => hm (by rw [e]; exact h0), fun k hk hr he => ?_, fun h9 h8 => ?_, fun h9 => ?_⟩
  · rcases rf_own hm1 hk hr with ⟨h1, h6, h2⟩ | ⟨h1, h2⟩ | ⟨h1, h2, h3⟩
    · have e : ownF n = (1, k) := by unfold ownF; rw [if_neg (by omega), if_pos (by omega), show n - 12 = k by omega]
      rw [e] at ho; rw [h1]; exact ho
    · have e : ownF n = (20, k) := by unfold ownF; rw [if_pos (by omega), show n - 21 = k by omega]
      rw [e] at ho; rw [h1]; exact ho
    · have e : ownF n = (0, k) := by
        rw [h2] at he
        rcases (show k = 0 ∨ k = 1 ∨ k = 2 ∨ k = 3 ∨ k = 4 ∨ k = 5 ∨ k = 6 ∨ k = 7 ∨ k = 8 by omega) with rfl | rfl | rfl | rfl | rfl | rfl | rfl | rfl | rfl <;> subst he <;> rfl
      rw [e] at ho; rw [h1]; exact ho
  · rcases (ly_low1 m hm1).2.2.2 h9 with e | e
    · exact absurd (by omega) hn.1
    · exact absurd (by omega) hn.2
  · rcases (ly_low1 m hm1).2.2.1 h9 with e | e
    · exact absurd e hm4
    · exact absurd e hm5
theorem gz_id {A : Mem} {n : Nat} (h : ∀ j, A n j = 0) : gz A n = A := by funext m j; by_cases e : m = n <;> simp [gz, e, h]
/-- an object's rows up to the field b stand -/
def gsA (A : Mem) (o c b : Nat) : Mem := fun m j => if m = o ∧ j < b ∧ rfk c j = true then 1 else A m j
def gsL (L : Nat → Nat) (B c b : Nat) : Nat → Nat := fun m => if B ≤ m ∧ m < B + b ∧ rfk c (m - B) = true then 2 else L m
theorem gsA_0 (A : Mem) (o c : Nat) : gsA A o c 0 = A := by funext m j; simp [gsA]
theorem gsL_0 (L : Nat → Nat) (B c : Nat) : gsL L B c 0 = L := by funext m; unfold gsL; rw [if_neg (by omega)]
theorem gsA_no {A : Mem} {o c b : Nat} (h : rfk c b = false) : gsA A o c (b + 1) = gsA A o c b := by
  funext m j
  unfold gsA
  by_cases e : j = b
  · subst e; simp [h]
  · by_cases hx : m = o ∧ j < b ∧ rfk c j = true
    · rw [if_pos hx, if_pos ⟨hx.1, by omega, hx.2.2⟩]
    · rw [if_neg hx, if_neg (fun q => hx ⟨q.1, by omega, q.2.2⟩)]
theorem gsL_no {L : Nat → Nat} {B c b : Nat} (h : rfk c b = false) : gsL L B c (b + 1) = gsL L B c b := by
  funext m
  unfold gsL
  by_cases e : m = B + b
  · subst e
    rw [if_neg (fun q => by have := q.2.2; rw [Nat.add_sub_cancel_left, h] at this; cases this), if_neg (fun q => by omega)]
  · by_cases hx : B ≤ m ∧ m < B + b ∧ rfk c (m - B) = true
    · rw [if_pos hx, if_pos ⟨hx.1, by omega, hx.2.2⟩]
    · rw [if_neg hx, if_neg (fun q => hx ⟨q.1, by omega, q.2.2⟩)]
theorem gsA_yes {A : Mem} {o c b : Nat} (h : rfk c b = true) : gup (gsA A o c b) o b 1 = gsA A o c (b + 1) := by
  funext m j
  rw [gup_ap]
  unfold gsA
  by_cases e : m = o ∧ j = b
  · rw [if_pos e, if_pos ⟨e.1, by omega, by rw [e.2]; exact h⟩]
  · rw [if_neg e]
    by_cases hx : m = o ∧ j < b ∧ rfk c j = true
    · rw [if_pos hx, if_pos ⟨hx.1, by omega, hx.2.2⟩]
    · rw [if_neg hx, if_neg (fun q => hx ⟨q.1, by omega, q.2.2⟩)]
theorem gsL_yes {L : Nat → Nat} {B c b : Nat} (h : rfk c b = true) : gset (gsL L B c b) (B + b) 2 = gsL L B c (b + 1) := by
  funext m
  unfold gset gsL
  by_cases e : m = B + b
  · rw [if_pos e, if_pos ⟨by omega, by omega, by rw [e, Nat.add_sub_cancel_left]; exact h⟩]
  · rw [if_neg e]
    by_cases hx : B ≤ m ∧ m < B + b ∧ rfk c (m - B) = true
    · rw [if_pos hx, if_pos ⟨hx.1, by omega, hx.2.2⟩]
    · rw [if_neg hx, if_neg (fun q => hx ⟨q.1, by omega, q.2.2⟩)]
theorem gsA_ne {A : Mem} {o c b n : Nat} (h : n ≠ o) : gsA A o c b n = A n := by funext j; simp [gsA, h]
section GAR
variable {M : MD} {P : Pst} {kc ks pc : Nat} {ls : List (Nat × GV)} {st : List GV} {L : Nat → Nat} {A : Mem}
theorem g_newz2 {n : Nat} {x : Int} (N : Nat) (hx : x = N) (hN : N ≤ 1000) (hy : ly n = (7, N)) (hn : L n = 0) (hfl : M.fl = true) (hk1 : kc + 1 ≤ M.mc) (hk2 : ks + N ≤ M.ms) (har : Cond.arrayClass .boolean ∈ WS) (hd : decode M.cc pc = .ok (.newarray .boolean, 2))
    (hnr : NoRef L A n) (hok : (∀ q ∈ ls, okv L q.2) ∧ ∀ v ∈ st, okv L v)
    (kk : GW M P (kc + 1) (ks + N) (pc + 2) ls (gr n :: st) (gset L n 2) (gz A n)) : GW M P kc ks pc ls (gi x :: st) L A := by
  intro p l e R s m args below meth c D a0 L0 a H locs lsr Q F E1 E3 S hl
  obtain ⟨hx0, hb, hml, hown, hws, hlocks, hrt, hnm, hlt, htab, hE, hR1, hR2, hR3, hR4⟩ := id F
  subst hx
  have hnn : (Int32.ofInt (N : Int)).toNatClampNeg = N := by
    unfold Int32.toNatClampNeg
    rw [Int32.toInt_ofInt_of_le (by omega) (by omega)]; omega
  refine va_newaK hx0 hb (atype := .boolean) (hws _ har) rfl hd rfl (by rw [Int32.lt_iff_toInt_lt, Int32.toInt_ofInt_of_le (by omega) (by omega)]; simp) hnn (by show N * 1 ≤ _; omega) (Nat.le_trans hk1 hR3) (Nat.le_trans hk2 hR4) rfl fun H1 cA e1 z1 o1 hAr hNm => ?_
  have hcA : cA = D.2.1.2.1 := Option.some.inj (hNm.symm.trans (hE.1.2 1 _ rfl).2)
  have hat : va_at D.1 vwCl (H.size, gcell D (gset a n H.size) (gz A n) n) H1 := by
    rw [gcell_z hy]
    show H1[H.size]? = some (vp_cell _ _)
    rw [vp_cell_i, e1, hcA]
    congr 2
    funext j
    simp [gz]
    rfl
  have S1 := SH_new (v := 2) S hfl hn hat z1 o1 (fun m hm => gcell_new hnr hm) (fun _ k _ => by rw [hy]; rfl)
  have k2 := kk p l e R s m args below meth c D a0 L0 (gset a n H.size) H1 locs lsr Q F E1 E3 S1 (by rw [List.map_congr_left (fun w hw => by rw [okv_ev hn (hok.1 w hw)])]; exact hl)
  rw [List.map_cons, List.map_congr_left (fun w hw => okv_ev hn (hok.2 w hw))] at k2
  rw [show ev (gset a n H.size) (gr n) = .ref H.size from by show Value.ref (gset a n H.size n) = _; rw [gset_eq]] at k2
  exact k2
/-- a reference field that is set, of an object that is being made -/
theorem g_getfr1 {ci N n ix : Nat} {C : String} {T : u_T} {ty : Nat → FieldType} (hF : CFx ci C T N ty) (k : Nat) (hy : ly n = (ci, N)) (hc : ci < 6) (hk : k < N) (hr : rfk ci k = true) (h0 : ¬ (ci = 0 ∧ k = 1)) (hw : Cond.fieldLink M.y.cls ix (T k).1 (T k).2.1 (T k).2.2.1 ∈ WS) (hd : decode M.cc pc = .ok (.getfield ix, 3)) (hn : L n ≠ 0) (hz : A n k ≠ 0)
    (kk : GW M P kc ks (pc + 3) ls (gr (rfn ci n k) :: st) L A) : GW M P kc ks pc ls (gr n :: st) L A := by
  intro p l e R s m args below meth c D a0 L0 a H locs lsr Q F E1 E3 S hl
  have k2 := kk p l e R s m args below meth c D a0 L0 a H locs lsr Q F E1 E3 S hl
  refine va_get (q0 := 0) F.1 F.2.1 F.2.2.2.2.1 hF.2.1 F.2.2.2.1 F.2.2.2.2.2.2.2.2.2.2.1.1 (Wd_one S.1 hn (gcell_o hy hc)) rfl hF.1 k hk (F.2.2.2.2.1 _ hw) (fun _ h => h) (v := .ref (a (rfn ci n k))) ?_ hd k2
  rw [List.getElem?_map, List.getElem?_range hk]
  simp only [Option.map_some, gfd, if_neg h0, hr, if_true, if_neg hz]
/-- a new row goes into the object's next field -/
theorem g_arr {ci N0 o B k N cd : Nat} {ix : Nat} {C : String} {T : u_T} {ty : Nat → FieldType} (hF : CFx ci C T N0 ty) (hyo : ly o = (ci, N0)) (hy : ly (B + k) = (cd, N)) (hcd : (cd = 6 ∧ decode M.cc pc = .ok (.newarray .int, 2)) ∨ (cd = 7 ∧ decode M.cc pc = .ok (.newarray .boolean, 2))) (hc : ci < 6) (hc0 : ci ≠ 0) (hk : k < N0) (hr : rfk ci k = true) (hrn : rfn ci o k = B + k) (hN : N ≤ 1000)
    (hP : ∀ m, L m ≠ 0 → m < 100 ∧ m ≠ 4 ∧ m ≠ 5) (hB : B + 40 ≤ 100) (hB5 : 5 < B) (hk40 : k < 40) (hL0 : L (B + k) = 0) (hLo : L o ≠ 0) (hoB : o < B) (hz : ∀ j, A (B + k) j = 0) (how : ownF (B + k) = (o, k)) (hok0 : A o k = 0)
    (hfl : M.fl = true) (hk1 : kc + 1 ≤ M.mc) (hk2 : ks + N ≤ M.ms) (hd2 : decode M.cc (pc + 2) = .ok (.putfield ix, 3)) (hw : Cond.fieldLink M.y.cls ix (T k).1 (T k).2.1 (T k).2.2.1 ∈ WS) (hfin : (T k).2.2.2 = false ∨ ((T k).2.2.2 = true ∧ M.y.name = "<init>" ∧ (T k).1 = M.y.cls)) (hty : (∃ t, ty k = .object t) ∨ ∃ t, ty k = .array t)
    (kk : GW M P (kc + 1) (ks + N) (pc + 5) [(0, gr o)] [] (gsL L B ci (k + 1)) (gsA A o ci (k + 1))) : GW M P kc ks pc [(0, gr o)] [gi N, gr o] (gsL L B ci k) (gsA A o ci k) := by
  have hLk : gsL L B ci k (B + k) = 0 := by unfold gsL; rw [if_neg (by omega)]; exact hL0
  have hLo2 : gsL L B ci k o ≠ 0 := by unfold gsL; rw [if_neg (by omega)]; exact hLo
  have hP2 : ∀ m, gsL L B ci k m ≠ 0 → m < 100 ∧ m ≠ 4 ∧ m ≠ 5 := fun m hm => by
    unfold gsL at hm
    split at hm
    · omega
    · exact hP m hm
  have hnr : NoRef (gsL L B ci k) (gsA A o ci k) (B + k) := nr_low hP2 hLk (by omega) (by rw [how]; show gsA A o ci k o k = 0; unfold gsA; rw [if_neg (by omega)]; exact hok0)
  have ez : gz (gsA A o ci k) (B + k) = gsA A o ci k := gz_id (fun j => by rw [gsA_ne (by omega)]; exact hz j)
  have hokv : (∀ q ∈ [(0, gr o)], okv (gsL L B ci k) q.2) ∧ ∀ v ∈ [gr o], okv (gsL L B ci k) v := by
    have h9 : okv (gsL L B ci k) (gr o) := okv_r hLo2 (by rw [hyo]; show ci ≠ 9; omega)
    exact ⟨by simp only [List.forall_mem_cons]; exact ⟨h9, fun _ h => absurd h List.not_mem_nil⟩, by simp only [List.forall_mem_cons]; exact ⟨h9, fun _ h => absurd h List.not_mem_nil⟩⟩
  have k2 : GW M P (kc + 1) (ks + N) (pc + 2) [(0, gr o)] [gr (B + k), gr o] (gset (gsL L B ci k) (B + k) 2) (gz (gsA A o ci k) (B + k)) := by
    rw [ez, gsL_yes hr]
    refine g_putfr hF k hyo hc hk hr hrn.symm (fun h => hc0 h.1) hw hfin hty hd2 ?_ ?_
    · rw [← gsL_yes hr, gset_ne (by omega)]; exact hLo2
    · rw [gsA_yes hr]; exact kk
  rcases hcd with ⟨h, hd⟩ | ⟨h, hd⟩ <;> subst h
  · exact g_newi2 N rfl hN hy hLk hfl hk1 hk2 wa_int hd hnr hokv k2
  · exact g_newz2 N rfl hN hy hLk hfl hk1 hk2 wa_boolean hd hnr hokv k2
end GAR

theorem g_wld {M : MD} {P : Pst} {kc ks pc : Nat} {ls : List (Nat × GV)} {st : List GV} {L L2 : Nat → Nat} {A A2 : Mem} (h1 : L = L2) (h2 : A = A2) (k : GW M P kc ks pc ls st L2 A2) : GW M P kc ks pc ls st L A := by subst h1; subst h2; exact k
set_option maxRecDepth 20000 in
theorem c_X1_init {L : Nat → Nat} {A : Mem} (hP : ∀ m, L m ≠ 0 → m < 12 ∧ m ≠ 4 ∧ m ≠ 5) (h0 : L 1 = 1) (hz : ∀ m j, 1 ≤ m → m < 18 → A m j = 0) : Ct mX1_init [gr 1] L A (pr none (gset (gsL L 12 2 6) 1 2) (filA (gsA A 1 2 6) 17 (-1) 100)) := by
  have hP2 : ∀ m, L m ≠ 0 → m < 100 ∧ m ≠ 4 ∧ m ≠ 5 := fun m hm => by have := hP m hm; omega
  have hL9 : ∀ m, 12 ≤ m → L m = 0 := fun m hm => by by_cases h : L m = 0; exact h; have := hP m h; omega
  have hL1 : L 1 ≠ 0 := by rw [h0]; decide
  refine Ct_of (ls := [(0, _)]) rfl (by decide) (fun _ => rfl) (fun _ => Nat.le_of_ble_eq_true rfl) ?_
  refine g_aload_n 0 dX1_init_0 rfl rfl ?_
  refine g_oinit wm_X1_3 dX1_init_1 (fun _ => Nat.le_of_ble_eq_true rfl) ?_
  refine g_wld (L2 := gsL L 12 2 0) (A2 := gsA A 1 2 0) (gsL_0 _ _ _).symm (gsA_0 _ _ _).symm ?_
  refine g_aload_n 0 dX1_init_4 rfl rfl ?_
  refine g_bipush dX1_init_5 (by decide) ?_
  refine g_arr (o := 1) (B := 12) (k := 0) (N := 100) cf_2 rfl rfl (Or.inl ⟨rfl, dX1_init_7⟩) (by decide) (by decide) (by decide) rfl rfl (by decide) hP2 (by decide) (by decide) (by decide) (hL9 _ (by decide)) hL1 (by decide) (fun j => hz _ j (by decide) (by decide)) rfl (hz 1 _ (by decide) (by decide)) rfl (Nat.le_of_ble_eq_true rfl) (Nat.le_of_ble_eq_true rfl) dX1_init_9 wf_X1_9 (Or.inr ⟨rfl, rfl, rfl⟩) (Or.inr ⟨_, rfl⟩) ?_
  refine g_aload_n 0 dX1_init_12 rfl rfl ?_
  refine g_bipush dX1_init_13 (by decide) ?_
  refine g_arr (o := 1) (B := 12) (k := 1) (N := 100) cf_2 rfl rfl (Or.inl ⟨rfl, dX1_init_15⟩) (by decide) (by decide) (by decide) rfl rfl (by decide) hP2 (by decide) (by decide) (by decide) (hL9 _ (by decide)) hL1 (by decide) (fun j => hz _ j (by decide) (by decide)) rfl (hz 1 _ (by decide) (by decide)) rfl (Nat.le_of_ble_eq_true rfl) (Nat.le_of_ble_eq_true rfl) dX1_init_17 wf_X1_15 (Or.inr ⟨rfl, rfl, rfl⟩) (Or.inr ⟨_, rfl⟩) ?_
  refine g_aload_n 0 dX1_init_20 rfl rfl ?_
  refine g_bipush dX1_init_21 (by decide) ?_
  refine g_arr (o := 1) (B := 12) (k := 2) (N := 100) cf_2 rfl rfl (Or.inl ⟨rfl, dX1_init_23⟩) (by decide) (by decide) (by decide) rfl rfl (by decide) hP2 (by decide) (by decide) (by decide) (hL9 _ (by decide)) hL1 (by decide) (fun j => hz _ j (by decide) (by decide)) rfl (hz 1 _ (by decide) (by decide)) rfl (Nat.le_of_ble_eq_true rfl) (Nat.le_of_ble_eq_true rfl) dX1_init_25 wf_X1_18 (Or.inr ⟨rfl, rfl, rfl⟩) (Or.inr ⟨_, rfl⟩) ?_
  refine g_aload_n 0 dX1_init_28 rfl rfl ?_
  refine g_bipush dX1_init_29 (by decide) ?_
  refine g_arr (o := 1) (B := 12) (k := 3) (N := 100) cf_2 rfl rfl (Or.inl ⟨rfl, dX1_init_31⟩) (by decide) (by decide) (by decide) rfl rfl (by decide) hP2 (by decide) (by decide) (by decide) (hL9 _ (by decide)) hL1 (by decide) (fun j => hz _ j (by decide) (by decide)) rfl (hz 1 _ (by decide) (by decide)) rfl (Nat.le_of_ble_eq_true rfl) (Nat.le_of_ble_eq_true rfl) dX1_init_33 wf_X1_21 (Or.inr ⟨rfl, rfl, rfl⟩) (Or.inr ⟨_, rfl⟩) ?_
  refine g_aload_n 0 dX1_init_36 rfl rfl ?_
  refine g_bipush dX1_init_37 (by decide) ?_
  refine g_arr (o := 1) (B := 12) (k := 4) (N := 100) cf_2 rfl rfl (Or.inr ⟨rfl, dX1_init_39⟩) (by decide) (by decide) (by decide) rfl rfl (by decide) hP2 (by decide) (by decide) (by decide) (hL9 _ (by decide)) hL1 (by decide) (fun j => hz _ j (by decide) (by decide)) rfl (hz 1 _ (by decide) (by decide)) rfl (Nat.le_of_ble_eq_true rfl) (Nat.le_of_ble_eq_true rfl) dX1_init_41 wf_X1_24 (Or.inr ⟨rfl, rfl, rfl⟩) (Or.inr ⟨_, rfl⟩) ?_
  refine g_aload_n 0 dX1_init_44 rfl rfl ?_
  refine g_bipush dX1_init_45 (by decide) ?_
  refine g_arr (o := 1) (B := 12) (k := 5) (N := 100) cf_2 rfl rfl (Or.inl ⟨rfl, dX1_init_47⟩) (by decide) (by decide) (by decide) rfl rfl (by decide) hP2 (by decide) (by decide) (by decide) (hL9 _ (by decide)) hL1 (by decide) (fun j => hz _ j (by decide) (by decide)) rfl (hz 1 _ (by decide) (by decide)) rfl (Nat.le_of_ble_eq_true rfl) (Nat.le_of_ble_eq_true rfl) dX1_init_49 wf_X1_28 (Or.inr ⟨rfl, rfl, rfl⟩) (Or.inr ⟨_, rfl⟩) ?_
  have hLm : gsL L 12 2 6 1 ≠ 0 := by unfold gsL; rw [if_neg (by omega)]; exact hL1
  have hL17 : gsL L 12 2 6 17 = 2 := rfl
  refine g_aload_n 0 dX1_init_52 rfl rfl ?_
  refine g_getfr1 cf_2 5 (n := 1) rfl (by decide) (by decide) rfl (by decide) wf_X1_28 dX1_init_53 hLm (by simp [gsA, rfk]) ?_
  refine g_iconst dX1_init_56 ?_
  refine g_cT_v (My := mJ7_fill_53178) (gs := [_, _]) (c_J7_fill_53178 (n := 17) (N := 100) rfl (by decide) hL17 (by omega)) mfJ7_fill_53178 wst_J7_fill_53178 wm_X1_31 dX1_init_57 (Nat.le_of_ble_eq_true rfl) rfl (fun _ => Nat.le_of_ble_eq_true rfl) (Nat.le_of_ble_eq_true rfl) (Nat.le_of_ble_eq_true rfl) rfl rfl ?_
  refine g_made (n := 1) rfl hLm (fun j hj hr => ?_) ?_
  · rw [filA_ne _ _ _ _ (by decide)]
    have h6 : j < 6 := hj
    have : gsA A 1 2 6 1 j = 1 := by unfold gsA; rw [if_pos ⟨rfl, h6, rfl⟩]
    rw [this]; decide
  · exact g_vret dX1_init_60 rfl (Nat.le_of_ble_eq_true rfl) (Nat.le_of_ble_eq_true rfl) (pr_v rfl)
