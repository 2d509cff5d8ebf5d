section GBIT
variable {M : MD} {P : Pst} {kc ks pc : Nat} {ls : List (Nat × GV)} {st : List GV} {L : Nat → Nat} {A : Mem}
set_option maxRecDepth 100000 in
theorem bit_shl : ∀ i : Nat, i < 16 → (Int32.ofInt 1 <<< (Int32.ofInt (i : Int) &&& 31)) = Int32.ofInt (2 ^ i : Nat) := by decide +kernel
theorem g_ishl1 {i : Nat} (hi : i < 16) (hd : decode M.cc pc = .ok (.ishl, 1)) (k : GW M P kc ks (pc + 1) ls (gi (2 ^ i : Nat) :: st) L A) : GW M P kc ks pc ls (gi (i : Int) :: gi 1 :: st) L A := by
  intro p l e R s m args below meth c D a0 L0 a H locs lsr Q F E1 E3 S hl
  have kk := k p l e R s m args below meth c D a0 L0 a H locs lsr Q F E1 E3 S hl
  refine lv_ishl F.1 F.2.1 hd ?_
  rw [bit_shl i hi]
  exact kk
end GBIT


set_option maxRecDepth 100000 in
theorem bit_mod : ∀ i : Nat, i < 16 → ((Int32.ofInt (i : Int) &&& 31).toBitVec.smod 32) = BitVec.ofNat 32 i := by decide +kernel
theorem bit_get {x i : Nat} (hx : x < 65536) (hi : i < 16) : ((Int32.ofInt (x : Int) >>> (Int32.ofInt (i : Int) &&& 31)) &&& Int32.ofInt 1) = Int32.ofInt (b2 (x.testBit i)) := by
  apply Int32.toBitVec_inj.mp
  rw [Int32.toBitVec_and, Int32.toBitVec_shiftRight, bit_mod i hi]
  have e : (Int32.ofInt (x : Int)).toBitVec = BitVec.ofNat 32 x := by rw [Int32.toBitVec_ofInt, BitVec.ofInt_natCast]
  have e1 : (Int32.ofInt 1).toBitVec = 1#32 := by decide
  have e2 : (Int32.ofInt (b2 (x.testBit i))).toBitVec = if x.testBit i = true then 1#32 else 0#32 := by cases x.testBit i <;> decide
  rw [e, e1, e2]
  apply BitVec.eq_of_getLsbD_eq
  intro j hj
  simp only [BitVec.getLsbD_and, BitVec.sshiftRight_eq', BitVec.getLsbD_sshiftRight]
  have h3 : (BitVec.ofNat 32 i).toNat = i := by rw [BitVec.toNat_ofNat]; omega
  rw [h3]
  by_cases h0 : j = 0
  · subst h0
    cases hb : x.testBit i <;> simp [hb, hi, BitVec.getLsbD_ofNat] <;> omega
  · have h1 : (1#32).getLsbD j = false := by simp [BitVec.getLsbD_one, h0]
    rw [h1]
    cases x.testBit i <;> simp [h0, BitVec.getLsbD_one]

theorem bit_or {x i : Nat} (hx : x < 65536) (hi : i < 16) : (Int32.ofInt (x : Int) ||| Int32.ofInt ((2 ^ i : Nat) : Int)) = Int32.ofInt ((x ||| 2 ^ i : Nat) : Int) := by
  apply Int32.toBitVec_inj.mp
  rw [Int32.toBitVec_or, Int32.toBitVec_ofInt, Int32.toBitVec_ofInt, Int32.toBitVec_ofInt, BitVec.ofInt_natCast, BitVec.ofInt_natCast, BitVec.ofInt_natCast]
  apply BitVec.eq_of_getLsbD_eq
  intro j hj
  simp [BitVec.getLsbD_or, BitVec.getLsbD_ofNat, hj, Nat.testBit_or]
def shrZ (x i : Nat) : Int := (Int32.ofInt (x : Int) >>> (Int32.ofInt (i : Int) &&& 31)).toInt
section GBIT2
variable {M : MD} {P : Pst} {kc ks pc : Nat} {ls : List (Nat × GV)} {st : List GV} {L : Nat → Nat} {A : Mem}
theorem g_ishr {x i : Nat} (hd : decode M.cc pc = .ok (.ishr, 1)) (k : GW M P kc ks (pc + 1) ls (gi (shrZ x i) :: st) L A) : GW M P kc ks pc ls (gi (i : Int) :: gi (x : Int) :: st) L A := by
  intro p l e R s m args below meth c D a0 L0 a H locs lsr Q F E1 E3 S hl
  have kk := k p l e R s m args below meth c D a0 L0 a H locs lsr Q F E1 E3 S hl
  refine lv_ishr F.1 F.2.1 hd ?_
  have e : ev a (gi (shrZ x i)) = Value.int (Int32.ofInt (x : Int) >>> (Int32.ofInt (i : Int) &&& 31)) := by show Value.int (Int32.ofInt (shrZ x i)) = _; unfold shrZ; rw [Int32.ofInt_toInt]
  rw [List.map_cons, e] at kk
  exact kk
theorem g_iand1 {x i : Nat} (hx : x < 65536) (hi : i < 16) (hd : decode M.cc pc = .ok (.iand, 1)) (k : GW M P kc ks (pc + 1) ls (gi (b2 (x.testBit i)) :: st) L A) : GW M P kc ks pc ls (gi 1 :: gi (shrZ x i) :: st) L A := by
  intro p l e R s m args below meth c D a0 L0 a H locs lsr Q F E1 E3 S hl
  have kk := k p l e R s m args below meth c D a0 L0 a H locs lsr Q F E1 E3 S hl
  have e1 : ev a (gi (shrZ x i)) = Value.int (Int32.ofInt (x : Int) >>> (Int32.ofInt (i : Int) &&& 31)) := by show Value.int (Int32.ofInt (shrZ x i)) = _; unfold shrZ; rw [Int32.ofInt_toInt]
  rw [List.map_cons, List.map_cons, e1]
  refine lv_iand F.1 F.2.1 hd ?_
  rw [bit_get hx hi]
  exact kk
theorem g_ior2 {x i : Nat} (hx : x < 65536) (hi : i < 16) (hd : decode M.cc pc = .ok (.ior, 1)) (k : GW M P kc ks (pc + 1) ls (gi ((x ||| 2 ^ i : Nat) : Int) :: st) L A) : GW M P kc ks pc ls (gi ((2 ^ i : Nat) : Int) :: gi (x : Int) :: st) L A := by
  intro p l e R s m args below meth c D a0 L0 a H locs lsr Q F E1 E3 S hl
  have kk := k p l e R s m args below meth c D a0 L0 a H locs lsr Q F E1 E3 S hl
  refine lv_ior F.1 F.2.1 hd ?_
  rw [bit_or hx hi]
  exact kk
end GBIT2
