section GBIT
variable {M : MD} {P : Pst} {kc ks pc : Nat} {ls : List (Nat × GV)} {st : List GV} {L : Nat → Nat} {A : Mem}
set_option maxRecDepth 100000 in
theorem bit_shl : ∀ i : Nat, i < 16 → (Int32.ofInt 1 <<< (Int32.ofInt (i : Int) &&& 31)) = Int32.ofInt (2 ^ i : Nat) := by decide +kernel
theorem g_ishl1 {i : Nat} (hi : i < 16) (hd : decode M.cc pc = .ok (.ishl, 1)) (k : GW M P kc ks (pc + 1) ls (gi (2 ^ i : Nat) :: st) L A) : GW M P kc ks pc ls (gi (i : Int) :: gi 1 :: st) L A := by
  intro p l e R s m args below meth c D a0 L0 a H locs lsr Q F E1 E3 S hl
  have kk := k p l e R s m args below meth c D a0 L0 a H locs lsr Q F E1 E3 S hl
  refine lv_ishl F.1 F.2.1 hd ?_
  rw [bit_shl i hi]
  exact kk
end GBIT

