/-! ===== an abstract machine over whole numbers, and what it says of the machine ===== -/
abbrev zV : Type := Int ⊕ (Nat ⊕ (Int ⊕ Unit))
abbrev zI (v : Int) : zV := Sum.inl v
abbrev zR (k : Nat) : zV := Sum.inr (Sum.inl k)
abbrev zL (v : Int) : zV := Sum.inr (Sum.inr (Sum.inl v))
abbrev zS : zV := Sum.inr (Sum.inr (Sum.inr ()))
def zr (v : Int) : Prop := -2147483648 ≤ v ∧ v ≤ 2147483647
def zrl (v : Int) : Prop := -9223372036854775808 ≤ v ∧ v ≤ 9223372036854775807
def zok : zV → Prop
  | .inl v => zr v
  | .inr (.inl _) => True
  | .inr (.inr (.inl v)) => zrl v
  | .inr (.inr (.inr _)) => True
def zwi (v : Int) : Int := v.bmod 4294967296
def zwl (v : Int) : Int := v.bmod 18446744073709551616
def zand (a b : Int) : Int := (Int32.ofInt a &&& Int32.ofInt b).toInt
def zor (a b : Int) : Int := (Int32.ofInt a ||| Int32.ofInt b).toInt
def zxor (a b : Int) : Int := (Int32.ofInt a ^^^ Int32.ofInt b).toInt
def zshl (a b : Int) : Int := (Int32.ofInt a <<< (Int32.ofInt b &&& 31)).toInt
def zshr (a b : Int) : Int := (Int32.ofInt a >>> (Int32.ofInt b &&& 31)).toInt
def zushr (a b : Int) : Int := ((Int32.ofInt a).toUInt32 >>> ((Int32.ofInt b).toUInt32 &&& Int32.toUInt32 31)).toInt32.toInt
def zland (a b : Int) : Int := (Int64.ofInt a &&& Int64.ofInt b).toInt
theorem zr_wi (v : Int) : zr (zwi v) := by
  unfold zr zwi Int.bmod
  have h1 := Int.emod_nonneg v (b := 4294967296) (by decide)
  have h2 := Int.emod_lt_of_pos v (b := 4294967296) (by decide)
  dsimp only
  constructor <;> (split <;> omega)
theorem zrl_wl (v : Int) : zrl (zwl v) := by
  unfold zrl zwl Int.bmod
  have h1 := Int.emod_nonneg v (b := 18446744073709551616) (by decide)
  have h2 := Int.emod_lt_of_pos v (b := 18446744073709551616) (by decide)
  dsimp only
  constructor <;> (split <;> omega)
theorem zwi_id {v : Int} (h : zr v) : zwi v = v := by
  obtain ⟨h1, h2⟩ := h
  unfold zwi Int.bmod
  dsimp only
  split <;> omega
theorem zwl_id {v : Int} (h : zrl v) : zwl v = v := by
  obtain ⟨h1, h2⟩ := h
  unfold zwl Int.bmod
  dsimp only
  split <;> omega
theorem zo_toInt {v : Int} (h : zr v) : (Int32.ofInt v).toInt = v := Int32.toInt_ofInt_of_le (by have := h.1; omega) (by have := h.2; omega)
theorem zo_toIntL {v : Int} (h : zrl v) : (Int64.ofInt v).toInt = v := Int64.toInt_ofInt_of_le (by have := h.1; omega) (by have := h.2; omega)
theorem zo_back (x : Int32) : Int32.ofInt x.toInt = x := Int32.ofInt_toInt x
theorem zo_backL (x : Int64) : Int64.ofInt x.toInt = x := Int64.ofInt_toInt x
theorem zr_of (x : Int32) : zr x.toInt := ⟨by have := Int32.le_toInt x; omega, by have := Int32.toInt_lt x; omega⟩
theorem zrl_of (x : Int64) : zrl x.toInt := ⟨by have := Int64.le_toInt x; omega, by have := Int64.toInt_lt x; omega⟩
theorem zo_wi (v : Int) : Int32.ofInt (zwi v) = Int32.ofInt v := by
  apply Int32.toInt_inj.mp
  rw [zo_toInt (zr_wi v), Int32.toInt_ofInt]
  rfl
theorem zo_wl (v : Int) : Int64.ofInt (zwl v) = Int64.ofInt v := by
  apply Int64.toInt_inj.mp
  rw [zo_toIntL (zrl_wl v), Int64.toInt_ofInt]
  rfl
theorem zo_inj {a b : Int} (ha : zr a) (hb : zr b) : Int32.ofInt a = Int32.ofInt b ↔ a = b :=
  ⟨fun h => by have := congrArg Int32.toInt h; rwa [zo_toInt ha, zo_toInt hb] at this, fun h => by rw [h]⟩
theorem zo_lt {a b : Int} (ha : zr a) (hb : zr b) : Int32.ofInt a < Int32.ofInt b ↔ a < b := by
  rw [Int32.lt_iff_toInt_lt, zo_toInt ha, zo_toInt hb]
theorem zo_le {a b : Int} (ha : zr a) (hb : zr b) : Int32.ofInt a ≤ Int32.ofInt b ↔ a ≤ b := by
  rw [Int32.le_iff_toInt_le, zo_toInt ha, zo_toInt hb]
theorem zr_0 : zr 0 := ⟨by decide, by decide⟩
theorem zo_0 : (0 : Int32) = Int32.ofInt 0 := rfl
theorem zo_add (a b : Int) : Int32.ofInt a + Int32.ofInt b = Int32.ofInt (zwi (a + b)) := by rw [zo_wi, Int32.ofInt_add]
theorem zo_sub (a b : Int) : Int32.ofInt a - Int32.ofInt b = Int32.ofInt (zwi (a - b)) := by rw [zo_wi, Int32.ofInt_sub]
theorem zo_mul (a b : Int) : Int32.ofInt a * Int32.ofInt b = Int32.ofInt (zwi (a * b)) := by rw [zo_wi, Int32.ofInt_mul]
theorem zo_addL (a b : Int) : Int64.ofInt a + Int64.ofInt b = Int64.ofInt (zwl (a + b)) := by rw [zo_wl, Int64.ofInt_add]
theorem zo_subL (a b : Int) : Int64.ofInt a - Int64.ofInt b = Int64.ofInt (zwl (a - b)) := by rw [zo_wl, Int64.ofInt_sub]
theorem zo_mulL (a b : Int) : Int64.ofInt a * Int64.ofInt b = Int64.ofInt (zwl (a * b)) := by rw [zo_wl, Int64.ofInt_mul]
theorem zo_div {a b : Int} (ha : zr a) (hb : zr b) : Int32.ofInt a / Int32.ofInt b = Int32.ofInt (zwi (a.tdiv b)) := by
  apply Int32.toInt_inj.mp
  rw [zo_toInt (zr_wi _), Int32.toInt_div, zo_toInt ha, zo_toInt hb]
  rfl
theorem zo_divL {a b : Int} (ha : zrl a) (hb : zrl b) : Int64.ofInt a / Int64.ofInt b = Int64.ofInt (zwl (a.tdiv b)) := by
  apply Int64.toInt_inj.mp
  rw [zo_toIntL (zrl_wl _), Int64.toInt_div, zo_toIntL ha, zo_toIntL hb]
  rfl
theorem zo_rem {a b : Int} (ha : zr a) (hb : zr b) : Int32.ofInt a - Int32.ofInt a / Int32.ofInt b * Int32.ofInt b = Int32.ofInt (a.tmod b) := by
  rw [zo_div ha hb, zo_wi, ← Int32.ofInt_mul, ← Int32.ofInt_sub]
  congr 1
  have := Int.mul_tdiv_add_tmod a b
  rw [Int.mul_comm] at this
  omega
theorem zo_remL {a b : Int} (ha : zrl a) (hb : zrl b) : Int64.ofInt a - Int64.ofInt a / Int64.ofInt b * Int64.ofInt b = Int64.ofInt (a.tmod b) := by
  rw [zo_divL ha hb, zo_wl, ← Int64.ofInt_mul, ← Int64.ofInt_sub]
  congr 1
  have := Int.mul_tdiv_add_tmod a b
  rw [Int.mul_comm] at this
  omega
theorem zr_tmod {a b : Int} (ha : zr a) (hb : zr b) : zr (a.tmod b) := by
  by_cases h : b = 0
  · subst h; rw [Int.tmod_zero]; exact ha
  · obtain ⟨a1, a2⟩ := ha
    obtain ⟨b1, b2⟩ := hb
    have h1 := Int.natAbs_tmod a b
    have h2 : (a.natAbs % b.natAbs) ≤ a.natAbs := Nat.mod_le _ _
    have h3 : (a.natAbs % b.natAbs) < b.natAbs := Nat.mod_lt _ (by omega)
    unfold zr
    omega
theorem zrl_tmod {a b : Int} (ha : zrl a) (hb : zrl b) : zrl (a.tmod b) := by
  by_cases h : b = 0
  · subst h; rw [Int.tmod_zero]; exact ha
  · obtain ⟨a1, a2⟩ := ha
    obtain ⟨b1, b2⟩ := hb
    have h1 := Int.natAbs_tmod a b
    have h2 : (a.natAbs % b.natAbs) ≤ a.natAbs := Nat.mod_le _ _
    have h3 : (a.natAbs % b.natAbs) < b.natAbs := Nat.mod_lt _ (by omega)
    unfold zrl
    omega
theorem zo_i2l {a : Int} (ha : zr a) : (Int32.ofInt a).toInt64 = Int64.ofInt a := by
  apply Int64.toInt_inj.mp
  have h : zrl a := ⟨by have := ha.1; omega, by have := ha.2; omega⟩
  rw [Int32.toInt_toInt64, zo_toInt ha, zo_toIntL h]
theorem zo_l2i {a : Int} (ha : zrl a) : (Int64.ofInt a).toInt32 = Int32.ofInt (zwi a) := by
  apply Int32.toInt_inj.mp
  rw [Int64.toInt_toInt32, zo_toIntL ha, zo_toInt (zr_wi a)]
  rfl
theorem zo_clamp {v : Int} (h : zr v) : (Int32.ofInt v).toNatClampNeg = v.toNat := by
  show (Int32.ofInt v).toInt.toNat = _
  rw [zo_toInt h]
theorem zo_in {v : Int} {n : Nat} (h : zr v) (h0 : 0 ≤ v) (h1 : v < n) : vp_in (Int32.ofInt v) n := by
  unfold vp_in
  rw [zo_0, zo_lt h zr_0, zo_clamp h]
  omega
