/-! whole numbers: every int is iI of an integer -/
def iI (z : Int) : Int32 := Int32.ofInt z
theorem iI_add (a b : Int) : iI a + iI b = iI (a + b) := (Int32.ofInt_add a b).symm
theorem iI_sub (a b : Int) : iI a - iI b = iI (a - b) := (Int32.ofInt_sub a b).symm
theorem iI_mul (a b : Int) : iI a * iI b = iI (a * b) := (Int32.ofInt_mul a b).symm
theorem iI_neg (a : Int) : -iI a = iI (-a) := (Int32.ofInt_neg a).symm
theorem iI_toInt {a : Int} (h : -2147483648 ≤ a ∧ a < 2147483648) : (iI a).toInt = a := Int32.toInt_ofInt_of_le (by omega) (by omega)
theorem iI_asI (x : Int32) : iI x.toInt = x := Int32.ofInt_toInt x
theorem iI_rng (x : Int32) : -2147483648 ≤ x.toInt ∧ x.toInt < 2147483648 := by
  have h1 := x.le_toInt
  have h2 := x.toInt_lt
  omega
theorem iI_of (x : Int32) : ∃ z : Int, (-2147483648 ≤ z ∧ z < 2147483648) ∧ x = iI z := ⟨x.toInt, iI_rng x, (iI_asI x).symm⟩
theorem iI_nat (n : Nat) : iI (n : Int) = nI n := by
  show Int32.ofInt (n : Int) = Int32.ofNat n
  exact Int32.ofInt_eq_ofNat
theorem iI_eq {a b : Int} (ha : -2147483648 ≤ a ∧ a < 2147483648) (hb : -2147483648 ≤ b ∧ b < 2147483648) : iI a = iI b ↔ a = b := by
  rw [← Int32.toInt_inj, iI_toInt ha, iI_toInt hb]
theorem iI_lt {a b : Int} (ha : -2147483648 ≤ a ∧ a < 2147483648) (hb : -2147483648 ≤ b ∧ b < 2147483648) : iI a < iI b ↔ a < b := by
  rw [Int32.lt_iff_toInt_lt, iI_toInt ha, iI_toInt hb]
theorem iI_le {a b : Int} (ha : -2147483648 ≤ a ∧ a < 2147483648) (hb : -2147483648 ≤ b ∧ b < 2147483648) : iI a ≤ iI b ↔ a ≤ b := by
  rw [Int32.le_iff_toInt_le, iI_toInt ha, iI_toInt hb]
theorem iI_0 : iI 0 = 0 := rfl
theorem iI_clamp {z : Int} (h : -2147483648 ≤ z ∧ z < 2147483648) : (iI z).toNatClampNeg = z.toNat := by
  show (iI z).toInt.toNat = z.toNat
  rw [iI_toInt h]
theorem iI_in {z : Int} {n : Nat} (h : 0 ≤ z ∧ z < n) (hn : n < 2147483648) : vp_in (iI z) n := by
  rw [vp_in_iff, iI_toInt (by omega)]
  exact h
theorem iI_div {a b : Int} (ha : 0 ≤ a ∧ a < 2147483648) (hb : 0 < b ∧ b < 2147483648) : iI a / iI b = iI (a / b) := by
  apply Int32.toInt_inj.mp
  rw [Int32.toInt_div, iI_toInt (by omega), iI_toInt (by omega), Int.tdiv_eq_ediv_of_nonneg ha.1]
  have h1 : 0 ≤ a / b := Int.ediv_nonneg ha.1 (by omega)
  have h2 : a / b ≤ a := Int.ediv_le_self _ ha.1
  rw [iI_toInt (by omega)]
  exact Int.bmod_eq_of_le (by omega) (by omega)
theorem iI_rem {a b : Int} (ha : 0 ≤ a ∧ a < 2147483648) (hb : 0 < b ∧ b < 2147483648) : iI a - iI a / iI b * iI b = iI (a % b) := by
  rw [iI_div ha hb, iI_mul, iI_sub]
  congr 1
  have := Int.emod_add_mul_ediv a b
  have h2 : a / b * b = b * (a / b) := Int.mul_comm _ _
  omega
/-! powers of two, bits -/
def zp2 (b : Int) : Int := 2 ^ b.toNat
theorem zp2_pos (b : Int) : 0 < zp2 b := Int.pow_pos (by decide)
theorem zs_l : ∀ n, n < 32 → ((nI n &&& 31).toBitVec.smod 32).toNat = n := by decide
theorem iI_bvn (a : Int) : ((iI a).toBitVec.toNat : Int) = a % 4294967296 := by
  show (((BitVec.ofInt 32 a).toNat : Nat) : Int) = _
  rw [BitVec.toNat_ofInt]
  have : 0 ≤ a % (2 ^ 32 : Nat) := Int.emod_nonneg _ (by decide)
  rw [Int.toNat_of_nonneg this]
  rfl
theorem i32_ext {x y : Int32} (h : x.toBitVec.toNat = y.toBitVec.toNat) : x = y := Int32.toBitVec.inj (BitVec.eq_of_toNat_eq h)
theorem iI_shl {a b : Int} (hb : 0 ≤ b ∧ b < 32) : iI a <<< (iI b &&& 31) = iI (a * zp2 b) := by
  obtain ⟨n, rfl⟩ : ∃ n : Nat, b = (n : Int) := ⟨b.toNat, by omega⟩
  have hn : n < 32 := by omega
  apply i32_ext
  rw [iI_nat, pk_shl _ _ n (zs_l n hn)]
  have h1 := iI_bvn a
  have h2 := iI_bvn (a * zp2 (n : Int))
  have h3 : zp2 (n : Int) = ((2 ^ n : Nat) : Int) := by
    show (2 : Int) ^ ((n : Int).toNat) = _
    rw [Int.toNat_natCast]
    simp
  have h4 : (((iI a).toBitVec.toNat * 2 ^ n % 2 ^ 32 : Nat) : Int) = (a * zp2 (n : Int)) % 4294967296 := by
    rw [Int.natCast_emod, Int.natCast_mul, h1, h3]
    show (a % 4294967296 * ((2 ^ n : Nat) : Int)) % 4294967296 = _
    rw [Int.mul_emod, Int.emod_emod_of_dvd _ (Int.dvd_refl _), ← Int.mul_emod]
  omega
theorem iI_shr {a b : Int} (ha : -2147483648 ≤ a ∧ a < 2147483648) (hb : 0 ≤ b ∧ b < 32) : iI a >>> (iI b &&& 31) = iI (a / zp2 b) := by
  obtain ⟨n, rfl⟩ : ∃ n : Nat, b = (n : Int) := ⟨b.toNat, by omega⟩
  have hn : n < 32 := by omega
  have h := pk_shr (iI a) (iI (n : Int) &&& 31) n (by rw [iI_nat]; exact zs_l n hn)
  rw [← iI_asI (iI a >>> (iI (n : Int) &&& 31)), h, iI_toInt ha, Int.shiftRight_eq_div_pow]
  congr 2
def zand (a b : Int) : Int := (iI a &&& iI b).toInt
def zor (a b : Int) : Int := (iI a ||| iI b).toInt
def zxor (a b : Int) : Int := (iI a ^^^ iI b).toInt
theorem iI_and (a b : Int) : iI a &&& iI b = iI (zand a b) := (iI_asI _).symm
theorem iI_or (a b : Int) : iI a ||| iI b = iI (zor a b) := (iI_asI _).symm
theorem iI_xor (a b : Int) : iI a ^^^ iI b = iI (zxor a b) := (iI_asI _).symm
theorem zand_rng (a b : Int) : -2147483648 ≤ zand a b ∧ zand a b < 2147483648 := iI_rng _
theorem zor_rng (a b : Int) : -2147483648 ≤ zor a b ∧ zor a b < 2147483648 := iI_rng _
theorem zxor_rng (a b : Int) : -2147483648 ≤ zxor a b ∧ zxor a b < 2147483648 := iI_rng _
theorem zand_mask (a : Int) (m : Int) (k : Nat) (hk : k < 32) (hm : (iI m).toBitVec.toNat = 2 ^ k - 1) : zand a m = a % ((2 ^ k : Nat) : Int) := by
  unfold zand
  rw [pk_and (iI a) k hm]
  have h2 : (iI a).toBitVec.toNat % 2 ^ k < 2 ^ k := Nat.mod_lt _ (Nat.two_pow_pos k)
  have h3 : 2 ^ k ≤ 2 ^ 31 := Nat.pow_le_pow_right (by decide) (by omega)
  rw [nI_toInt (by omega), Int.natCast_emod, iI_bvn, Int.emod_emod_of_dvd]
  have h4 : (4294967296 : Int) = ((2 ^ 32 : Nat) : Int) := by decide
  rw [h4]
  exact Int.natCast_dvd_natCast.mpr (Nat.pow_dvd_pow 2 (by omega))
theorem zand_1 (a : Int) : zand a 1 = a % 2 := zand_mask a 1 1 (by decide) (by decide)
theorem zand_31 (a : Int) : zand a 31 = a % 32 := zand_mask a 31 5 (by decide) (by decide)
theorem zand_7f (a : Int) : zand a 2147483647 = a % 2147483648 := zand_mask a 2147483647 31 (by decide) (by decide)
theorem zxor_m1 {a : Int} (ha : -2147483648 ≤ a ∧ a < 2147483648) : zxor a (-1) = -a - 1 := by
  have h : iI a ^^^ iI (-1) = iI (-a - 1) := by
    have e : iI (-1) = -1 := rfl
    rw [e]
    have h1 : iI a ^^^ (-1 : Int32) = ~~~ iI a := by
      apply Int32.toBitVec.inj
      rw [Int32.toBitVec_xor, Int32.toBitVec_not]
      show (iI a).toBitVec ^^^ BitVec.allOnes 32 = _
      exact BitVec.xor_allOnes
    rw [h1, Int32.not_eq_neg_sub, iI_neg]
    exact iI_sub (-a) 1
  unfold zxor
  rw [h, iI_toInt (by omega)]
/-- 1 if so, else 0 -/
def zb (p : Prop) [Decidable p] : Int := if p then 1 else 0
theorem zb_t {p : Prop} [Decidable p] (h : p) : zb p = 1 := if_pos h
theorem zb_f {p : Prop} [Decidable p] (h : ¬ p) : zb p = 0 := if_neg h
theorem zb_cg {p q : Prop} [Decidable p] [Decidable q] (h : p ↔ q) : zb p = zb q := by
  by_cases hp : p
  · rw [zb_t hp, zb_t (h.mp hp)]
  · rw [zb_f hp, zb_f (fun hq => hp (h.mpr hq))]
theorem zb_r (p : Prop) [Decidable p] : 0 ≤ zb p ∧ zb p ≤ 1 := by
  unfold zb
  split <;> decide
theorem zb_eq0 {p : Prop} [Decidable p] : zb p = 0 ↔ ¬ p := by
  unfold zb
  split <;> simp_all
theorem zb_eq1 {p : Prop} [Decidable p] : zb p = 1 ↔ p := by
  unfold zb
  split <;> simp_all
/-- an amount -/
def zabs (z : Int) : Int := if z < 0 then -z else z
