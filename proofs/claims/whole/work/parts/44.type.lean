-- ===== longs as bits =====
def NL (x : Int) : Nat := (Int64.ofInt x).toUInt64.toNat
theorem NL_z (z : Int64) : NL z.toInt = z.toUInt64.toNat := by
  unfold NL
  rw [Int64.ofInt_toInt]
theorem sh_cnt : ∀ j : Fin 64, (((Int32.ofInt (j.val : Int)).toInt64.toUInt64 &&& Int64.toUInt64 63).toNat % 64) = j.val := by decide +kernel
theorem NL_us {x : Int} {k : Nat} (hk : k < 64) : NL (lUs x (k : Int)) = NL x >>> k := by
  unfold lUs
  rw [NL_z]
  show ((Int64.ofInt x).toUInt64 >>> ((Int32.ofInt (k : Int)).toInt64.toUInt64 &&& Int64.toUInt64 63)).toNat = _
  rw [UInt64.toNat_shiftRight]
  rw [sh_cnt ⟨k, hk⟩]
  rfl
theorem NL_an (x : Int) : NL (lAn x 255) = NL x % 256 := by
  unfold lAn
  rw [NL_z]
  show ((Int64.ofInt x).toUInt64 &&& (Int64.ofInt 255).toUInt64).toNat = _
  rw [UInt64.toNat_and]
  show NL x &&& 255 = NL x % 256
  exact Nat.and_two_pow_sub_one_eq_mod (NL x) 8
theorem i64_t (z : Int64) : i64 z.toInt := by
  have h1 := Int64.le_toInt z
  have h2 := Int64.toInt_lt z
  constructor <;> omega
theorem NL_sm {z : Int64} (h : z.toUInt64.toNat < 9223372036854775808) : z.toInt = (z.toUInt64.toNat : Int) := by
  show z.toBitVec.toInt = (z.toBitVec.toNat : Int)
  exact BitVec.toInt_eq_toNat_of_lt (by
    have h : z.toBitVec.toNat < 9223372036854775808 := h
    omega)
theorem lAn_n (x : Int) : lAn x 255 = ((NL x % 256 : Nat) : Int) := by
  have h1 := NL_an x
  unfold lAn at h1 ⊢
  rw [NL_z] at h1
  rw [NL_sm (by rw [h1]; omega), h1]
theorem NL_0 {x : Int} (hx : i64 x) : NL x = 0 ↔ x = 0 := by
  constructor
  · intro h
    have h2 : (Int64.ofInt x).toInt = ((Int64.ofInt x).toUInt64.toNat : Int) := NL_sm (by
      have h : (Int64.ofInt x).toUInt64.toNat = 0 := h
      omega)
    have h3 : ((Int64.ofInt x).toUInt64.toNat : Int) = 0 := by
      have h : (Int64.ofInt x).toUInt64.toNat = 0 := h
      omega
    rw [o_L hx, h3] at h2
    exact h2
  · intro h
    subst h
    rfl
theorem NL_lt (x : Int) : NL x < 2 ^ 64 := (Int64.ofInt x).toUInt64.toNat_lt
theorem i64_us (x y : Int) : i64 (lUs x y) := i64_t _
/-- how many characters a number holds, 0 if it is no text -/
def lnT : Nat → Nat → Nat → Nat
  | 0, len, _ => len
  | u + 1, len, n => if n = 0 then len else if n % 256 < 33 ∨ 126 < n % 256 then 0 else lnT u (len + 1) (n / 256)
def byt (n L : Nat) : List Int := (List.range L).map (fun j => ((n >>> (8 * (L - 1 - j)) % 256 : Nat) : Int))
def typF (v : Int) (C : CS) : CS × Int := if lnT 8 0 (NL v) = 0 then (C, -2) else if 60 - C.2.2.2.length < lnT 8 0 (NL v) then (C, -4) else
  ((C.1, C.2.1, C.2.2.1, C.2.2.2 ++ byt (NL v) (lnT 8 0 (NL v))), ((C.2.2.2.length + lnT 8 0 (NL v) : Nat) : Int))
theorem lnT_le : ∀ u len n, len + u ≤ 8 → lnT u len n ≤ 8
  | 0, len, n, h => h
  | u + 1, len, n, h => by
    rw [lnT]
    split
    · omega
    · split
      · omega
      · exact lnT_le u (len + 1) (n / 256) (by omega)
/-- its characters are right -/
theorem lnT_ok : ∀ u len n, 0 < lnT u len n → len ≤ lnT u len n ∧ ∀ k, k < lnT u len n - len → 33 ≤ n >>> (8 * k) % 256 ∧ n >>> (8 * k) % 256 ≤ 126
  | 0, len, n, _ => ⟨Nat.le_refl _, fun k hk => by
    have hk : k < len - len := hk
    omega⟩
  | u + 1, len, n, h => by
    rw [lnT] at h ⊢
    by_cases e : n = 0
    · rw [if_pos e] at h ⊢
      exact ⟨Nat.le_refl _, fun k hk => by omega⟩
    · rw [if_neg e] at h ⊢
      by_cases e2 : n % 256 < 33 ∨ 126 < n % 256
      · rw [if_pos e2] at h
        omega
      · rw [if_neg e2] at h ⊢
        obtain ⟨h1, h2⟩ := lnT_ok u (len + 1) (n / 256) h
        refine ⟨by omega, fun k hk => ?_⟩
        cases k with
        | zero =>
          show 33 ≤ n >>> 0 % 256 ∧ n >>> 0 % 256 ≤ 126
          rw [Nat.shiftRight_zero]
          omega
        | succ k =>
          have h3 := h2 k (by omega)
          have h4 : (n / 256) >>> (8 * k) = n >>> (8 * (k + 1)) := by
            rw [show n / 256 = n >>> 8 by rw [Nat.shiftRight_eq_div_pow], ← Nat.shiftRight_add, show 8 + 8 * k = 8 * (k + 1) by omega]
          rw [h4] at h3
          exact h3
