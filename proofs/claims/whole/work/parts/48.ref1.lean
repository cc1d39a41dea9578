-- ===== the reference: small things =====
theorem lc_lt {x y : Int} : (if y < x then (1 : Int) else if x = y then 0 else -1) < 0 ↔ x < y := by
  split
  · omega
  · split <;> omega
theorem lc_gt {x y : Int} : 0 < (if y < x then (1 : Int) else if x = y then 0 else -1) ↔ y < x := by
  split
  · omega
  · split <;> omega
theorem lc_i {x y : Int} : i32 (if y < x then (1 : Int) else if x = y then 0 else -1) := by
  split
  · constructor <;> omega
  · split <;> constructor <;> omega
section REF
variable {G : GT} {d k n : Nat} {σ : Sg} {Q : Option AV → Sg → Prop}
theorem sp_X6_in {v lo hi : Int} (hv : i64 v) (hl : i64 lo) (hh : i64 hi) (hq1 : lo ≤ v ∧ v ≤ hi → Q (some (Vi 1)) σ) (hq0 : ¬ (lo ≤ v ∧ v ≤ hi) → Q (some (Vi 0)) σ) : WA G d k n mX6_in 0 [Vl v, Vu, Vl lo, Vu, Vl hi, Vu] [] σ Q := by
  refine ar_lload_n 1 rfl d_X6_in_0 rfl ?_
  refine ar_lload_n 2 rfl d_X6_in_1 rfl ?_
  refine ar_lcmp 3 rfl d_X6_in_2 (by assumption) (by assumption) ?_
  refine ar_if_lt 17 6 rfl rfl d_X6_in_3 lc_i (fun g3 => ?_) (fun g3 => ?_)
  · refine ar_iconst 18 rfl d_X6_in_17 ?_
    refine WA.ret (some (Vi _)) ⟨d_X6_in_18, rfl, Or.inr ⟨rfl, Or.inl rfl⟩⟩ ?_
    rw [lc_lt] at g3
    exact hq0 (by omega)
  · refine ar_lload_n 7 rfl d_X6_in_6 rfl ?_
    refine ar_lload 9 rfl d_X6_in_7 rfl ?_
    rw [lc_lt] at g3
    refine ar_lcmp 10 rfl d_X6_in_9 (by assumption) (by assumption) ?_
    refine ar_if_gt 17 13 rfl rfl d_X6_in_10 lc_i (fun g10 => ?_) (fun g10 => ?_)
    · refine ar_iconst 18 rfl d_X6_in_17 ?_
      refine WA.ret (some (Vi _)) ⟨d_X6_in_18, rfl, Or.inr ⟨rfl, Or.inl rfl⟩⟩ ?_
      have g10 := lc_gt.mp g10
      exact hq0 (by omega)
    · refine ar_iconst 14 rfl d_X6_in_13 ?_
      refine ar_goto 18 rfl d_X6_in_14 ?_
      refine WA.ret (some (Vi _)) ⟨d_X6_in_18, rfl, Or.inr ⟨rfl, (by omega)⟩⟩ ?_
      have g10 : ¬ hi < v := fun h => g10 (lc_gt.mpr h)
      exact hq1 (by omega)
theorem sp_X6_isShelf {x : Int} (hx : i32 x) (hdp : 1 ≤ d) (hq1 : 0 ≤ x ∧ x < 12 → Q (some (Vi 1)) σ) (hq0 : ¬ (0 ≤ x ∧ x < 12) → Q (some (Vi 0)) σ) : WA G d k n mX6_isShelf 0 [Vi x] [] σ Q := by
  refine ar_iload_n 1 rfl d_X6_isShelf_0 rfl ?_
  refine ar_i2l 2 rfl d_X6_isShelf_1 hx ?_
  refine ar_lconst 0 3 rfl d_X6_isShelf_2 rfl ?_
  refine ar_ldc2 11 6 rfl d_X6_isShelf_3 lc_X6_89 rfl ?_
  refine ar_callS0 (M' := mX6_in) (As := [_, _, _]) (ls' := [Vl _, Vu, Vl _, Vu, Vl _, Vu]) 9 rfl d_X6_isShelf_6 ml_X6_91 mt_X6_in rfl (Nat.le_of_ble_eq_true rfl) rfl (Nat.le_of_ble_eq_true rfl) (by omega) ?_
  refine sp_X6_in (by constructor <;> omega) (by constructor <;> omega) (by constructor <;> omega) (fun g => ?_) (fun g => ?_)
  · refine WA.ret (some (Vi _)) ⟨d_X6_isShelf_9, rfl, Or.inr ⟨rfl, (Or.inr rfl)⟩⟩ ?_
    exact hq1 (by omega)
  · refine WA.ret (some (Vi _)) ⟨d_X6_isShelf_9, rfl, Or.inr ⟨rfl, (Or.inl rfl)⟩⟩ ?_
    exact hq0 (by omega)
theorem sp_X6_isLoaf {x : Int} (hx : i32 x) (hdp : 1 ≤ d) (hq1 : 0 ≤ x ∧ x < 6 → Q (some (Vi 1)) σ) (hq0 : ¬ (0 ≤ x ∧ x < 6) → Q (some (Vi 0)) σ) : WA G d k n mX6_isLoaf 0 [Vi x] [] σ Q := by
  refine ar_iload_n 1 rfl d_X6_isLoaf_0 rfl ?_
  refine ar_i2l 2 rfl d_X6_isLoaf_1 hx ?_
  refine ar_lconst 0 3 rfl d_X6_isLoaf_2 rfl ?_
  refine ar_ldc2 5 6 rfl d_X6_isLoaf_3 lc_X6_95 rfl ?_
  refine ar_callS0 (M' := mX6_in) (As := [_, _, _]) (ls' := [Vl _, Vu, Vl _, Vu, Vl _, Vu]) 9 rfl d_X6_isLoaf_6 ml_X6_91 mt_X6_in rfl (Nat.le_of_ble_eq_true rfl) rfl (Nat.le_of_ble_eq_true rfl) (by omega) ?_
  refine sp_X6_in (by constructor <;> omega) (by constructor <;> omega) (by constructor <;> omega) (fun g => ?_) (fun g => ?_)
  · refine WA.ret (some (Vi _)) ⟨d_X6_isLoaf_9, rfl, Or.inr ⟨rfl, (Or.inr rfl)⟩⟩ ?_
    exact hq1 (by omega)
  · refine WA.ret (some (Vi _)) ⟨d_X6_isLoaf_9, rfl, Or.inr ⟨rfl, (Or.inl rfl)⟩⟩ ?_
    exact hq0 (by omega)
theorem sp_X6_memoryAt {j : Nat} (hj : j ≤ 1000) (hQ : Q (some (Vi ((816 + 40 * j : Nat) : Int))) σ) : WA G d k n mX6_memoryAt 0 [Vi (j : Int)] [] σ Q := by
  refine ar_sipush 3 rfl d_X6_memoryAt_0 rfl ?_
  refine ar_bipush 5 rfl d_X6_memoryAt_3 rfl ?_
  refine ar_iload_n 6 rfl d_X6_memoryAt_5 rfl ?_
  refine ar_imul 7 rfl d_X6_memoryAt_6 ?_
  refine ar_iadd 8 rfl d_X6_memoryAt_7 ?_
  refine ar_top (y := ((816 + 40 * j : Nat) : Int)) (by omega) ?_
  refine WA.ret (some (Vi _)) ⟨d_X6_memoryAt_8, rfl, Or.inl rfl⟩ ?_
  exact hQ
theorem sp_X6_valueOfShelf {a p N : Nat} {f : Nat → Int} (ha : sk σ a = (10, N)) (hN : 1496 ≤ N ∧ N ≤ 100000) (hp : p < 12) (h14 : hI σ a (14 + p) = f (14 + p)) (h2 : hI σ a (2 + p) = f (2 + p)) (hb : f (14 + p) = 0 ∨ f (14 + p) = 1) (hQ : Q (some (Vi (sv f (p : Int)))) σ) : WA G d k n mX6_valueOfShelf 0 [Va a, Vi (p : Int)] [] σ Q := by
  unfold sv at hQ
  rw [Int.toNat_natCast] at hQ
  refine ar_aload_n 1 rfl d_X6_valueOfShelf_0 rfl ?_
  refine ar_bipush 3 rfl d_X6_valueOfShelf_1 rfl ?_
  refine ar_iload_n 4 rfl d_X6_valueOfShelf_3 rfl ?_
  refine ar_iadd 5 rfl d_X6_valueOfShelf_4 ?_
  refine ar_top (y := ((14 + p : Nat) : Int)) (by omega) ?_
  refine ar_ilv (y := (f (14 + p))) 6 rfl d_X6_valueOfShelf_5 (by assumption) (by omega) (by rw [Int.toNat_natCast]; exact h14) ?_
  refine ar_iconst 7 rfl d_X6_valueOfShelf_6 ?_
  refine ar_icmp_ne 15 10 rfl rfl d_X6_valueOfShelf_7 (by omega) (by omega) (fun g7 => ?_) (fun g7 => ?_)
  · refine ar_aload_n 16 rfl d_X6_valueOfShelf_15 rfl ?_
    refine ar_iconst 17 rfl d_X6_valueOfShelf_16 ?_
    refine ar_iload_n 18 rfl d_X6_valueOfShelf_17 rfl ?_
    refine ar_iadd 19 rfl d_X6_valueOfShelf_18 ?_
    refine ar_top (y := ((2 + p : Nat) : Int)) (by omega) ?_
    refine ar_ilv (y := (f (2 + p))) 20 rfl d_X6_valueOfShelf_19 (by assumption) (by omega) (by rw [Int.toNat_natCast]; exact h2) ?_
    refine WA.ret (some (Vi _)) ⟨d_X6_valueOfShelf_20, rfl, Or.inl rfl⟩ ?_
    rw [if_pos (by omega)] at hQ
    exact hQ
  · refine ar_bipush 12 rfl d_X6_valueOfShelf_10 rfl ?_
    refine ar_goto 20 rfl d_X6_valueOfShelf_12 ?_
    refine WA.ret (some (Vi _)) ⟨d_X6_valueOfShelf_20, rfl, Or.inl rfl⟩ ?_
    rw [if_neg (by omega)] at hQ
    exact hQ
theorem cI_0 (σ : Sg) (a sp b dp : Nat) : cI σ a sp b dp 0 = σ := by
  show ((fun c i => if c = b ∧ dp ≤ i ∧ i < dp + 0 then _ else σ.1 c i, σ.2) : Sg) = σ
  refine Prod.ext ?_ rfl
  funext c i
  show (if c = b ∧ dp ≤ i ∧ i < dp + 0 then _ else σ.1 c i) = _
  rw [if_neg (by omega)]
theorem cI_s (σ : Sg) (a sp b dp m : Nat) : wI (cI σ a sp b dp m) b (dp + m) (hI σ a (sp + m)) = cI σ a sp b dp (m + 1) := by
  refine Prod.ext ?_ rfl
  funext c i
  show (if c = b ∧ i = dp + m then hI σ a (sp + m) else if c = b ∧ dp ≤ i ∧ i < dp + m then σ.1 a (sp + (i - dp)) else σ.1 c i) = if c = b ∧ dp ≤ i ∧ i < dp + (m + 1) then σ.1 a (sp + (i - dp)) else σ.1 c i
  by_cases c1 : c = b ∧ i = dp + m
  · rw [if_pos c1, if_pos (by omega), show sp + (i - dp) = sp + m by omega]
  · rw [if_neg c1]
    by_cases c2 : c = b ∧ dp ≤ i ∧ i < dp + m
    · rw [if_pos c2, if_pos (by omega)]
    · rw [if_neg c2, if_neg (by omega)]
theorem sp_X6_copyState {a b sp dp N1 N2 : Nat} (ha : sk σ a = (10, N1)) (hb : sk σ b = (10, N2)) (h1 : sp + 1496 ≤ N1) (h2 : dp + 1496 ≤ N2) (hN : N1 ≤ 100000 ∧ N2 ≤ 100000) (hab : a ≠ b) (hQ : Q none (cI σ a sp b dp 1496)) : WA G d k n mX6_copyState 0 [Va a, Vi (sp : Int), Va b, Vi (dp : Int), Vu] [] σ Q := by
  have loop : ∀ r i : Nat, 1496 - i = r → i ≤ 1496 → WA G d k n mX6_copyState 3 [Va a, Vi (sp : Int), Va b, Vi (dp : Int), Vi (i : Int)] [] (cI σ a sp b dp i) Q := by
    intro r
    induction r using Nat.strongRecOn with
    | ind r ih =>
    intro i hr hi
    have hka : sk (cI σ a sp b dp i) a = (10, N1) := ha
    have hkb : sk (cI σ a sp b dp i) b = (10, N2) := hb
    refine ar_iload 5 rfl d_X6_copyState_3 rfl ?_
    refine ar_sipush 8 rfl d_X6_copyState_5 rfl ?_
    refine ar_icmp_ge 29 11 rfl rfl d_X6_copyState_8 (by omega) (by omega) (fun g8 => ?_) (fun g8 => ?_)
    · refine WA.ret none ⟨d_X6_copyState_29, rfl, rfl⟩ ?_
      have e : i = 1496 := by omega
      subst e
      exact hQ
    · refine ar_aload_n 12 rfl d_X6_copyState_11 rfl ?_
      refine ar_iload_n 13 rfl d_X6_copyState_12 rfl ?_
      refine ar_iload 15 rfl d_X6_copyState_13 rfl ?_
      refine ar_iadd 16 rfl d_X6_copyState_15 ?_
      refine ar_top (y := ((dp + i : Nat) : Int)) (by omega) ?_
      refine ar_aload_n 17 rfl d_X6_copyState_16 rfl ?_
      refine ar_iload_n 18 rfl d_X6_copyState_17 rfl ?_
      refine ar_iload 20 rfl d_X6_copyState_18 rfl ?_
      refine ar_iadd 21 rfl d_X6_copyState_20 ?_
      refine ar_top (y := ((sp + i : Nat) : Int)) (by omega) ?_
      refine ar_ilv (y := (hI σ a (sp + i))) 22 rfl d_X6_copyState_21 (by assumption) (by omega) (by rw [Int.toNat_natCast, hI_c, if_neg (by omega)]) ?_
      refine ar_iasN (dp + i) 23 rfl d_X6_copyState_22 (by assumption) (by omega) (by omega) ?_
      refine ar_inc_4 (y := ((i + 1 : Nat) : Int)) 26 rfl d_X6_copyState_23 rfl (by intro _ h; cases h) (by omega) ?_
      refine ar_goto 3 rfl d_X6_copyState_26 ?_
      rw [cI_s]
      exact ih (1496 - (i + 1)) (by omega) (i + 1) rfl (by omega)
  have l0 := loop 1496 0 rfl (by omega)
  rw [cI_0] at l0
  refine ar_iconst 1 rfl d_X6_copyState_0 ?_
  refine ar_ist_4 3 rfl d_X6_copyState_1 rfl (by intro _ h; cases h) ?_
  exact l0
end REF
