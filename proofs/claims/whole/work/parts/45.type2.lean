section TYP
variable {G : GT} {d k n : Nat} {σ : Sg} {Q : Option AV → Sg → Prop} {Φ : Sg} {E : Nat → Nat} {C : CS}
set_option maxHeartbeats 4000000 in
theorem sp_X5_lengthOfText {v : Int} (hv : i64 v) (hQ : Q (some (Vi (lnT 8 0 (NL v) : Int))) σ) : WA G d k n mX5_lengthOfText 0 [Vl v, Vu, Vu, Vu, Vu, Vu] [] σ Q := by
  have loop : ∀ u len : Nat, ∀ (y : Int) (x5 : AV), len + u = 8 → i64 y → Q (some (Vi (lnT u len (NL y) : Int))) σ → WA G d k n mX5_lengthOfText 4 [Vl v, Vu, Vi (len : Int), Vl y, Vu, x5] [] σ Q := by
    intro u
    induction u with
    | zero =>
      intro len y x5 hl hy hQ1
      refine ar_iload_n 5 rfl d_X5_lengthOfText_4 rfl ?_
      refine ar_bipush 7 rfl d_X5_lengthOfText_5 rfl ?_
      refine ar_icmp_ge 51 10 rfl rfl d_X5_lengthOfText_7 (by omega) (by omega) (fun g7 => ?_) (fun h => by omega)
      refine ar_iload_n 52 rfl d_X5_lengthOfText_51 rfl ?_
      refine WA.ret (some (Vi _)) ⟨d_X5_lengthOfText_52, rfl, Or.inl rfl⟩ ?_
      exact hQ1
    | succ u ih =>
      intro len y x5 hl hy hQ1
      rw [lnT] at hQ1
      have hz := NL_0 hy
      have hi := i64_us y 8
      have hs : NL (lUs y ((8 : Nat) : Int)) = NL y / 256 := by
        rw [NL_us (by omega), Nat.shiftRight_eq_div_pow]
      refine ar_iload_n 5 rfl d_X5_lengthOfText_4 rfl ?_
      refine ar_bipush 7 rfl d_X5_lengthOfText_5 rfl ?_
      refine ar_icmp_ge 51 10 rfl rfl d_X5_lengthOfText_7 (by omega) (by omega) (fun h => by omega) (fun g7 => ?_)
      refine ar_lload_n 11 rfl d_X5_lengthOfText_10 rfl ?_
      refine ar_lconst 0 12 rfl d_X5_lengthOfText_11 rfl ?_
      refine ar_lcmp 13 rfl d_X5_lengthOfText_12 (by first | exact hy | (constructor <;> omega)) (by first | exact hy | (constructor <;> omega)) ?_
      refine ar_if_eq 51 16 rfl rfl d_X5_lengthOfText_13 (by split <;> (try split) <;> omega) (fun g13 => ?_) (fun g13 => ?_)
      · refine ar_iload_n 52 rfl d_X5_lengthOfText_51 rfl ?_
        refine WA.ret (some (Vi _)) ⟨d_X5_lengthOfText_52, rfl, Or.inl rfl⟩ ?_
        have hy0 : y = 0 := by
          rcases Int.lt_trichotomy y 0 with e | e | e
          · rw [if_neg (by omega), if_neg (by omega)] at g13
            exact absurd g13 (by decide)
          · exact e
          · rw [if_pos e] at g13
            exact absurd g13 (by decide)
        rw [if_pos (hz.mpr hy0)] at hQ1
        exact hQ1
      · have hy0 : ¬ NL y = 0 := by
          intro e
          have := hz.mp e
          subst this
          exact g13 rfl
        rw [if_neg hy0] at hQ1
        refine ar_lload_n 17 rfl d_X5_lengthOfText_16 rfl ?_
        refine ar_ldc2 255 20 rfl d_X5_lengthOfText_17 lc_X5_103 rfl ?_
        refine ar_land 21 rfl d_X5_lengthOfText_20 ?_
        refine ar_l2i 22 rfl d_X5_lengthOfText_21 ?_
        refine ar_top (y := ((NL y % 256 : Nat) : Int)) (lAn_n y) ?_
        refine ar_ist_5 24 rfl d_X5_lengthOfText_22 rfl (by intro _ h; cases h) ?_
        refine ar_iload 26 rfl d_X5_lengthOfText_24 rfl ?_
        refine ar_bipush 28 rfl d_X5_lengthOfText_26 rfl ?_
        refine ar_icmp_lt 38 31 rfl rfl d_X5_lengthOfText_28 (by omega) (by omega) (fun g28 => ?_) (fun g28 => ?_)
        · refine ar_iconst 39 rfl d_X5_lengthOfText_38 ?_
          refine WA.ret (some (Vi _)) ⟨d_X5_lengthOfText_39, rfl, Or.inl rfl⟩ ?_
          rw [if_pos (by omega)] at hQ1
          exact hQ1
        · refine ar_iload 33 rfl d_X5_lengthOfText_31 rfl ?_
          refine ar_bipush 35 rfl d_X5_lengthOfText_33 rfl ?_
          refine ar_icmp_le 40 38 rfl rfl d_X5_lengthOfText_35 (by omega) (by omega) (fun g35 => ?_) (fun g35 => ?_)
          · refine ar_inc_2 (y := ((len + 1 : Nat) : Int)) 43 rfl d_X5_lengthOfText_40 rfl (by intro _ h; cases h) (by omega) ?_
            refine ar_lload_n 44 rfl d_X5_lengthOfText_43 rfl ?_
            refine ar_bipush 46 rfl d_X5_lengthOfText_44 rfl ?_
            refine ar_lushr 47 rfl d_X5_lengthOfText_46 ?_
            refine ar_lst_3 48 rfl d_X5_lengthOfText_47 rfl (by intro _ h; cases h) ?_
            refine ar_goto 4 rfl d_X5_lengthOfText_48 ?_
            rw [if_neg (by omega), ← hs] at hQ1
            exact ih (len + 1) (lUs y 8) _ (by omega) hi hQ1
          · refine ar_iconst 39 rfl d_X5_lengthOfText_38 ?_
            refine WA.ret (some (Vi _)) ⟨d_X5_lengthOfText_39, rfl, Or.inl rfl⟩ ?_
            rw [if_pos (by omega)] at hQ1
            exact hQ1
  refine ar_iconst 1 rfl d_X5_lengthOfText_0 ?_
  refine ar_ist_2 2 rfl d_X5_lengthOfText_1 rfl (by intro _ h; cases h) ?_
  refine ar_lload_n 3 rfl d_X5_lengthOfText_2 rfl ?_
  refine ar_lst_3 4 rfl d_X5_lengthOfText_3 rfl (by intro _ h; cases h) ?_
  exact loop 8 0 v Vu rfl hv hQ
end TYP
