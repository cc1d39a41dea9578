-- ===== the reference's questions =====
/-- what a recipe names: shelves (0) or loaves (1) -/
def cNm (w : Int) (c : Rcpe) : Nat := if w = 0 then cSh c else cLo c
theorem cNm_app {w : Int} {l : Nat} {c : Rcpe} {x : Int × Int} (hw : w = 0 ∨ w = 1) (h0 : 0 ≤ x.1 ∧ x.1 ≤ 6) (hx : x.1 = 0 → VK l x.2) : cNm w (c ++ [x]) = cNm w c ||| (if oK x = w then 2 ^ (oA x).toNat else 0) := by
  unfold cNm oK oA
  rcases hw with e | e
  · subst e
    rw [if_pos rfl, if_pos rfl, cSh_app]
    by_cases e0 : x.1 = 0
    · by_cases e1 : x.2 < 20
      · rw [if_pos ⟨e0, e1⟩, if_pos e0, if_pos e1, if_pos rfl, if_neg (by omega)]
      · rw [if_neg (by omega), if_pos e0, if_neg e1, if_neg (by omega)]
    · rw [if_neg (by omega), if_neg e0, if_neg (by omega)]
  · subst e
    rw [if_neg (by omega), if_neg (by omega), cLo_app]
    by_cases e0 : x.1 = 0
    · by_cases e1 : x.2 < 20
      · rw [if_neg (by omega), if_pos e0, if_pos e1, if_neg (by omega)]
      · rw [if_pos ⟨e0, by omega⟩, if_pos e0, if_neg e1, if_pos rfl, if_pos ⟨e0, by omega⟩]
    · rw [if_neg (by omega), if_neg e0, if_neg (by omega)]
theorem cNm_lt {w : Int} {l : Nat} {c : Rcpe} (hl : l < 6) (h : ∀ x ∈ c, x.1 = 0 → VK l x.2) : cNm w c < 4096 := by
  unfold cNm
  split
  · exact cSh_lt (fun x hx e0 e1 => by rcases h x hx e0 with e | e <;> omega)
  · exact cLo_lt (fun x hx e0 e1 => by rcases h x hx e0 with e | e <;> omega)
theorem iSr_n {a j : Nat} (ha : a < 4096) (hj : j < 12) : iSr (a : Int) (j : Int) = ((a >>> j : Nat) : Int) := by
  have h1 : (Int32.ofInt (a : Int)).toInt = (a : Int) := by rw [on_I, nI_toInt (by omega)]
  have hc : ∀ j : Fin 12, ((Int32.ofInt (j.val : Int) &&& 31).toBitVec.smod 32).toNat = j.val := by decide +kernel
  unfold iSr
  show ((Int32.ofInt (a : Int)).toBitVec.sshiftRight' ((Int32.ofInt (j : Int) &&& 31).toBitVec.smod 32)).toInt = _
  rw [BitVec.sshiftRight_eq', BitVec.toInt_sshiftRight, hc ⟨j, hj⟩]
  show (Int32.ofInt (a : Int)).toInt >>> j = _
  rw [h1]
  rfl
theorem bit_r {a j : Nat} (ha : a < 4096) (hj : j < 12) : iAn (iSr (a : Int) (j : Int)) 1 = if a.testBit j = true then 1 else 0 := by
  rw [iSr_n ha hj, ← iUs_n (by omega) (by omega)]
  exact bit_n (by omega) (by omega)
section REF11
variable {G : GT} {d k n : Nat} {σ : Sg} {Q : Option AV → Sg → Prop} {C : CS}
theorem sp_X6_namedBy {a l : Nat} {S : SS} {w : Int} (ha : sk σ a = (10, 1496)) (hr : Rs (hI σ a) S) (hw : WFS S) (hl : l < 6) (hww : w = 0 ∨ w = 1) (hQ : Q (some (Vi ((cNm w (S.2.2 l) : Nat) : Int))) σ) : WA G d k n mX6_namedBy 0 [Va a, Vi (l : Int), Vi w, Vu, Vu] [] σ Q := by
  have hc := hw.2.2.2.2.2.2.2.2 l hl
  have hcl := hc.1
  have h26 := (hr.2.1 l hl).1
  have hord := (hr.2.1 l hl).2
  have loop : ∀ (r i : Nat), (S.2.2 l).length - i = r → i ≤ (S.2.2 l).length → WA G d k n mX6_namedBy 5 [Va a, Vi (l : Int), Vi w, Vi ((cNm w ((S.2.2 l).take i) : Nat) : Int), Vi (i : Int)] [] σ Q := by
    intro r
    induction r using Nat.strongRecOn with
    | ind r ih =>
    intro i hr9 hi
    refine ar_iload 7 rfl d_X6_namedBy_5 rfl ?_
    refine ar_aload_n 8 rfl d_X6_namedBy_7 rfl ?_
    refine ar_bipush 10 rfl d_X6_namedBy_8 rfl ?_
    refine ar_iload_n 11 rfl d_X6_namedBy_10 rfl ?_
    refine ar_iadd 12 rfl d_X6_namedBy_11 ?_
    refine ar_top (y := ((26 + l : Nat) : Int)) (by omega) ?_
    refine ar_ilv (y := ((S.2.2 l).length : Int)) 13 rfl d_X6_namedBy_12 (by assumption) (by omega) (by rw [Int.toNat_natCast]; exact h26) ?_
    refine ar_icmp_ge 60 16 rfl rfl d_X6_namedBy_13 (by omega) (by omega) (fun g13 => ?_) (fun g13 => ?_)
    · refine ar_iload_n 61 rfl d_X6_namedBy_60 rfl ?_
      refine WA.ret (some (Vi _)) ⟨d_X6_namedBy_61, rfl, Or.inl rfl⟩ ?_
      rw [List.take_of_length_le (by omega)]
      exact hQ
    · have hlt : i < (S.2.2 l).length := by omega
      obtain ⟨x, hx⟩ : ∃ x, (S.2.2 l)[i]? = some x := ⟨_, List.getElem?_eq_getElem hlt⟩
      have hxm := List.mem_of_getElem? hx
      have hxc := hc.2 x hxm
      have hoo := hord i x hx
      have hok := (oK_b hc hxm).1
      have htk : (S.2.2 l).take (i + 1) = (S.2.2 l).take i ++ [x] := by rw [List.take_succ, hx]; rfl
      have hap := cNm_app (c := (S.2.2 l).take i) hww ⟨hxc.1, hxc.2.1⟩ hxc.2.2.1
      rw [← htk] at hap
      have hb1 : cNm w ((S.2.2 l).take i) < 4096 := cNm_lt hl (fun y hy => (hc.2 y (List.mem_of_mem_take hy)).2.2.1)
      have h52 : WA G d k n mX6_namedBy 53 [Va a, Vi (l : Int), Vi w, Vi ((cNm w ((S.2.2 l).take i) : Nat) : Int), Vi (i : Int)] [Vi ((cNm w ((S.2.2 l).take (i + 1)) : Nat) : Int)] σ Q := by
        refine ar_ist_3 54 rfl d_X6_namedBy_53 rfl (by intro _ h; cases h) ?_
        refine ar_inc_4 (y := ((i + 1 : Nat) : Int)) 57 rfl d_X6_namedBy_54 rfl (by intro _ h; cases h) (by omega) ?_
        refine ar_goto 5 rfl d_X6_namedBy_57 ?_
        exact ih ((S.2.2 l).length - (i + 1)) (by omega) (i + 1) rfl (by omega)
      refine ar_iload_n 17 rfl d_X6_namedBy_16 rfl ?_
      refine ar_aload_n 18 rfl d_X6_namedBy_17 rfl ?_
      refine ar_bipush 20 rfl d_X6_namedBy_18 rfl ?_
      refine ar_bipush 22 rfl d_X6_namedBy_20 rfl ?_
      refine ar_iload_n 23 rfl d_X6_namedBy_22 rfl ?_
      refine ar_imul 24 rfl d_X6_namedBy_23 ?_
      refine ar_iadd 25 rfl d_X6_namedBy_24 ?_
      refine ar_iload 27 rfl d_X6_namedBy_25 rfl ?_
      refine ar_iadd 28 rfl d_X6_namedBy_27 ?_
      refine ar_top (y := ((32 + 64 * l + i : Nat) : Int)) (by omega) ?_
      refine ar_ilv (y := (oK x)) 29 rfl d_X6_namedBy_28 (by assumption) (by omega) (by rw [Int.toNat_natCast]; exact hoo.1) ?_
      refine ar_iload_n 30 rfl d_X6_namedBy_29 rfl ?_
      refine ar_icmp_ne 51 33 rfl rfl d_X6_namedBy_30 (by omega) (by omega) (fun g30 => ?_) (fun g30 => ?_)
      · rw [if_neg g30, Nat.or_zero] at hap
        refine ar_iconst 52 rfl d_X6_namedBy_51 ?_
        refine ar_ior 53 rfl d_X6_namedBy_52 ?_
        refine ar_top (y := ((cNm w ((S.2.2 l).take (i + 1)) : Nat) : Int)) ?_ ?_
        · rw [hap]
          exact (iOr_n (b := 0) (by omega) (by omega)).trans (by rw [Nat.or_zero])
        exact h52
      · rw [if_pos g30] at hap
        have hoA : 0 ≤ oA x ∧ oA x < 12 := by
          have e0 : x.1 = 0 := by
            unfold oK at g30
            split at g30
            · assumption
            · omega
          unfold oA
          rcases hxc.2.2.1 e0 with e | e
          · rw [if_neg (by omega)]
            omega
          · rw [if_pos (by omega)]
            omega
        obtain ⟨q, hq⟩ : ∃ q : Nat, oA x = (q : Int) := ⟨(oA x).toNat, by omega⟩
        have hq12 : q < 12 := by omega
        have hp2 : 2 ^ q ≤ 2 ^ 11 := Nat.pow_le_pow_right (by decide) (by omega)
        rw [hq, Int.toNat_natCast] at hap
        refine ar_iconst 34 rfl d_X6_namedBy_33 ?_
        refine ar_aload_n 35 rfl d_X6_namedBy_34 rfl ?_
        refine ar_sipush 38 rfl d_X6_namedBy_35 rfl ?_
        refine ar_bipush 40 rfl d_X6_namedBy_38 rfl ?_
        refine ar_iload_n 41 rfl d_X6_namedBy_40 rfl ?_
        refine ar_imul 42 rfl d_X6_namedBy_41 ?_
        refine ar_iadd 43 rfl d_X6_namedBy_42 ?_
        refine ar_iload 45 rfl d_X6_namedBy_43 rfl ?_
        refine ar_iadd 46 rfl d_X6_namedBy_45 ?_
        refine ar_top (y := ((416 + 64 * l + i : Nat) : Int)) (by omega) ?_
        refine ar_ilv (y := (q : Int)) 47 rfl d_X6_namedBy_46 (by assumption) (by omega) (by rw [Int.toNat_natCast, ← hq]; exact hoo.2) ?_
        refine ar_ishl 48 rfl d_X6_namedBy_47 ?_
        refine ar_top (y := ((2 ^ q : Nat) : Int)) (iSl_1 q (by omega)) ?_
        refine ar_goto 52 rfl d_X6_namedBy_48 ?_
        refine ar_ior 53 rfl d_X6_namedBy_52 ?_
        refine ar_top (y := ((cNm w ((S.2.2 l).take (i + 1)) : Nat) : Int)) ?_ ?_
        · rw [hap]
          exact iOr_n (by omega) (by omega)
        exact h52
  have l0 := loop _ 0 rfl (by omega)
  have e0 : cNm w ((S.2.2 l).take 0) = 0 := by
    unfold cNm
    rw [List.take_zero]
    split <;> rfl
  rw [e0] at l0
  refine ar_iconst 1 rfl d_X6_namedBy_0 ?_
  refine ar_ist_3 2 rfl d_X6_namedBy_1 rfl (by intro _ h; cases h) ?_
  refine ar_iconst 3 rfl d_X6_namedBy_2 ?_
  refine ar_ist_4 5 rfl d_X6_namedBy_3 rfl (by intro _ h; cases h) ?_
  exact l0
theorem sp_X6_ofShelf {x w : Int} (h : RepM C σ) (hx : i32 x) (hwd : i32 w) (hdp : 40 ≤ d) (hQ : Q (some (Vi (ofSF x w C))) σ) : WA G d k n mX6_ofShelf 0 [Va 625, Vi x, Vi w, Vu, Vu] [] σ Q := by
  obtain ⟨hS, hn, hh, hk9, hp9⟩ := id h
  have hw := hn.2.1
  unfold ofSF at hQ
  have k625 := hS.k625
  have r0 := hS.r0
  have k626 := hS.k626
  refine ar_iload_n 1 rfl d_X6_ofShelf_0 rfl ?_
  refine ar_callS0 (M' := mX6_isShelf) (As := [_]) (ls' := [Vi _]) 4 rfl d_X6_ofShelf_1 ml_X6_228 mt_X6_isShelf rfl (Nat.le_of_ble_eq_true rfl) rfl (Nat.le_of_ble_eq_true rfl) (by omega) ?_
  refine sp_X6_isShelf hx (by omega) (fun g1 => ?_) (fun g1 => ?_)
  · refine ar_if_ne 9 7 rfl rfl d_X6_ofShelf_4 (by omega) (fun g4 => ?_) (fun h => absurd h (by decide))
    refine ar_iload_n 10 rfl d_X6_ofShelf_9 rfl ?_
    refine ar_i2l 11 rfl d_X6_ofShelf_10 (by omega) ?_
    refine ar_lconst 0 12 rfl d_X6_ofShelf_11 rfl ?_
    refine ar_ldc2 2 15 rfl d_X6_ofShelf_12 lc_X6_243 rfl ?_
    refine ar_callS0 (M' := mX6_in) (As := [_, _, _]) (ls' := [Vl _, Vu, Vl _, Vu, Vl _, Vu]) 18 rfl d_X6_ofShelf_15 ml_X6_91 mt_X6_in rfl (Nat.le_of_ble_eq_true rfl) rfl (Nat.le_of_ble_eq_true rfl) (by omega) ?_
    refine sp_X6_in (by constructor <;> omega) (by constructor <;> omega) (by constructor <;> omega) (fun g2 => ?_) (fun g2 => ?_)
    · refine ar_if_ne 24 21 rfl rfl d_X6_ofShelf_18 (by omega) (fun g18 => ?_) (fun h => absurd h (by decide))
      rw [if_neg (fun h => h g1)] at hQ
      obtain ⟨p, rfl⟩ : ∃ p : Nat, x = (p : Int) := ⟨x.toNat, by omega⟩
      have hp : p < 12 := by omega
      simp only [Int.toNat_natCast] at hQ
      have h2p : hI σ 626 (2 + p) = C.1.1 (2 + p) := hn.1.1 _ (by omega)
      have h14 : hI σ 626 (14 + p) = C.1.1 (14 + p) := hn.1.1 _ (by omega)
      have loop : ∀ (r i : Nat), 6 - i = r → i ≤ 6 → WA G d k n mX6_ofShelf 29 [Va 625, Vi (p : Int), Vi w, Vi ((lset (fun l => (cSh (C.1.2.2 l)).testBit p) i : Nat) : Int), Vi (i : Int)] [] σ Q := by
        intro r
        induction r using Nat.strongRecOn with
        | ind r ih =>
        intro i hr9 hi
        refine ar_iload 31 rfl d_X6_ofShelf_29 rfl ?_
        refine ar_bipush 33 rfl d_X6_ofShelf_31 rfl ?_
        refine ar_icmp_ge 62 36 rfl rfl d_X6_ofShelf_33 (by omega) (by omega) (fun g33 => ?_) (fun g33 => ?_)
        · have hi6 : i = 6 := by omega
          subst hi6
          refine ar_iload_n 63 rfl d_X6_ofShelf_62 rfl ?_
          refine ar_if_ne 77 66 rfl rfl d_X6_ofShelf_63 (by omega) (fun g63 => ?_) (fun g63 => ?_)
          · rw [if_neg g63] at hQ
            refine ar_iload_n 78 rfl d_X6_ofShelf_77 rfl ?_
            refine ar_iconst 79 rfl d_X6_ofShelf_78 ?_
            refine ar_icmp_ne 94 82 rfl rfl d_X6_ofShelf_79 (by omega) (by omega) (fun g79 => ?_) (fun g79 => ?_)
            · rw [if_neg g79, if_pos (by omega)] at hQ
              refine ar_iload_n 95 rfl d_X6_ofShelf_94 rfl ?_
              refine WA.ret (some (Vi _)) ⟨d_X6_ofShelf_95, rfl, Or.inl rfl⟩ ?_
              exact hQ
            · rw [if_pos g79] at hQ
              refine ar_aload_n 83 rfl d_X6_ofShelf_82 rfl ?_
              refine ar_getA 86 rfl d_X6_ofShelf_83 fl_X6_7 rfl (by assumption) (by assumption) ?_
              refine ar_bipush 88 rfl d_X6_ofShelf_86 rfl ?_
              refine ar_iload_n 89 rfl d_X6_ofShelf_88 rfl ?_
              refine ar_iadd 90 rfl d_X6_ofShelf_89 ?_
              refine ar_top (y := ((14 + p : Nat) : Int)) (by omega) ?_
              refine ar_ilv (y := (C.1.1 (14 + p))) 91 rfl d_X6_ofShelf_90 (by assumption) (by omega) (by rw [Int.toNat_natCast]; exact h14) ?_
              refine ar_goto 95 rfl d_X6_ofShelf_91 ?_
              refine WA.ret (some (Vi _)) ⟨d_X6_ofShelf_95, rfl, Or.inl rfl⟩ ?_
              exact hQ
          · rw [if_pos g63] at hQ
            refine ar_aload_n 67 rfl d_X6_ofShelf_66 rfl ?_
            refine ar_getA 70 rfl d_X6_ofShelf_67 fl_X6_7 rfl (by assumption) (by assumption) ?_
            refine ar_iconst 71 rfl d_X6_ofShelf_70 ?_
            refine ar_iload_n 72 rfl d_X6_ofShelf_71 rfl ?_
            refine ar_iadd 73 rfl d_X6_ofShelf_72 ?_
            refine ar_top (y := ((2 + p : Nat) : Int)) (by omega) ?_
            refine ar_ilv (y := (C.1.1 (2 + p))) 74 rfl d_X6_ofShelf_73 (by assumption) (by omega) (by rw [Int.toNat_natCast]; exact h2p) ?_
            refine ar_goto 95 rfl d_X6_ofShelf_74 ?_
            refine WA.ret (some (Vi _)) ⟨d_X6_ofShelf_95, rfl, Or.inl rfl⟩ ?_
            exact hQ
        · refine ar_iload_n 37 rfl d_X6_ofShelf_36 rfl ?_
          refine ar_aload_n 38 rfl d_X6_ofShelf_37 rfl ?_
          refine ar_getA 41 rfl d_X6_ofShelf_38 fl_X6_7 rfl (by assumption) (by assumption) ?_
          refine ar_iload 43 rfl d_X6_ofShelf_41 rfl ?_
          refine ar_iconst 44 rfl d_X6_ofShelf_43 ?_
          refine ar_callS0 (M' := mX6_namedBy) (As := [_, _, _]) (ls' := [Vr _, Vi _, Vi _, Vu, Vu]) 47 rfl d_X6_ofShelf_44 ml_X6_245 mt_X6_namedBy rfl (Nat.le_of_ble_eq_true rfl) rfl (Nat.le_of_ble_eq_true rfl) (by omega) ?_
          refine sp_X6_namedBy k626 hn.1 hw (by omega) (Or.inl rfl) ?_
          refine ar_iload_n 48 rfl d_X6_ofShelf_47 rfl ?_
          refine ar_ishr 49 rfl d_X6_ofShelf_48 ?_
          refine ar_iconst 50 rfl d_X6_ofShelf_49 ?_
          refine ar_iand 51 rfl d_X6_ofShelf_50 ?_
          refine ar_top (y := (if (cSh (C.1.2.2 i)).testBit p = true then 1 else 0 : Int)) (bit_r (a := cNm 0 (C.1.2.2 i)) (cNm_lt (l := i) (by omega) (fun y hy => ((hw.2.2.2.2.2.2.2.2 i (by omega)).2 y hy).2.2.1)) hp) ?_
          refine ar_iload 53 rfl d_X6_ofShelf_51 rfl ?_
          refine ar_ishl 54 rfl d_X6_ofShelf_53 ?_
          refine ar_ior 55 rfl d_X6_ofShelf_54 ?_
          refine ar_top (y := ((lset (fun l => (cSh (C.1.2.2 l)).testBit p) (i + 1) : Nat) : Int)) ?_ ?_
          · have hlt := lset_lt (fun l => (cSh (C.1.2.2 l)).testBit p) i (by omega)
            by_cases e : (cSh (C.1.2.2 i)).testBit p = true
            · rw [if_pos e]
              exact lset_s (fun l => (cSh (C.1.2.2 l)).testBit p) i (by omega) e
            · rw [if_neg e, lset_n (fun l => (cSh (C.1.2.2 l)).testBit p) i e, iSl_0 i (by omega)]
              exact (iOr_n (b := 0) (by omega) (by omega)).trans (by rw [Nat.or_zero])
          refine ar_ist_3 56 rfl d_X6_ofShelf_55 rfl (by intro _ h; cases h) ?_
          refine ar_inc_4 (y := ((i + 1 : Nat) : Int)) 59 rfl d_X6_ofShelf_56 rfl (by intro _ h; cases h) (by omega) ?_
          refine ar_goto 29 rfl d_X6_ofShelf_59 ?_
          exact ih (6 - (i + 1)) (by omega) (i + 1) rfl (by omega)
      refine ar_iconst 25 rfl d_X6_ofShelf_24 ?_
      refine ar_ist_3 26 rfl d_X6_ofShelf_25 rfl (by intro _ h; cases h) ?_
      refine ar_iconst 27 rfl d_X6_ofShelf_26 ?_
      refine ar_ist_4 29 rfl d_X6_ofShelf_27 rfl (by intro _ h; cases h) ?_
      exact loop _ 0 rfl (by omega)
    · refine ar_if_ne 24 21 rfl rfl d_X6_ofShelf_18 (by omega) (fun h => absurd h (by decide)) (fun g18 => ?_)
      refine ar_bipush 23 rfl d_X6_ofShelf_21 rfl ?_
      refine WA.ret (some (Vi _)) ⟨d_X6_ofShelf_23, rfl, Or.inl rfl⟩ ?_
      rw [if_neg (fun h => h g1), if_neg (by omega), if_neg (by omega), if_neg (by omega)] at hQ
      exact hQ
  · refine ar_if_ne 9 7 rfl rfl d_X6_ofShelf_4 (by omega) (fun h => absurd h (by decide)) (fun g4 => ?_)
    refine ar_iconst 8 rfl d_X6_ofShelf_7 ?_
    refine WA.ret (some (Vi _)) ⟨d_X6_ofShelf_8, rfl, Or.inl rfl⟩ ?_
    rw [if_pos g1] at hQ
    exact hQ
theorem sp_X6_ofLoaf {x w : Int} (h : RepM C σ) (hx : i32 x) (hwd : i32 w) (hdp : 40 ≤ d) (hQ : Q (some (Vi (ofLF x w C))) σ) : WA G d k n mX6_ofLoaf 0 [Va 625, Vi x, Vi w, Vu, Vu] [] σ Q := by
  obtain ⟨hS, hn, hh, hk9, hp9⟩ := id h
  have hw := hn.2.1
  have hb := hw.bd
  have hb1 := hb.1
  have h814 := hn.1.2.2.2.1
  unfold ofLF at hQ
  have k625 := hS.k625
  have r0 := hS.r0
  have k626 := hS.k626
  refine ar_iload_n 1 rfl d_X6_ofLoaf_0 rfl ?_
  refine ar_callS0 (M' := mX6_isLoaf) (As := [_]) (ls' := [Vi _]) 4 rfl d_X6_ofLoaf_1 ml_X6_234 mt_X6_isLoaf rfl (Nat.le_of_ble_eq_true rfl) rfl (Nat.le_of_ble_eq_true rfl) (by omega) ?_
  refine sp_X6_isLoaf hx (by omega) (fun g1 => ?_) (fun g1 => ?_)
  · refine ar_if_ne 9 7 rfl rfl d_X6_ofLoaf_4 (by omega) (fun g4 => ?_) (fun h => absurd h (by decide))
    refine ar_iload_n 10 rfl d_X6_ofLoaf_9 rfl ?_
    rw [if_neg (fun h => h g1)] at hQ
    obtain ⟨p, rfl⟩ : ∃ p : Nat, x = (p : Int) := ⟨x.toNat, by omega⟩
    have hp : p < 6 := by omega
    simp only [Int.toNat_natCast] at hQ
    have h26 : hI σ 626 (26 + p) = ((C.1.2.2 p).length : Int) := (hn.1.2.1 p hp).1
    have hcl := hb.2.2 p hp
    have h800 : hI σ 626 (800 + p) = C.1.1 (800 + p) := hn.1.2.2.1 _ (by omega) (by omega)
    have h806 : hI σ 626 (806 + p) = C.1.1 (806 + p) := hn.1.2.2.1 _ (by omega) (by omega)
    by_cases c0 : w = 0
    · subst c0
      rw [if_pos rfl] at hQ
      refine ar_tsIn (off := 38) 48 d_X6_ofLoaf_10 (by omega) (by omega) rfl rfl ?_
      refine ar_aload_n 49 rfl d_X6_ofLoaf_48 rfl ?_
      refine ar_getA 52 rfl d_X6_ofLoaf_49 fl_X6_7 rfl (by assumption) (by assumption) ?_
      refine ar_bipush 54 rfl d_X6_ofLoaf_52 rfl ?_
      refine ar_iload_n 55 rfl d_X6_ofLoaf_54 rfl ?_
      refine ar_iadd 56 rfl d_X6_ofLoaf_55 ?_
      refine ar_top (y := ((26 + p : Nat) : Int)) (by omega) ?_
      refine ar_ilv (y := ((C.1.2.2 p).length : Int)) 57 rfl d_X6_ofLoaf_56 (by assumption) (by omega) (by rw [Int.toNat_natCast]; exact h26) ?_
      refine ar_if_le 64 60 rfl rfl d_X6_ofLoaf_57 (by omega) (fun g57 => ?_) (fun g57 => ?_)
      · refine ar_iconst 65 rfl d_X6_ofLoaf_64 ?_
        refine WA.ret (some (Vi _)) ⟨d_X6_ofLoaf_65, rfl, Or.inl rfl⟩ ?_
        rw [if_pos (List.length_eq_zero_iff.mp (by omega))] at hQ
        exact hQ
      · refine ar_iconst 61 rfl d_X6_ofLoaf_60 ?_
        refine ar_goto 65 rfl d_X6_ofLoaf_61 ?_
        refine WA.ret (some (Vi _)) ⟨d_X6_ofLoaf_65, rfl, Or.inl rfl⟩ ?_
        rw [if_neg (fun e => by rw [e] at g57; exact g57 (Int.le_refl 0))] at hQ
        exact hQ
    · rw [if_neg c0] at hQ
      by_cases c1 : w = 1
      · subst c1
        rw [if_pos rfl] at hQ
        refine ar_tsIn (off := 56) 66 d_X6_ofLoaf_10 (by omega) (by omega) rfl rfl ?_
        refine ar_aload_n 67 rfl d_X6_ofLoaf_66 rfl ?_
        refine ar_getA 70 rfl d_X6_ofLoaf_67 fl_X6_7 rfl (by assumption) (by assumption) ?_
        refine ar_iload_n 71 rfl d_X6_ofLoaf_70 rfl ?_
        refine ar_iconst 72 rfl d_X6_ofLoaf_71 ?_
        refine ar_callS0 (M' := mX6_namedBy) (As := [_, _, _]) (ls' := [Vr _, Vi _, Vi _, Vu, Vu]) 75 rfl d_X6_ofLoaf_72 ml_X6_245 mt_X6_namedBy rfl (Nat.le_of_ble_eq_true rfl) rfl (Nat.le_of_ble_eq_true rfl) (by omega) ?_
        refine sp_X6_namedBy k626 hn.1 hw hp (Or.inl rfl) ?_
        refine WA.ret (some (Vi _)) ⟨d_X6_ofLoaf_75, rfl, Or.inl rfl⟩ ?_
        exact hQ
      · rw [if_neg c1] at hQ
        by_cases c2 : w = 2
        · subst c2
          rw [if_pos rfl] at hQ
          refine ar_tsIn (off := 66) 76 d_X6_ofLoaf_10 (by omega) (by omega) rfl rfl ?_
          refine ar_aload_n 77 rfl d_X6_ofLoaf_76 rfl ?_
          refine ar_getA 80 rfl d_X6_ofLoaf_77 fl_X6_7 rfl (by assumption) (by assumption) ?_
          refine ar_iload_n 81 rfl d_X6_ofLoaf_80 rfl ?_
          refine ar_iconst 82 rfl d_X6_ofLoaf_81 ?_
          refine ar_callS0 (M' := mX6_namedBy) (As := [_, _, _]) (ls' := [Vr _, Vi _, Vi _, Vu, Vu]) 85 rfl d_X6_ofLoaf_82 ml_X6_245 mt_X6_namedBy rfl (Nat.le_of_ble_eq_true rfl) rfl (Nat.le_of_ble_eq_true rfl) (by omega) ?_
          refine sp_X6_namedBy k626 hn.1 hw hp (Or.inr rfl) ?_
          refine WA.ret (some (Vi _)) ⟨d_X6_ofLoaf_85, rfl, Or.inl rfl⟩ ?_
          exact hQ
        · rw [if_neg c2] at hQ
          by_cases c3 : w = 3
          · subst c3
            rw [if_pos rfl] at hQ
            refine ar_tsIn (off := 76) 86 d_X6_ofLoaf_10 (by omega) (by omega) rfl rfl ?_
            refine ar_aload_n 87 rfl d_X6_ofLoaf_86 rfl ?_
            refine ar_getA 90 rfl d_X6_ofLoaf_87 fl_X6_7 rfl (by assumption) (by assumption) ?_
            refine ar_sipush 93 rfl d_X6_ofLoaf_90 rfl ?_
            refine ar_iload_n 94 rfl d_X6_ofLoaf_93 rfl ?_
            refine ar_iadd 95 rfl d_X6_ofLoaf_94 ?_
            refine ar_top (y := ((800 + p : Nat) : Int)) (by omega) ?_
            refine ar_ilv (y := (C.1.1 (800 + p))) 96 rfl d_X6_ofLoaf_95 (by assumption) (by omega) (by rw [Int.toNat_natCast]; exact h800) ?_
            refine WA.ret (some (Vi _)) ⟨d_X6_ofLoaf_96, rfl, Or.inl rfl⟩ ?_
            exact hQ
          · rw [if_neg c3] at hQ
            by_cases c4 : w = 4
            · subst c4
              rw [if_pos rfl] at hQ
              refine ar_tsIn (off := 87) 97 d_X6_ofLoaf_10 (by omega) (by omega) rfl rfl ?_
              refine ar_aload_n 98 rfl d_X6_ofLoaf_97 rfl ?_
              refine ar_getA 101 rfl d_X6_ofLoaf_98 fl_X6_7 rfl (by assumption) (by assumption) ?_
              refine ar_sipush 104 rfl d_X6_ofLoaf_101 rfl ?_
              refine ar_iload_n 105 rfl d_X6_ofLoaf_104 rfl ?_
              refine ar_iadd 106 rfl d_X6_ofLoaf_105 ?_
              refine ar_top (y := ((806 + p : Nat) : Int)) (by omega) ?_
              refine ar_ilv (y := (C.1.1 (806 + p))) 107 rfl d_X6_ofLoaf_106 (by assumption) (by omega) (by rw [Int.toNat_natCast]; exact h806) ?_
              refine WA.ret (some (Vi _)) ⟨d_X6_ofLoaf_107, rfl, Or.inl rfl⟩ ?_
              exact hQ
            · rw [if_neg c4] at hQ
              by_cases c5 : w = 5
              · subst c5
                rw [if_pos rfl] at hQ
                refine ar_tsIn (off := 98) 108 d_X6_ofLoaf_10 (by omega) (by omega) rfl rfl ?_
                have loop : ∀ (r i : Nat), C.1.2.1.length - i = r → i ≤ C.1.2.1.length → WA G d k n mX6_ofLoaf 113 [Va 625, Vi (p : Int), Vi 5, Vi (((C.1.2.1.take i).filter (isOf (p : Int))).length : Int), Vi (i : Int)] [] σ Q := by
                  intro r
                  induction r using Nat.strongRecOn with
                  | ind r ih =>
                  intro i hr9 hi
                  refine ar_iload 115 rfl d_X6_ofLoaf_113 rfl ?_
                  refine ar_aload_n 116 rfl d_X6_ofLoaf_115 rfl ?_
                  refine ar_getA 119 rfl d_X6_ofLoaf_116 fl_X6_7 rfl (by assumption) (by assumption) ?_
                  refine ar_sipush 122 rfl d_X6_ofLoaf_119 rfl ?_
                  refine ar_ilv (y := (C.1.2.1.length : Int)) 123 rfl d_X6_ofLoaf_122 (by assumption) (by omega) h814 ?_
                  refine ar_icmp_ge 156 126 rfl rfl d_X6_ofLoaf_123 (by omega) (by omega) (fun g123 => ?_) (fun g123 => ?_)
                  · refine ar_iload_n 157 rfl d_X6_ofLoaf_156 rfl ?_
                    refine WA.ret (some (Vi _)) ⟨d_X6_ofLoaf_157, rfl, Or.inl rfl⟩ ?_
                    rw [List.take_of_length_le (by omega)]
                    exact hQ
                  · have hlt : i < C.1.2.1.length := by omega
                    obtain ⟨M, hM⟩ : ∃ M, C.1.2.1[i]? = some M := ⟨_, List.getElem?_eq_getElem hlt⟩
                    have hWM := hw.2.2.2.2.2.2.1 M (List.mem_of_getElem? hM)
                    have hl1 := hWM.1
                    have hl2 := hWM.2.1
                    have htk : C.1.2.1.take (i + 1) = C.1.2.1.take i ++ [M] := by rw [List.take_succ, hM]; rfl
                    obtain ⟨m0, m1, m2, m3, m4, m5, m6⟩ := hn.1.2.2.2.2.2 i M hM
                    have h149 : WA G d k n mX6_ofLoaf 149 [Va 625, Vi (p : Int), Vi 5, Vi (((C.1.2.1.take i).filter (isOf (p : Int))).length : Int), Vi (i : Int)] [Vi (((C.1.2.1.take (i + 1)).filter (isOf (p : Int))).length : Int)] σ Q := by
                      refine ar_ist_3 150 rfl d_X6_ofLoaf_149 rfl (by intro _ h; cases h) ?_
                      refine ar_inc_4 (y := ((i + 1 : Nat) : Int)) 153 rfl d_X6_ofLoaf_150 rfl (by intro _ h; cases h) (by omega) ?_
                      refine ar_goto 113 rfl d_X6_ofLoaf_153 ?_
                      exact ih (C.1.2.1.length - (i + 1)) (by omega) (i + 1) rfl (by omega)
                    rw [htk, List.filter_append, List.length_append] at h149
                    refine ar_iload_n 127 rfl d_X6_ofLoaf_126 rfl ?_
                    refine ar_aload_n 128 rfl d_X6_ofLoaf_127 rfl ?_
                    refine ar_getA 131 rfl d_X6_ofLoaf_128 fl_X6_7 rfl (by assumption) (by assumption) ?_
                    refine ar_iload 133 rfl d_X6_ofLoaf_131 rfl ?_
                    refine ar_callS0 (M' := mX6_memoryAt) (As := [_]) (ls' := [Vi _]) 136 rfl d_X6_ofLoaf_133 ml_X6_147 mt_X6_memoryAt rfl (Nat.le_of_ble_eq_true rfl) rfl (Nat.le_of_ble_eq_true rfl) (by omega) ?_
                    refine sp_X6_memoryAt (by omega) ?_
                    refine ar_iconst 137 rfl d_X6_ofLoaf_136 ?_
                    refine ar_iadd 138 rfl d_X6_ofLoaf_137 ?_
                    refine ar_top (y := ((816 + 40 * i + 1 : Nat) : Int)) (by omega) ?_
                    refine ar_ilv (y := (mLoaf M)) 139 rfl d_X6_ofLoaf_138 (by assumption) (by omega) (by rw [Int.toNat_natCast]; exact m1) ?_
                    refine ar_iload_n 140 rfl d_X6_ofLoaf_139 rfl ?_
                    refine ar_icmp_ne 147 143 rfl rfl d_X6_ofLoaf_140 (by omega) (by omega) (fun g140 => ?_) (fun g140 => ?_)
                    · have e9 : isOf (p : Int) M = false := by
                        unfold isOf
                        simpa using g140
                      rw [List.filter_cons_of_neg (by rw [e9]; decide)] at h149
                      refine ar_iconst 148 rfl d_X6_ofLoaf_147 ?_
                      refine ar_iadd 149 rfl d_X6_ofLoaf_148 ?_
                      exact h149
                    · have e9 : isOf (p : Int) M = true := by
                        unfold isOf
                        simpa using g140
                      rw [List.filter_cons_of_pos e9] at h149
                      refine ar_iconst 144 rfl d_X6_ofLoaf_143 ?_
                      refine ar_goto 148 rfl d_X6_ofLoaf_144 ?_
                      refine ar_iadd 149 rfl d_X6_ofLoaf_148 ?_
                      exact h149
                refine ar_iconst 109 rfl d_X6_ofLoaf_108 ?_
                refine ar_ist_3 110 rfl d_X6_ofLoaf_109 rfl (by intro _ h; cases h) ?_
                refine ar_iconst 111 rfl d_X6_ofLoaf_110 ?_
                refine ar_ist_4 113 rfl d_X6_ofLoaf_111 rfl (by intro _ h; cases h) ?_
                exact loop _ 0 rfl (by omega)
              · rw [if_neg c5] at hQ
                refine ar_tsOut 158 d_X6_ofLoaf_10 (by omega) (by omega) rfl ?_
                refine ar_bipush 160 rfl d_X6_ofLoaf_158 rfl ?_
                refine WA.ret (some (Vi _)) ⟨d_X6_ofLoaf_160, rfl, Or.inl rfl⟩ ?_
                exact hQ
  · refine ar_if_ne 9 7 rfl rfl d_X6_ofLoaf_4 (by omega) (fun h => absurd h (by decide)) (fun g4 => ?_)
    refine ar_iconst 8 rfl d_X6_ofLoaf_7 ?_
    refine WA.ret (some (Vi _)) ⟨d_X6_ofLoaf_8, rfl, Or.inl rfl⟩ ?_
    rw [if_pos g1] at hQ
    exact hQ
theorem sp_X6_ofMemory {m w : Int} (h : RepM C σ) (hm : i32 m) (hwd : i32 w) (hdp : 40 ≤ d) (hQ : Q (some (Vi (ofMF m w C))) σ) : WA G d k n mX6_ofMemory 0 [Va 625, Vi m, Vi w] [] σ Q := by
  obtain ⟨hS, hn, hh, hk9, hp9⟩ := id h
  have hw := hn.2.1
  have hb1 := hw.bd.1
  have h814 := hn.1.2.2.2.1
  unfold ofMF at hQ
  have k625 := hS.k625
  have r0 := hS.r0
  have k626 := hS.k626
  refine ar_iload_n 1 rfl d_X6_ofMemory_0 rfl ?_
  refine ar_i2l 2 rfl d_X6_ofMemory_1 (by omega) ?_
  refine ar_lconst 0 3 rfl d_X6_ofMemory_2 rfl ?_
  refine ar_aload_n 4 rfl d_X6_ofMemory_3 rfl ?_
  refine ar_getA 7 rfl d_X6_ofMemory_4 fl_X6_7 rfl (by assumption) (by assumption) ?_
  refine ar_sipush 10 rfl d_X6_ofMemory_7 rfl ?_
  refine ar_ilv (y := (C.1.2.1.length : Int)) 11 rfl d_X6_ofMemory_10 (by assumption) (by omega) h814 ?_
  refine ar_iconst 12 rfl d_X6_ofMemory_11 ?_
  refine ar_isub 13 rfl d_X6_ofMemory_12 ?_
  refine ar_i2l 14 rfl d_X6_ofMemory_13 (by omega) ?_
  refine ar_callS0 (M' := mX6_in) (As := [_, _, _]) (ls' := [Vl _, Vu, Vl _, Vu, Vl _, Vu]) 17 rfl d_X6_ofMemory_14 ml_X6_91 mt_X6_in rfl (Nat.le_of_ble_eq_true rfl) rfl (Nat.le_of_ble_eq_true rfl) (by omega) ?_
  refine sp_X6_in (by constructor <;> omega) (by constructor <;> omega) (by constructor <;> omega) (fun g2 => ?_) (fun g2 => ?_)
  · refine ar_if_ne 22 20 rfl rfl d_X6_ofMemory_17 (by omega) (fun g17 => ?_) (fun h => absurd h (by decide))
    obtain ⟨p, rfl⟩ : ∃ p : Nat, m = (p : Int) := ⟨m.toNat, by omega⟩
    obtain ⟨M, hM⟩ : ∃ M, C.1.2.1[p]? = some M := ⟨_, List.getElem?_eq_getElem (by omega)⟩
    obtain ⟨m0, m1, m2, m3, m4, m5, m6⟩ := hn.1.2.2.2.2.2 p M hM
    rw [if_neg (by omega), Int.toNat_natCast, hM] at hQ
    simp only [] at hQ
    unfold mF at hQ
    refine ar_iload_n 23 rfl d_X6_ofMemory_22 rfl ?_
    refine ar_i2l 24 rfl d_X6_ofMemory_23 (by omega) ?_
    refine ar_lconst 0 25 rfl d_X6_ofMemory_24 rfl ?_
    refine ar_ldc2 4 28 rfl d_X6_ofMemory_25 lc_X6_249 rfl ?_
    refine ar_callS0 (M' := mX6_in) (As := [_, _, _]) (ls' := [Vl _, Vu, Vl _, Vu, Vl _, Vu]) 31 rfl d_X6_ofMemory_28 ml_X6_91 mt_X6_in rfl (Nat.le_of_ble_eq_true rfl) rfl (Nat.le_of_ble_eq_true rfl) (by omega) ?_
    refine sp_X6_in (by constructor <;> omega) (by constructor <;> omega) (by constructor <;> omega) (fun g3 => ?_) (fun g3 => ?_)
    · refine ar_if_eq 50 34 rfl rfl d_X6_ofMemory_31 (by omega) (fun h => absurd h (by decide)) (fun g31 => ?_)
      refine ar_aload_n 35 rfl d_X6_ofMemory_34 rfl ?_
      refine ar_getA 38 rfl d_X6_ofMemory_35 fl_X6_7 rfl (by assumption) (by assumption) ?_
      refine ar_iload_n 39 rfl d_X6_ofMemory_38 rfl ?_
      refine ar_callS0 (M' := mX6_memoryAt) (As := [_]) (ls' := [Vi _]) 42 rfl d_X6_ofMemory_39 ml_X6_147 mt_X6_memoryAt rfl (Nat.le_of_ble_eq_true rfl) rfl (Nat.le_of_ble_eq_true rfl) (by omega) ?_
      refine sp_X6_memoryAt (by omega) ?_
      refine ar_iconst 43 rfl d_X6_ofMemory_42 ?_
      refine ar_iadd 44 rfl d_X6_ofMemory_43 ?_
      refine ar_iload_n 45 rfl d_X6_ofMemory_44 rfl ?_
      obtain ⟨q, rfl⟩ : ∃ q : Nat, w = (q : Int) := ⟨w.toNat, by omega⟩
      refine ar_iadd 46 rfl d_X6_ofMemory_45 ?_
      refine ar_top (y := ((816 + 40 * p + 1 + q : Nat) : Int)) (by omega) ?_
      have hv : hI σ 626 (816 + 40 * p + 1 + q) = (if (q : Int) = 0 then mLoaf M else if (q : Int) = 1 then mRes M else if (q : Int) = 2 then ((mLk M).length : Int) else if (q : Int) = 3 then mSteps M else if (q : Int) = 4 then mUses M else -2) := by
        rcases (show q = 0 ∨ q = 1 ∨ q = 2 ∨ q = 3 ∨ q = 4 by omega) with e | e | e | e | e <;> subst e
        · exact m1
        · exact m2
        · exact m3
        · exact m4
        · exact m5
      rw [← hv] at hQ
      refine ar_ilv (y := (hI σ 626 (816 + 40 * p + 1 + q))) 47 rfl d_X6_ofMemory_46 (by assumption) (by omega) (by rw [Int.toNat_natCast]) ?_
      refine ar_goto 52 rfl d_X6_ofMemory_47 ?_
      refine WA.ret (some (Vi _)) ⟨d_X6_ofMemory_52, rfl, Or.inl rfl⟩ ?_
      exact hQ
    · refine ar_if_eq 50 34 rfl rfl d_X6_ofMemory_31 (by omega) (fun g31 => ?_) (fun h => absurd h (by decide))
      refine ar_bipush 52 rfl d_X6_ofMemory_50 rfl ?_
      refine WA.ret (some (Vi _)) ⟨d_X6_ofMemory_52, rfl, Or.inl rfl⟩ ?_
      rw [if_neg (by omega), if_neg (by omega), if_neg (by omega), if_neg (by omega), if_neg (by omega)] at hQ
      exact hQ
  · refine ar_if_ne 22 20 rfl rfl d_X6_ofMemory_17 (by omega) (fun h => absurd h (by decide)) (fun g17 => ?_)
    refine ar_iconst 21 rfl d_X6_ofMemory_20 ?_
    refine WA.ret (some (Vi _)) ⟨d_X6_ofMemory_21, rfl, Or.inl rfl⟩ ?_
    rw [if_pos (by omega)] at hQ
    exact hQ
theorem sp_X6_look {m i w : Int} (h : RepM C σ) (hm : i32 m) (hi : i32 i) (hwd : i32 w) (hdp : 40 ≤ d) (hQ : Q (some (Vi (lookF m i w C))) σ) : WA G d k n mX6_look 0 [Va 625, Vi m, Vi i, Vi w] [] σ Q := by
  obtain ⟨hS, hn, hh, hk9, hp9⟩ := id h
  have hw := hn.2.1
  have hb := hw.bd
  have hb1 := hb.1
  have h814 := hn.1.2.2.2.1
  unfold lookF at hQ
  have k625 := hS.k625
  have r0 := hS.r0
  have k626 := hS.k626
  refine ar_iload_n 1 rfl d_X6_look_0 rfl ?_
  refine ar_i2l 2 rfl d_X6_look_1 (by omega) ?_
  refine ar_lconst 0 3 rfl d_X6_look_2 rfl ?_
  refine ar_aload_n 4 rfl d_X6_look_3 rfl ?_
  refine ar_getA 7 rfl d_X6_look_4 fl_X6_7 rfl (by assumption) (by assumption) ?_
  refine ar_sipush 10 rfl d_X6_look_7 rfl ?_
  refine ar_ilv (y := (C.1.2.1.length : Int)) 11 rfl d_X6_look_10 (by assumption) (by omega) h814 ?_
  refine ar_iconst 12 rfl d_X6_look_11 ?_
  refine ar_isub 13 rfl d_X6_look_12 ?_
  refine ar_i2l 14 rfl d_X6_look_13 (by omega) ?_
  refine ar_callS0 (M' := mX6_in) (As := [_, _, _]) (ls' := [Vl _, Vu, Vl _, Vu, Vl _, Vu]) 17 rfl d_X6_look_14 ml_X6_91 mt_X6_in rfl (Nat.le_of_ble_eq_true rfl) rfl (Nat.le_of_ble_eq_true rfl) (by omega) ?_
  refine sp_X6_in (by constructor <;> omega) (by constructor <;> omega) (by constructor <;> omega) (fun g2 => ?_) (fun g2 => ?_)
  · refine ar_if_eq 43 20 rfl rfl d_X6_look_17 (by omega) (fun h => absurd h (by decide)) (fun g17 => ?_)
    obtain ⟨p, rfl⟩ : ∃ p : Nat, m = (p : Int) := ⟨m.toNat, by omega⟩
    obtain ⟨M, hM⟩ : ∃ M, C.1.2.1[p]? = some M := ⟨_, List.getElem?_eq_getElem (by omega)⟩
    obtain ⟨m0, m1, m2, m3, m4, m5, m6⟩ := hn.1.2.2.2.2.2 p M hM
    rw [if_neg (by omega), Int.toNat_natCast, hM] at hQ
    simp only [] at hQ
    unfold lkMF at hQ
    have hlen := hb.2.1 M (List.mem_of_getElem? hM)
    refine ar_iload_n 21 rfl d_X6_look_20 rfl ?_
    refine ar_i2l 22 rfl d_X6_look_21 (by omega) ?_
    refine ar_lconst 0 23 rfl d_X6_look_22 rfl ?_
    refine ar_aload_n 24 rfl d_X6_look_23 rfl ?_
    refine ar_getA 27 rfl d_X6_look_24 fl_X6_7 rfl (by assumption) (by assumption) ?_
    refine ar_iload_n 28 rfl d_X6_look_27 rfl ?_
    refine ar_callS0 (M' := mX6_memoryAt) (As := [_]) (ls' := [Vi _]) 31 rfl d_X6_look_28 ml_X6_147 mt_X6_memoryAt rfl (Nat.le_of_ble_eq_true rfl) rfl (Nat.le_of_ble_eq_true rfl) (by omega) ?_
    refine sp_X6_memoryAt (by omega) ?_
    refine ar_iconst 32 rfl d_X6_look_31 ?_
    refine ar_iadd 33 rfl d_X6_look_32 ?_
    refine ar_top (y := ((816 + 40 * p + 3 : Nat) : Int)) (by omega) ?_
    refine ar_ilv (y := ((mLk M).length : Int)) 34 rfl d_X6_look_33 (by assumption) (by omega) (by rw [Int.toNat_natCast]; exact m3) ?_
    refine ar_iconst 35 rfl d_X6_look_34 ?_
    refine ar_isub 36 rfl d_X6_look_35 ?_
    refine ar_i2l 37 rfl d_X6_look_36 (by omega) ?_
    refine ar_callS0 (M' := mX6_in) (As := [_, _, _]) (ls' := [Vl _, Vu, Vl _, Vu, Vl _, Vu]) 40 rfl d_X6_look_37 ml_X6_91 mt_X6_in rfl (Nat.le_of_ble_eq_true rfl) rfl (Nat.le_of_ble_eq_true rfl) (by omega) ?_
    refine sp_X6_in (by constructor <;> omega) (by constructor <;> omega) (by constructor <;> omega) (fun g3 => ?_) (fun g3 => ?_)
    · refine ar_if_ne 45 43 rfl rfl d_X6_look_40 (by omega) (fun g40 => ?_) (fun h => absurd h (by decide))
      obtain ⟨q, rfl⟩ : ∃ q : Nat, i = (q : Int) := ⟨i.toNat, by omega⟩
      obtain ⟨x, hx⟩ : ∃ x, (mLk M)[q]? = some x := ⟨_, List.getElem?_eq_getElem (by omega)⟩
      have hxx := m6 q x hx
      rw [if_neg (by omega), Int.toNat_natCast, hx] at hQ
      simp only [] at hQ
      refine ar_iload_n 46 rfl d_X6_look_45 rfl ?_
      refine ar_i2l 47 rfl d_X6_look_46 (by omega) ?_
      refine ar_lconst 0 48 rfl d_X6_look_47 rfl ?_
      refine ar_lconst 1 49 rfl d_X6_look_48 rfl ?_
      refine ar_callS0 (M' := mX6_in) (As := [_, _, _]) (ls' := [Vl _, Vu, Vl _, Vu, Vl _, Vu]) 52 rfl d_X6_look_49 ml_X6_91 mt_X6_in rfl (Nat.le_of_ble_eq_true rfl) rfl (Nat.le_of_ble_eq_true rfl) (by omega) ?_
      refine sp_X6_in (by constructor <;> omega) (by constructor <;> omega) (by constructor <;> omega) (fun g4 => ?_) (fun g4 => ?_)
      · refine ar_if_ne 60 55 rfl rfl d_X6_look_52 (by omega) (fun g52 => ?_) (fun h => absurd h (by decide))
        refine ar_aload_n 61 rfl d_X6_look_60 rfl ?_
        refine ar_getA 64 rfl d_X6_look_61 fl_X6_7 rfl (by assumption) (by assumption) ?_
        refine ar_iload_n 65 rfl d_X6_look_64 rfl ?_
        refine ar_callS0 (M' := mX6_memoryAt) (As := [_]) (ls' := [Vi _]) 68 rfl d_X6_look_65 ml_X6_147 mt_X6_memoryAt rfl (Nat.le_of_ble_eq_true rfl) rfl (Nat.le_of_ble_eq_true rfl) (by omega) ?_
        refine sp_X6_memoryAt (by omega) ?_
        refine ar_iload_n 69 rfl d_X6_look_68 rfl ?_
        refine ar_if_ne 77 72 rfl rfl d_X6_look_69 (by omega) (fun g69 => ?_) (fun g69 => ?_)
        · refine ar_bipush 79 rfl d_X6_look_77 rfl ?_
          refine ar_iadd 80 rfl d_X6_look_79 ?_
          refine ar_iload_n 81 rfl d_X6_look_80 rfl ?_
          refine ar_iadd 82 rfl d_X6_look_81 ?_
          refine ar_top (y := ((816 + 40 * p + 23 + q : Nat) : Int)) (by omega) ?_
          refine ar_ilv (y := x.2) 83 rfl d_X6_look_82 (by assumption) (by omega) (by rw [Int.toNat_natCast]; exact hxx.2) ?_
          refine WA.ret (some (Vi _)) ⟨d_X6_look_83, rfl, Or.inl rfl⟩ ?_
          rw [if_neg g69, if_pos (by omega)] at hQ
          exact hQ
        · refine ar_bipush 74 rfl d_X6_look_72 rfl ?_
          refine ar_goto 79 rfl d_X6_look_74 ?_
          refine ar_iadd 80 rfl d_X6_look_79 ?_
          refine ar_iload_n 81 rfl d_X6_look_80 rfl ?_
          refine ar_iadd 82 rfl d_X6_look_81 ?_
          refine ar_top (y := ((816 + 40 * p + 6 + q : Nat) : Int)) (by omega) ?_
          refine ar_ilv (y := x.1) 83 rfl d_X6_look_82 (by assumption) (by omega) (by rw [Int.toNat_natCast]; exact hxx.1) ?_
          refine WA.ret (some (Vi _)) ⟨d_X6_look_83, rfl, Or.inl rfl⟩ ?_
          rw [if_pos g69] at hQ
          exact hQ
      · refine ar_if_ne 60 55 rfl rfl d_X6_look_52 (by omega) (fun h => absurd h (by decide)) (fun g52 => ?_)
        refine ar_bipush 57 rfl d_X6_look_55 rfl ?_
        refine ar_goto 83 rfl d_X6_look_57 ?_
        refine WA.ret (some (Vi _)) ⟨d_X6_look_83, rfl, Or.inl rfl⟩ ?_
        rw [if_neg (by omega), if_neg (by omega)] at hQ
        exact hQ
    · refine ar_if_ne 45 43 rfl rfl d_X6_look_40 (by omega) (fun h => absurd h (by decide)) (fun g40 => ?_)
      refine ar_iconst 44 rfl d_X6_look_43 ?_
      refine WA.ret (some (Vi _)) ⟨d_X6_look_44, rfl, Or.inl rfl⟩ ?_
      rw [if_pos (by omega)] at hQ
      exact hQ
  · refine ar_if_eq 43 20 rfl rfl d_X6_look_17 (by omega) (fun g17 => ?_) (fun h => absurd h (by decide))
    refine ar_iconst 44 rfl d_X6_look_43 ?_
    refine WA.ret (some (Vi _)) ⟨d_X6_look_44, rfl, Or.inl rfl⟩ ?_
    rw [if_pos (by omega)] at hQ
    exact hQ
theorem sp_X6_count {w : Int} (h : RepM C σ) (hwd : i32 w) (hdp : 40 ≤ d) (hQ : Q (some (Vi (cntF w C))) σ) : WA G d k n mX6_count 0 [Va 625, Vi w, Vu, Vu] [] σ Q := by
  obtain ⟨hS, hn, hh, hk9, hp9⟩ := id h
  have hb := hn.2.1.bd
  have h814 := hn.1.2.2.2.1
  have h812 := hn.1.2.2.1 812 (by omega) (by omega)
  have h813 := hn.1.2.2.1 813 (by omega) (by omega)
  have h00 := hn.1.1 0 (by omega)
  have h01 := hn.1.1 1 (by omega)
  unfold cntF at hQ
  have k625 := hS.k625
  have r0 := hS.r0
  have k626 := hS.k626
  refine ar_iload_n 1 rfl d_X6_count_0 rfl ?_
  by_cases c0 : w = 0
  · subst c0
    rw [if_pos rfl] at hQ
    refine ar_tsIn (off := 47) 48 d_X6_count_1 (by omega) (by omega) rfl rfl ?_
    refine ar_aload_n 49 rfl d_X6_count_48 rfl ?_
    refine ar_getA 52 rfl d_X6_count_49 fl_X6_7 rfl (by assumption) (by assumption) ?_
    refine ar_sipush 55 rfl d_X6_count_52 rfl ?_
    refine ar_ilv (y := (C.1.2.1.length : Int)) 56 rfl d_X6_count_55 (by assumption) (by omega) h814 ?_
    refine WA.ret (some (Vi _)) ⟨d_X6_count_56, rfl, Or.inl rfl⟩ ?_
    exact hQ
  · rw [if_neg c0] at hQ
    by_cases c1 : w = 1
    · subst c1
      rw [if_pos rfl] at hQ
      refine ar_tsIn (off := 56) 57 d_X6_count_1 (by omega) (by omega) rfl rfl ?_
      refine ar_aload_n 58 rfl d_X6_count_57 rfl ?_
      refine ar_getA 61 rfl d_X6_count_58 fl_X6_7 rfl (by assumption) (by assumption) ?_
      refine ar_sipush 64 rfl d_X6_count_61 rfl ?_
      refine ar_ilv (y := (C.1.1 812)) 65 rfl d_X6_count_64 (by assumption) (by omega) h812 ?_
      refine WA.ret (some (Vi _)) ⟨d_X6_count_65, rfl, Or.inl rfl⟩ ?_
      exact hQ
    · rw [if_neg c1] at hQ
      by_cases c2 : w = 2
      · subst c2
        rw [if_pos rfl] at hQ
        refine ar_tsIn (off := 65) 66 d_X6_count_1 (by omega) (by omega) rfl rfl ?_
        refine ar_aload_n 67 rfl d_X6_count_66 rfl ?_
        refine ar_getA 70 rfl d_X6_count_67 fl_X6_7 rfl (by assumption) (by assumption) ?_
        refine ar_sipush 73 rfl d_X6_count_70 rfl ?_
        refine ar_ilv (y := (C.1.1 813)) 74 rfl d_X6_count_73 (by assumption) (by omega) h813 ?_
        refine WA.ret (some (Vi _)) ⟨d_X6_count_74, rfl, Or.inl rfl⟩ ?_
        exact hQ
      · rw [if_neg c2] at hQ
        by_cases c3 : w = 3
        · subst c3
          rw [if_pos rfl] at hQ
          refine ar_tsIn (off := 74) 75 d_X6_count_1 (by omega) (by omega) rfl rfl ?_
          refine ar_aload_n 76 rfl d_X6_count_75 rfl ?_
          refine ar_giv (y := (C.2.2.2.length : Int)) 79 rfl d_X6_count_76 fl_X6_101 rfl (by assumption) hp9.1 ?_
          refine WA.ret (some (Vi _)) ⟨d_X6_count_79, rfl, Or.inl rfl⟩ ?_
          exact hQ
        · rw [if_neg c3] at hQ
          by_cases c4 : w = 4
          · subst c4
            rw [if_pos rfl] at hQ
            refine ar_tsIn (off := 79) 80 d_X6_count_1 (by omega) (by omega) rfl rfl ?_
            refine ar_aload_n 81 rfl d_X6_count_80 rfl ?_
            refine ar_giv (y := (C.2.1.length : Int)) 84 rfl d_X6_count_81 fl_X6_216 rfl (by assumption) hh.1 ?_
            refine WA.ret (some (Vi _)) ⟨d_X6_count_84, rfl, Or.inl rfl⟩ ?_
            exact hQ
          · rw [if_neg c4] at hQ
            by_cases c5 : w = 5
            · subst c5
              rw [if_pos rfl] at hQ
              refine ar_tsIn (off := 84) 85 d_X6_count_1 (by omega) (by omega) rfl rfl ?_
              refine ar_aload_n 86 rfl d_X6_count_85 rfl ?_
              refine ar_getA 89 rfl d_X6_count_86 fl_X6_7 rfl (by assumption) (by assumption) ?_
              refine ar_iconst 90 rfl d_X6_count_89 ?_
              refine ar_ilv (y := (C.1.1 0)) 91 rfl d_X6_count_90 (by assumption) (by omega) h00 ?_
              refine WA.ret (some (Vi _)) ⟨d_X6_count_91, rfl, Or.inl rfl⟩ ?_
              exact hQ
            · rw [if_neg c5] at hQ
              by_cases c6 : w = 6
              · subst c6
                rw [if_pos rfl] at hQ
                refine ar_tsIn (off := 91) 92 d_X6_count_1 (by omega) (by omega) rfl rfl ?_
                refine ar_aload_n 93 rfl d_X6_count_92 rfl ?_
                refine ar_getA 96 rfl d_X6_count_93 fl_X6_7 rfl (by assumption) (by assumption) ?_
                refine ar_iconst 97 rfl d_X6_count_96 ?_
                refine ar_ilv (y := (C.1.1 1)) 98 rfl d_X6_count_97 (by assumption) (by omega) h01 ?_
                refine WA.ret (some (Vi _)) ⟨d_X6_count_98, rfl, Or.inl rfl⟩ ?_
                exact hQ
              · rw [if_neg c6] at hQ
                by_cases c7 : w = 7
                · subst c7
                  rw [if_pos rfl] at hQ
                  refine ar_tsIn (off := 98) 99 d_X6_count_1 (by omega) (by omega) rfl rfl ?_
                  have loop : ∀ (r i : Nat), 6 - i = r → i ≤ 6 → WA G d k n mX6_count 103 [Va 625, Vi 7, Vi ((lset (fun l => decide (C.1.2.2 l ≠ [])) i : Nat) : Int), Vi (i : Int)] [] σ Q := by
                    intro r
                    induction r using Nat.strongRecOn with
                    | ind r ih =>
                    intro i hr9 hi
                    refine ar_iload_n 104 rfl d_X6_count_103 rfl ?_
                    refine ar_bipush 106 rfl d_X6_count_104 rfl ?_
                    refine ar_icmp_ge 137 109 rfl rfl d_X6_count_106 (by omega) (by omega) (fun g106 => ?_) (fun g106 => ?_)
                    · refine ar_iload_n 138 rfl d_X6_count_137 rfl ?_
                      refine WA.ret (some (Vi _)) ⟨d_X6_count_138, rfl, Or.inl rfl⟩ ?_
                      have hi6 : i = 6 := by omega
                      subst hi6
                      exact hQ
                    · have h26 := (hn.1.2.1 i (by omega)).1
                      have hcl := hb.2.2 i (by omega)
                      have hlt := lset_lt (fun l => decide (C.1.2.2 l ≠ [])) i (by omega)
                      have h130 : WA G d k n mX6_count 130 [Va 625, Vi 7, Vi ((lset (fun l => decide (C.1.2.2 l ≠ [])) i : Nat) : Int), Vi (i : Int)] [Vi ((lset (fun l => decide (C.1.2.2 l ≠ [])) (i + 1) : Nat) : Int)] σ Q := by
                        refine ar_ist_2 131 rfl d_X6_count_130 rfl (by intro _ h; cases h) ?_
                        refine ar_inc_3 (y := ((i + 1 : Nat) : Int)) 134 rfl d_X6_count_131 rfl (by intro _ h; cases h) (by omega) ?_
                        refine ar_goto 103 rfl d_X6_count_134 ?_
                        exact ih (6 - (i + 1)) (by omega) (i + 1) rfl (by omega)
                      refine ar_iload_n 110 rfl d_X6_count_109 rfl ?_
                      refine ar_aload_n 111 rfl d_X6_count_110 rfl ?_
                      refine ar_getA 114 rfl d_X6_count_111 fl_X6_7 rfl (by assumption) (by assumption) ?_
                      refine ar_bipush 116 rfl d_X6_count_114 rfl ?_
                      refine ar_iload_n 117 rfl d_X6_count_116 rfl ?_
                      refine ar_iadd 118 rfl d_X6_count_117 ?_
                      refine ar_top (y := ((26 + i : Nat) : Int)) (by omega) ?_
                      refine ar_ilv (y := ((C.1.2.2 i).length : Int)) 119 rfl d_X6_count_118 (by assumption) (by omega) (by rw [Int.toNat_natCast]; exact h26) ?_
                      refine ar_if_le 128 122 rfl rfl d_X6_count_119 (by omega) (fun g119 => ?_) (fun g119 => ?_)
                      · refine ar_iconst 129 rfl d_X6_count_128 ?_
                        refine ar_ior 130 rfl d_X6_count_129 ?_
                        refine ar_top (y := ((lset (fun l => decide (C.1.2.2 l ≠ [])) (i + 1) : Nat) : Int)) ?_ ?_
                        · rw [lset_n (fun l => decide (C.1.2.2 l ≠ [])) i (by simp; exact List.length_eq_zero_iff.mp (by omega))]
                          exact (iOr_n (b := 0) (by omega) (by omega)).trans (by rw [Nat.or_zero])
                        exact h130
                      · refine ar_iconst 123 rfl d_X6_count_122 ?_
                        refine ar_iload_n 124 rfl d_X6_count_123 rfl ?_
                        refine ar_ishl 125 rfl d_X6_count_124 ?_
                        refine ar_goto 129 rfl d_X6_count_125 ?_
                        refine ar_ior 130 rfl d_X6_count_129 ?_
                        refine ar_top (lset_s (fun l => decide (C.1.2.2 l ≠ [])) i (by omega) (by simp; intro e; rw [e] at g119; exact g119 (Int.le_refl 0))) ?_
                        exact h130
                  refine ar_iconst 100 rfl d_X6_count_99 ?_
                  refine ar_ist_2 101 rfl d_X6_count_100 rfl (by intro _ h; cases h) ?_
                  refine ar_iconst 102 rfl d_X6_count_101 ?_
                  refine ar_ist_3 103 rfl d_X6_count_102 rfl (by intro _ h; cases h) ?_
                  exact loop _ 0 rfl (by omega)
                · rw [if_neg c7] at hQ
                  refine ar_tsOut 139 d_X6_count_1 (by omega) (by omega) rfl ?_
                  refine ar_bipush 141 rfl d_X6_count_139 rfl ?_
                  refine WA.ret (some (Vi _)) ⟨d_X6_count_141, rfl, Or.inl rfl⟩ ?_
                  exact hQ
set_option maxHeartbeats 8000000 in
theorem sp_X6_type {v : Int} (h : RepM C σ) (hv : i64 v) (hdp : 40 ≤ d) (hQ : ∀ σ', FrI 625 652 σ σ' → RepM (typF v C).1 σ' → Q (some (Vi (typF v C).2)) σ') : WA G d k n mX6_type 0 [Va 625, Vl v, Vu, Vu, Vu, Vu, Vu] [] σ Q := by
  obtain ⟨hS, hn, hh, hk9, hp9⟩ := id h
  have hp60 := hp9.2.1
  have hp1 := hp9.1
  unfold typF at hQ
  have hL8 := lnT_le 8 0 (NL v) (by omega)
  have hLo := lnT_ok 8 0 (NL v)
  generalize hLL : lnT 8 0 (NL v) = L at hQ hL8 hLo
  have k625 := hS.k625
  have r6 := hS.r6
  have k631 := hS.k631
  have loop : ∀ (r i : Nat) (σi : Sg) (x4 : AV), L - i = r → i ≤ L → 0 < L → C.2.2.2.length + L ≤ 60 → RepM (C.1, C.2.1, C.2.2.1, C.2.2.2 ++ (byt (NL v) L).take i) σi → FrI 625 652 σ σi → (∀ σ', FrI 625 652 σ σ' → RepM (C.1, C.2.1, C.2.2.1, C.2.2.2 ++ byt (NL v) L) σ' → Q (some (Vi ((C.2.2.2.length + L : Nat) : Int))) σ') → WA G d k n mX6_type 89 [Va 625, Vl v, Vu, Vi (L : Int), x4, Vu, Vi ((L : Int) - 1 - (i : Int))] [] σi Q := by
    intro r
    induction r using Nat.strongRecOn with
    | ind r ih =>
    intro i σi x4 hr hi hL0 hP hRi hfi hQi
    obtain ⟨hSi, hni, hhi, hki, hpi⟩ := id hRi
    have k625 := hSi.k625
    have r6 := hSi.r6
    have k631 := hSi.k631
    have hcl : (C.2.2.2 ++ (byt (NL v) L).take i).length = C.2.2.2.length + i := by
      rw [List.length_append, List.length_take, byt_len]
      omega
    have hpl : hI σi 625 7 = ((C.2.2.2.length + i : Nat) : Int) := by
      rw [← hcl]
      exact hpi.1
    refine ar_iload 91 rfl d_X6_type_89 rfl ?_
    refine ar_if_lt 131 94 rfl rfl d_X6_type_91 (by omega) (fun g91 => ?_) (fun g91 => ?_)
    · refine ar_aload_n 132 rfl d_X6_type_131 rfl ?_
      refine ar_giv (y := ((C.2.2.2.length + L : Nat) : Int)) 135 rfl d_X6_type_132 fl_X6_101 rfl (by assumption) (by rw [hpl, show i = L by omega]) ?_
      refine WA.ret (some (Vi _)) ⟨d_X6_type_135, rfl, Or.inl rfl⟩ ?_
      have hiL : i = L := by omega
      subst hiL
      rw [List.take_of_length_le (by rw [byt_len]; exact Nat.le_refl _)] at hRi
      exact hQi σi hfi hRi
    · have hi1 : i < L := by omega
      have hb := byt_at (n := NL v) hi1
      have hbo := (hLo hL0).2 (L - 1 - i) (by omega)
      refine ar_aload_n 95 rfl d_X6_type_94 rfl ?_
      refine ar_getA 98 rfl d_X6_type_95 fl_X6_26 rfl (by assumption) (by assumption) ?_
      refine ar_aload_n 99 rfl d_X6_type_98 rfl ?_
      refine ar_giv (y := ((C.2.2.2.length + i : Nat) : Int)) 102 rfl d_X6_type_99 fl_X6_101 rfl (by assumption) hpl ?_
      refine ar_lload_n 103 rfl d_X6_type_102 rfl ?_
      refine ar_bipush 105 rfl d_X6_type_103 rfl ?_
      refine ar_iload 107 rfl d_X6_type_105 rfl ?_
      refine ar_imul 108 rfl d_X6_type_107 ?_
      refine ar_top (y := ((8 * (L - 1 - i) : Nat) : Int)) (by omega) ?_
      refine ar_lushr 109 rfl d_X6_type_108 ?_
      refine ar_ldc2 255 112 rfl d_X6_type_109 lc_X6_138 rfl ?_
      refine ar_land 113 rfl d_X6_type_112 ?_
      refine ar_l2i 114 rfl d_X6_type_113 ?_
      refine ar_top (y := ((NL v >>> (8 * (L - 1 - i)) % 256 : Nat) : Int)) (by rw [lAn_n, NL_us (by omega)]) ?_
      generalize NL v >>> (8 * (L - 1 - i)) % 256 = x at hb hbo ⊢
      refine ar_iasN (C.2.2.2.length + i) 115 rfl d_X6_type_114 (by assumption) (by omega) (by omega) ?_
      refine ar_aload_n 116 rfl d_X6_type_115 rfl ?_
      refine ar_dup 117 rfl d_X6_type_116 (fun _ => rfl) ?_
      refine ar_giv (y := ((C.2.2.2.length + i : Nat) : Int)) 120 rfl d_X6_type_117 fl_X6_101 rfl (by assumption) (by rw [hI_off (by omega)]; exact hpl) ?_
      refine ar_iconst 121 rfl d_X6_type_120 ?_
      refine ar_iadd 122 rfl d_X6_type_121 ?_
      refine ar_top (y := ((C.2.2.2.length + i + 1 : Nat) : Int)) (by omega) ?_
      refine ar_putI 125 rfl d_X6_type_122 fl_X6_101 rfl rfl (by assumption) ?_
      refine ar_inc_6 (y := ((L : Int) - 1 - ((i + 1 : Nat) : Int))) 128 rfl d_X6_type_125 rfl (by intro _ h; cases h) (by omega) ?_
      refine ar_goto 89 rfl d_X6_type_128 ?_
      have htk : (byt (NL v) L).take (i + 1) = (byt (NL v) L).take i ++ [(x : Int)] := by rw [List.take_succ, hb]; rfl
      have hcl2 : (C.2.2.2 ++ (byt (NL v) L).take (i + 1)).length = C.2.2.2.length + i + 1 := by
        rw [List.length_append, List.length_take, byt_len]
        omega
      refine ih (L - (i + 1)) (by omega) (i + 1) _ _ rfl (by omega) hL0 hP ⟨hSi.e rfl, ?_, ⟨?_, hhi.2.1, ?_⟩, ?_, ?_, ?_, fun j y hy => ?_⟩ (hfi.tr ((FrI.w (by omega) (by omega)).tr (FrI.w (by omega) (by omega)))) hQi
      · rw [hI_off (by omega), hI_off (by omega)]; exact hni
      · rw [hI_w, if_neg (by omega), hI_off (by omega)]; exact hhi.1
      · rw [hI_off (by omega), hI_off (by omega)]; exact hhi.2.2
      · rw [hI_off (by omega), hI_off (by omega), hI_off (by omega), hI_off (by omega)]; exact hki
      · rw [hI_w, if_pos ⟨rfl, rfl⟩]
        show _ = (((C.2.2.2 ++ (byt (NL v) L).take (i + 1)).length : Nat) : Int)
        rw [hcl2]
      · show (C.2.2.2 ++ (byt (NL v) L).take (i + 1)).length ≤ 60
        omega
      · have hy : (C.2.2.2 ++ (byt (NL v) L).take (i + 1))[j]? = some y := hy
        rw [htk, ← List.append_assoc] at hy
        rw [hI_off (by omega)]
        by_cases e : j = C.2.2.2.length + i
        · rw [e, ← hcl, List.getElem?_append_right (Nat.le_refl _), Nat.sub_self] at hy
          simp only [List.getElem?_cons_zero] at hy
          cases hy
          rw [hI_w, if_pos ⟨rfl, e⟩]
          exact ⟨rfl, by omega, by omega⟩
        · have hj := (List.getElem?_eq_some_iff.mp hy).1
          rw [List.length_append, hcl] at hj
          simp only [List.length_cons, List.length_nil] at hj
          rw [List.getElem?_append_left (by omega)] at hy
          rw [hI_w, if_neg (fun h => e h.2)]
          exact hpi.2.2 j y hy
  have h70 : ∀ (x4 x6 : AV), 0 < L → WA G d k n mX6_type 70 [Va 625, Vl v, Vu, Vi (L : Int), x4, Vu, x6] [] σ Q := by
    intro x4 x6 hL0
    refine ar_aload_n 71 rfl d_X6_type_70 rfl ?_
    refine ar_giv (y := (C.2.2.2.length : Int)) 74 rfl d_X6_type_71 fl_X6_101 rfl (by assumption) hp1 ?_
    refine ar_iload_n 75 rfl d_X6_type_74 rfl ?_
    refine ar_iadd 76 rfl d_X6_type_75 ?_
    refine ar_bipush 78 rfl d_X6_type_76 rfl ?_
    refine ar_icmp_le 84 81 rfl rfl d_X6_type_78 (by omega) (by omega) (fun g78 => ?_) (fun g78 => ?_)
    · rw [if_neg (by omega), if_neg (by omega)] at hQ
      refine ar_iload_n 85 rfl d_X6_type_84 rfl ?_
      refine ar_iconst 86 rfl d_X6_type_85 ?_
      refine ar_isub 87 rfl d_X6_type_86 ?_
      refine ar_top (y := (L : Int) - 1 - ((0 : Nat) : Int)) (by omega) ?_
      refine ar_ist_6 89 rfl d_X6_type_87 rfl (by intro _ h; cases h) ?_
      refine loop L 0 σ _ rfl (by omega) hL0 (by omega) ?_ FrI.rf hQ
      rw [List.take_zero, List.append_nil]
      exact h
    · refine ar_bipush 83 rfl d_X6_type_81 rfl ?_
      refine WA.ret (some (Vi _)) ⟨d_X6_type_83, rfl, Or.inl rfl⟩ ?_
      rw [if_neg (by omega), if_pos (by omega)] at hQ
      exact hQ σ FrI.rf h
  have h56 : ∀ (many : Nat) (y : Int) (x6 : AV), many ≤ 8 → i64 y → (L = if NL y = 0 then many else 0) → WA G d k n mX6_type 56 [Va 625, Vl v, Vu, Vi (many : Int), Vl y, Vu, x6] [] σ Q := by
    intro many y x6 hm hy hLy
    have hz := NL_0 hy
    refine ar_iload_n 57 rfl d_X6_type_56 rfl ?_
    refine ar_if_eq 67 60 rfl rfl d_X6_type_57 (by omega) (fun g57 => ?_) (fun g57 => ?_)
    · refine ar_bipush 69 rfl d_X6_type_67 rfl ?_
      refine WA.ret (some (Vi _)) ⟨d_X6_type_69, rfl, Or.inl rfl⟩ ?_
      have hL0 : L = 0 := by
        rw [hLy]
        split <;> omega
      rw [if_pos hL0] at hQ
      exact hQ σ FrI.rf h
    · refine ar_lload 62 rfl d_X6_type_60 rfl ?_
      refine ar_lconst 0 63 rfl d_X6_type_62 rfl ?_
      refine ar_lcmp 64 rfl d_X6_type_63 (by first | exact hy | (constructor <;> omega)) (by first | exact hy | (constructor <;> omega)) ?_
      refine ar_if_eq 70 67 rfl rfl d_X6_type_64 (by split <;> (try split) <;> constructor <;> omega) (fun g64 => ?_) (fun g64 => ?_)
      · have hy0 : y = 0 := by
          rcases Int.lt_trichotomy y 0 with e | e | e
          · rw [if_neg (by omega), if_neg (by omega)] at g64
            exact absurd g64 (by decide)
          · exact e
          · rw [if_pos e] at g64
            exact absurd g64 (by decide)
        rw [if_pos (hz.mpr hy0)] at hLy
        rw [← hLy]
        exact h70 _ _ (by omega)
      · refine ar_bipush 69 rfl d_X6_type_67 rfl ?_
        refine WA.ret (some (Vi _)) ⟨d_X6_type_69, rfl, Or.inl rfl⟩ ?_
        have hy0 : ¬ NL y = 0 := by
          intro e
          have := hz.mp e
          subst this
          exact g64 rfl
        rw [if_neg hy0] at hLy
        rw [if_pos hLy] at hQ
        exact hQ σ FrI.rf h
  have loop1 : ∀ (u many : Nat) (y : Int) (x6 : AV), many + u = 8 → NL y < 2 ^ (8 * u) → i64 y → lnT u many (NL y) = L → WA G d k n mX6_type 5 [Va 625, Vl v, Vu, Vi (many : Int), Vl y, Vu, x6] [] σ Q := by
    intro u
    induction u with
    | zero =>
      intro many y x6 hm hlt hy hl
      have hN0 : NL y = 0 := by
        have hlt : NL y < 1 := hlt
        omega
      refine ar_iload_n 6 rfl d_X6_type_5 rfl ?_
      refine ar_bipush 8 rfl d_X6_type_6 rfl ?_
      refine ar_icmp_ge 56 11 rfl rfl d_X6_type_8 (by omega) (by omega) (fun g8 => ?_) (fun h => by omega)
      refine h56 many y x6 (by omega) hy ?_
      rw [if_pos hN0]
      exact hl.symm
    | succ u ih =>
      intro many y x6 hm hlt hy hl
      have hz := NL_0 hy
      rw [lnT] at hl
      have hi := i64_us y 8
      have hs : NL (lUs y ((8 : Nat) : Int)) = NL y / 256 := by
        rw [NL_us (by omega), Nat.shiftRight_eq_div_pow]
      have hlt2 : NL y / 256 < 2 ^ (8 * u) := by
        rw [show 8 * (u + 1) = 8 * u + 8 by omega, Nat.pow_add] at hlt
        exact Nat.div_lt_of_lt_mul (by omega)
      have ha := lAn_n y
      have hmod : NL y % 256 < 256 := Nat.mod_lt _ (by decide)
      refine ar_iload_n 6 rfl d_X6_type_5 rfl ?_
      refine ar_bipush 8 rfl d_X6_type_6 rfl ?_
      refine ar_icmp_ge 56 11 rfl rfl d_X6_type_8 (by omega) (by omega) (fun h => by omega) (fun g8 => ?_)
      refine ar_lload 13 rfl d_X6_type_11 rfl ?_
      refine ar_ldc2 255 16 rfl d_X6_type_13 lc_X6_138 rfl ?_
      refine ar_land 17 rfl d_X6_type_16 ?_
      rw [ha]
      refine ar_lconst 0 18 rfl d_X6_type_17 rfl ?_
      refine ar_lcmp 19 rfl d_X6_type_18 (by constructor <;> omega) (by constructor <;> omega) ?_
      refine ar_if_eq 56 22 rfl rfl d_X6_type_19 (by split <;> (try split) <;> constructor <;> omega) (fun g19 => ?_) (fun g19 => ?_)
      · have hm0 : NL y % 256 = 0 := by
          by_cases e : 0 < ((NL y % 256 : Nat) : Int)
          · rw [if_pos e] at g19
            exact absurd g19 (by decide)
          · omega
        refine h56 many y x6 (by omega) hy ?_
        by_cases e : NL y = 0
        · rw [if_pos e] at hl ⊢
          exact hl.symm
        · rw [if_neg e, if_pos (by omega)] at hl
          rw [if_neg e]
          exact hl.symm
      · have hm0 : NL y % 256 ≠ 0 := by
          intro e
          rw [e] at g19
          exact g19 rfl
        have hn0 : NL y ≠ 0 := fun e => hm0 (by rw [e])
        rw [if_neg hn0] at hl
        refine ar_lload 24 rfl d_X6_type_22 rfl ?_
        refine ar_ldc2 255 27 rfl d_X6_type_24 lc_X6_138 rfl ?_
        refine ar_land 28 rfl d_X6_type_27 ?_
        rw [ha]
        refine ar_ldc2 33 31 rfl d_X6_type_28 lc_X6_140 rfl ?_
        refine ar_ldc2 126 34 rfl d_X6_type_31 lc_X6_142 rfl ?_
        refine ar_callS0 (M' := mX6_in) (As := [_, _, _]) (ls' := [Vl _, Vu, Vl _, Vu, Vl _, Vu]) 37 rfl d_X6_type_34 ml_X6_91 mt_X6_in rfl (Nat.le_of_ble_eq_true rfl) rfl (Nat.le_of_ble_eq_true rfl) (by omega) ?_
        refine sp_X6_in (by constructor <;> omega) (by constructor <;> omega) (by constructor <;> omega) (fun g3 => ?_) (fun g3 => ?_)
        · refine ar_if_ne 43 40 rfl rfl d_X6_type_37 (by omega) (fun g37 => ?_) (fun h => absurd h (by decide))
          refine ar_inc_3 (y := ((many + 1 : Nat) : Int)) 46 rfl d_X6_type_43 rfl (by intro _ h; cases h) (by omega) ?_
          refine ar_lload 48 rfl d_X6_type_46 rfl ?_
          refine ar_bipush 50 rfl d_X6_type_48 rfl ?_
          refine ar_lushr 51 rfl d_X6_type_50 ?_
          refine ar_lst_4 53 rfl d_X6_type_51 rfl (by intro _ h; cases h) ?_
          refine ar_goto 5 rfl d_X6_type_53 ?_
          rw [if_neg (by omega)] at hl
          refine ih (many + 1) (lUs y 8) x6 (by omega) ?_ hi ?_
          · rw [show (8 : Int) = ((8 : Nat) : Int) from rfl, hs]
            exact hlt2
          · rw [show (8 : Int) = ((8 : Nat) : Int) from rfl, hs]
            exact hl
        · refine ar_if_ne 43 40 rfl rfl d_X6_type_37 (by omega) (fun h => absurd h (by decide)) (fun g37 => ?_)
          refine ar_bipush 42 rfl d_X6_type_40 rfl ?_
          refine WA.ret (some (Vi _)) ⟨d_X6_type_42, rfl, Or.inl rfl⟩ ?_
          rw [if_pos (by omega)] at hl
          rw [if_pos hl.symm] at hQ
          exact hQ σ FrI.rf h
  refine ar_iconst 1 rfl d_X6_type_0 ?_
  refine ar_ist_3 2 rfl d_X6_type_1 rfl (by intro _ h; cases h) ?_
  refine ar_lload_n 3 rfl d_X6_type_2 rfl ?_
  refine ar_lst_4 5 rfl d_X6_type_3 rfl (by intro _ h; cases h) ?_
  exact loop1 8 0 v _ rfl (NL_lt v) hv hLL
end REF11
