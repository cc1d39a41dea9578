/-- the reader over a text: where it stops, and what it has then -/
def rdT : RA → List Int → Option Nat × RA
  | st, [] => (none, st)
  | st, ch :: t => match stp st ch with
    | none => (some 0, st)
    | some st' => ((rdT st' t).1.map (· + 1), (rdT st' t).2)
def ffA (cs : List Int) : Int := match (rdT ([], 0, []) cs).1 with
  | some i => (i : Int)
  | none => if ((rdT ([], 0, []) cs).2.2.1 = 3 ∨ (rdT ([], 0, []) cs).2.2.1 = 2) ∧ (rdT ([], 0, []) cs).2.2.2 = [] then -6 else (cs.length : Int)
theorem rdT_app : ∀ (a b : List Int) (st st' : RA), rdT st a = (none, st') → rdT st (a ++ b) = ((rdT st' b).1.map (· + a.length), (rdT st' b).2)
  | [], b, st, st', h => by
    cases h
    show rdT st b = _
    cases hb : rdT st b with
    | mk x y => cases x <;> rfl
  | ch :: t, b, st, st', h => by
    rw [rdT] at h
    cases hs : stp st ch with
    | none =>
      rw [hs] at h
      cases h
    | some s1 =>
      rw [hs] at h
      simp only [] at h
      have h1 : (rdT s1 t).1 = none := by
        have := congrArg Prod.fst h
        simpa using this
      have h2 : (rdT s1 t).2 = st' := congrArg Prod.snd h
      have h3 := rdT_app t b s1 st' (by rw [← h2, ← h1])
      rw [List.cons_append, rdT, hs]
      simp only []
      rw [h3]
      refine Prod.ext ?_ rfl
      simp only []
      cases (rdT st' b).1 with
      | none => rfl
      | some i =>
        show some (i + t.length + 1) = some (i + (t.length + 1))
        rw [Nat.add_assoc]
section READ4
variable {G : GT} {d k n : Nat} {σ : Sg} {Q : Option AV → Sg → Prop}
set_option maxHeartbeats 8000000 in
theorem sp_X2_takesAfterRecipe {i g : Nat} {c : Rcpe} {W : List (Int × Nat)} {ch : Int} (hS : ShR σ) (hA : RRA σ (c, g, W)) (hRI : RI i (c, g, W)) (hi : i < 60) (hch : 0 ≤ ch ∧ ch ≤ 65535) (hdp : 3 ≤ d) (hP : PO (aft c W ch) σ Q) : WA G d k n mX2_takesAfterRecipe 0 [Va 156, Vi ch] [] σ Q := by
  have hk := hS.1
  have hk0 : sk σ 157 = (10, 60) := hS.2.1
  have hk1 : sk σ 158 = (10, 60) := hS.2.2.1
  have hk7 : sk σ 159 = (10, 60) := hS.2.2.2.1
  have hk8 : sk σ 160 = (10, 60) := hS.2.2.2.2.1
  have hr0 : hR σ 156 0 = some 157 := hS.2.2.2.2.2.1
  have hr1 : hR σ 156 1 = some 158 := hS.2.2.2.2.2.2.1
  have hr7 : hR σ 156 7 = some 159 := hS.2.2.2.2.2.2.2.1
  have hr8 : hR σ 156 8 = some 160 := hS.2.2.2.2.2.2.2.2
  have hlen : c.length < 60 := by have h9 : c.length ≤ i := hRI.1; omega
  have hWl : W.length < 60 := by have h9 : W.length ≤ i := hRI.2.1; omega
  have hW9 : hI σ 156 9 = (W.length : Int) := hA.2.2.1
  unfold aft at hP
  cases W with
  | nil =>
    have hW9 : hI σ 156 9 = 0 := hW9
    refine ar_aload_n 1 rfl d_X2_takesAfterRecipe_0 rfl ?_
    refine ar_giv (y := 0) 4 rfl d_X2_takesAfterRecipe_1 fl_X2_35 rfl (by assumption) hW9 ?_
    refine ar_if_ne 9 7 rfl rfl d_X2_takesAfterRecipe_4 (by omega) (fun h => absurd rfl h) (fun g4 => ?_)
    refine ar_iconst 8 rfl d_X2_takesAfterRecipe_7 ?_
    refine WA.ret (some (Vi _)) ⟨d_X2_takesAfterRecipe_8, rfl, Or.inr ⟨rfl, Or.inl rfl⟩⟩ ?_
    exact hP.no rfl
  | cons x T =>
    have hT : T.length < 60 := by simp only [List.length_cons] at hWl; omega
    have hW9 : hI σ 156 9 = ((T.length + 1 : Nat) : Int) := hW9
    have hx := hRI.2.2.2.2.1 x List.mem_cons_self
    have hx : OkW c x := hx
    have htop := hA.2.2.top.1
    simp only [] at hP
    refine ar_aload_n 1 rfl d_X2_takesAfterRecipe_0 rfl ?_
    refine ar_giv (y := ((T.length + 1 : Nat) : Int)) 4 rfl d_X2_takesAfterRecipe_1 fl_X2_35 rfl (by assumption) hW9 ?_
    refine ar_if_ne 9 7 rfl rfl d_X2_takesAfterRecipe_4 (by omega) (fun g4 => ?_) (fun h => by omega)
    refine ar_aload_n 10 rfl d_X2_takesAfterRecipe_9 rfl ?_
    refine ar_getA 13 rfl d_X2_takesAfterRecipe_10 fl_X2_18 rfl (by assumption) (by assumption) ?_
    refine ar_aload_n 14 rfl d_X2_takesAfterRecipe_13 rfl ?_
    refine ar_giv (y := ((T.length + 1 : Nat) : Int)) 17 rfl d_X2_takesAfterRecipe_14 fl_X2_35 rfl (by assumption) hW9 ?_
    refine ar_iconst 18 rfl d_X2_takesAfterRecipe_17 ?_
    refine ar_isub 19 rfl d_X2_takesAfterRecipe_18 ?_
    refine ar_top (y := (T.length : Int)) (by omega) ?_
    refine ar_ilv (y := x.1) 20 rfl d_X2_takesAfterRecipe_19 (by assumption) (by omega) htop ?_
    by_cases w10 : x.1 = 10
    · rw [if_pos w10] at hP
      rw [w10]
      refine ar_tsIn (off := 32) 52 d_X2_takesAfterRecipe_20 (by omega) (by omega) rfl rfl ?_
      refine ar_aload_n 53 rfl d_X2_takesAfterRecipe_52 rfl ?_
      refine ar_iload_n 54 rfl d_X2_takesAfterRecipe_53 rfl ?_
      refine ar_callV0 (M' := mX2_takesOperation) (As := [_]) (ls' := [Va _, Vi _]) 57 rfl d_X2_takesAfterRecipe_54 ml_X2_83 mt_X2_takesOperation (by assumption) rfl (Nat.le_of_ble_eq_true rfl) rfl (Nat.le_of_ble_eq_true rfl) (by omega) ?_
      refine sp_X2_takesOperation hS hA hT hch (by omega) ⟨fun σ1 st1 e1 hf1 hA1 => ?_, fun σ1 e1 hf1 => ?_⟩
      · refine WA.ret (some (Vi _)) ⟨d_X2_takesAfterRecipe_57, rfl, Or.inr ⟨rfl, (Or.inr rfl)⟩⟩ ?_
        exact hP.1 σ1 st1 e1 hf1 hA1
      · refine WA.ret (some (Vi _)) ⟨d_X2_takesAfterRecipe_57, rfl, Or.inr ⟨rfl, (Or.inl rfl)⟩⟩ ?_
        exact hP.2 σ1 e1 hf1
    · rw [if_neg w10] at hP
      by_cases w11 : x.1 = 11
      · rw [if_pos w11] at hP
        rw [w11]
        refine ar_tsIn (off := 38) 58 d_X2_takesAfterRecipe_20 (by omega) (by omega) rfl rfl ?_
        refine ar_iload_n 59 rfl d_X2_takesAfterRecipe_58 rfl ?_
        refine ar_bipush 61 rfl d_X2_takesAfterRecipe_59 rfl ?_
        refine ar_icmp_ne 75 64 rfl rfl d_X2_takesAfterRecipe_61 (by omega) (by omega) (fun g61 => ?_) (fun g61 => ?_)
        · refine ar_iconst 76 rfl d_X2_takesAfterRecipe_75 ?_
          refine WA.ret (some (Vi _)) ⟨d_X2_takesAfterRecipe_76, rfl, Or.inr ⟨rfl, Or.inl rfl⟩⟩ ?_
          exact hP.no (if_neg g61)
        · rw [if_pos g61] at hP
          refine ar_aload_n 65 rfl d_X2_takesAfterRecipe_64 rfl ?_
          refine ar_callV0 (M' := mX2_takesQuestion) (As := []) (ls' := [Va _]) 68 rfl d_X2_takesAfterRecipe_65 ml_X2_86 mt_X2_takesQuestion (by assumption) rfl (Nat.le_of_ble_eq_true rfl) rfl (Nat.le_of_ble_eq_true rfl) (by omega) ?_
          refine sp_X2_takesQuestion hS hA hT hlen (by omega) ⟨fun σ1 st1 e1 hf1 hA1 => ?_, fun σ1 e1 _ => absurd e1 (by simp)⟩
          refine ar_if_eq 75 71 rfl rfl d_X2_takesAfterRecipe_68 (by omega) (fun h => absurd h (by decide)) (fun g68 => ?_)
          refine ar_iconst 72 rfl d_X2_takesAfterRecipe_71 ?_
          refine ar_goto 76 rfl d_X2_takesAfterRecipe_72 ?_
          refine WA.ret (some (Vi _)) ⟨d_X2_takesAfterRecipe_76, rfl, Or.inr ⟨rfl, (by omega)⟩⟩ ?_
          exact hP.1 σ1 st1 e1 hf1 hA1
      · rw [if_neg w11] at hP
        by_cases w12 : x.1 = 12
        · rw [if_pos w12] at hP
          have hx2 : x.1 = 12 ∧ ∃ v, c[x.2]? = some (5, v) := by
            rcases hx with e | e | e | e | e
            · omega
            · omega
            · omega
            · exact e
            · omega
          rw [w12]
          refine ar_tsIn (off := 57) 77 d_X2_takesAfterRecipe_20 (by omega) (by omega) rfl rfl ?_
          refine ar_iload_n 78 rfl d_X2_takesAfterRecipe_77 rfl ?_
          refine ar_bipush 80 rfl d_X2_takesAfterRecipe_78 rfl ?_
          refine ar_icmp_ne 94 83 rfl rfl d_X2_takesAfterRecipe_80 (by omega) (by omega) (fun g80 => ?_) (fun g80 => ?_)
          · refine ar_iconst 95 rfl d_X2_takesAfterRecipe_94 ?_
            refine WA.ret (some (Vi _)) ⟨d_X2_takesAfterRecipe_95, rfl, Or.inr ⟨rfl, Or.inl rfl⟩⟩ ?_
            exact hP.no (if_neg g80)
          · rw [if_pos g80] at hP
            refine ar_aload_n 84 rfl d_X2_takesAfterRecipe_83 rfl ?_
            refine ar_callV0 (M' := mX2_takesColon) (As := []) (ls' := [Va _, Vu]) 87 rfl d_X2_takesAfterRecipe_84 ml_X2_90 mt_X2_takesColon (by assumption) rfl (Nat.le_of_ble_eq_true rfl) rfl (Nat.le_of_ble_eq_true rfl) (by omega) ?_
            refine sp_X2_takesColon hS hA hT hlen hx2 (by omega) ⟨fun σ1 st1 e1 hf1 hA1 => ?_, fun σ1 e1 _ => absurd e1 (by simp)⟩
            refine ar_if_eq 94 90 rfl rfl d_X2_takesAfterRecipe_87 (by omega) (fun h => absurd h (by decide)) (fun g87 => ?_)
            refine ar_iconst 91 rfl d_X2_takesAfterRecipe_90 ?_
            refine ar_goto 95 rfl d_X2_takesAfterRecipe_91 ?_
            refine WA.ret (some (Vi _)) ⟨d_X2_takesAfterRecipe_95, rfl, Or.inr ⟨rfl, (by omega)⟩⟩ ?_
            exact hP.1 σ1 st1 e1 hf1 hA1
        · rw [if_neg w12] at hP
          by_cases w13 : x.1 = 13
          · rw [if_pos w13] at hP
            have hx3 : x.1 = 13 ∧ ∃ v, c[x.2]? = some (6, v) := by
              rcases hx with e | e | e | e | e
              · omega
              · omega
              · omega
              · omega
              · exact e
            rw [w13]
            refine ar_tsIn (off := 76) 96 d_X2_takesAfterRecipe_20 (by omega) (by omega) rfl rfl ?_
            refine ar_iload_n 97 rfl d_X2_takesAfterRecipe_96 rfl ?_
            refine ar_bipush 99 rfl d_X2_takesAfterRecipe_97 rfl ?_
            refine ar_icmp_ne 113 102 rfl rfl d_X2_takesAfterRecipe_99 (by omega) (by omega) (fun g99 => ?_) (fun g99 => ?_)
            · refine ar_iconst 114 rfl d_X2_takesAfterRecipe_113 ?_
              refine WA.ret (some (Vi _)) ⟨d_X2_takesAfterRecipe_114, rfl, Or.inr ⟨rfl, Or.inl rfl⟩⟩ ?_
              exact hP.no (if_neg g99)
            · rw [if_pos g99] at hP
              refine ar_aload_n 103 rfl d_X2_takesAfterRecipe_102 rfl ?_
              refine ar_callV0 (M' := mX2_takesBrace) (As := []) (ls' := [Va _]) 106 rfl d_X2_takesAfterRecipe_103 ml_X2_93 mt_X2_takesBrace (by assumption) rfl (Nat.le_of_ble_eq_true rfl) rfl (Nat.le_of_ble_eq_true rfl) (by omega) ?_
              refine sp_X2_takesBrace hS hA hT hlen hx3 (by omega) ⟨fun σ1 st1 e1 hf1 hA1 => ?_, fun σ1 e1 _ => absurd e1 (by simp)⟩
              refine ar_if_eq 113 109 rfl rfl d_X2_takesAfterRecipe_106 (by omega) (fun h => absurd h (by decide)) (fun g106 => ?_)
              refine ar_iconst 110 rfl d_X2_takesAfterRecipe_109 ?_
              refine ar_goto 114 rfl d_X2_takesAfterRecipe_110 ?_
              refine WA.ret (some (Vi _)) ⟨d_X2_takesAfterRecipe_114, rfl, Or.inr ⟨rfl, (by omega)⟩⟩ ?_
              exact hP.1 σ1 st1 e1 hf1 hA1
          · rw [if_neg w13] at hP
            have ho : 2 ≤ x.1 ∧ x.1 ≤ 4 := by
              rcases hx with e | e | e | e | e
              · exact e
              · omega
              · omega
              · omega
              · omega
            refine ar_tsOut 115 d_X2_takesAfterRecipe_20 (by omega) (by omega) rfl ?_
            refine ar_iload_n 116 rfl d_X2_takesAfterRecipe_115 rfl ?_
            refine ar_bipush 118 rfl d_X2_takesAfterRecipe_116 rfl ?_
            refine ar_icmp_ne 132 121 rfl rfl d_X2_takesAfterRecipe_118 (by omega) (by omega) (fun g118 => ?_) (fun g118 => ?_)
            · refine ar_iconst 133 rfl d_X2_takesAfterRecipe_132 ?_
              refine WA.ret (some (Vi _)) ⟨d_X2_takesAfterRecipe_133, rfl, Or.inr ⟨rfl, Or.inl rfl⟩⟩ ?_
              exact hP.no (if_neg g118)
            · rw [if_pos g118] at hP
              refine ar_aload_n 122 rfl d_X2_takesAfterRecipe_121 rfl ?_
              refine ar_callV0 (M' := mX2_takesBracket) (As := []) (ls' := [Va _]) 125 rfl d_X2_takesAfterRecipe_122 ml_X2_96 mt_X2_takesBracket (by assumption) rfl (Nat.le_of_ble_eq_true rfl) rfl (Nat.le_of_ble_eq_true rfl) (by omega) ?_
              refine sp_X2_takesBracket hS hA hT hlen ho (by omega) ⟨fun σ1 st1 e1 hf1 hA1 => ?_, fun σ1 e1 _ => absurd e1 (by simp)⟩
              refine ar_if_eq 132 128 rfl rfl d_X2_takesAfterRecipe_125 (by omega) (fun h => absurd h (by decide)) (fun g125 => ?_)
              refine ar_iconst 129 rfl d_X2_takesAfterRecipe_128 ?_
              refine ar_goto 133 rfl d_X2_takesAfterRecipe_129 ?_
              refine WA.ret (some (Vi _)) ⟨d_X2_takesAfterRecipe_133, rfl, Or.inr ⟨rfl, (by omega)⟩⟩ ?_
              exact hP.1 σ1 st1 e1 hf1 hA1
set_option maxHeartbeats 8000000 in
theorem sp_X2_takes {i : Nat} {st : RA} {ch : Int} (hS : ShR σ) (hA : RRA σ st) (hRI : RI i st) (hi : i < 60) (hch : 0 ≤ ch ∧ ch ≤ 65535) (hdp : 4 ≤ d) (hP : PO (stp st ch) σ Q) : WA G d k n mX2_takes 0 [Va 156, Vi ch] [] σ Q := by
  obtain ⟨c, g, W⟩ := st
  have hk := hS.1
  have hst : hI σ 156 6 = (g : Int) := hA.2.1
  have hg3 : g ≤ 3 := hRI.2.2.1
  refine ar_aload_n 1 rfl d_X2_takes_0 rfl ?_
  refine ar_giv (y := (g : Int)) 4 rfl d_X2_takes_1 fl_X2_31 rfl hk hst ?_
  rcases (show g = 0 ∨ g = 1 ∨ g = 2 ∨ g = 3 by omega) with e | e | e | e
  · subst e
    refine ar_tsIn (off := 28) 32 d_X2_takes_4 (by omega) (by omega) rfl rfl ?_
    refine ar_aload_n 33 rfl d_X2_takes_32 rfl ?_
    refine ar_iload_n 34 rfl d_X2_takes_33 rfl ?_
    refine ar_callV0 (M' := mX2_takesStart) (As := [_]) (ls' := [Va _, Vi _, Vu]) 37 rfl d_X2_takes_34 ml_X2_55 mt_X2_takesStart (by assumption) rfl (Nat.le_of_ble_eq_true rfl) rfl (Nat.le_of_ble_eq_true rfl) (by omega) ?_
    refine sp_X2_takesStart hS hA hRI hi hch (by omega) ⟨fun σ1 st1 e1 hf1 hA1 => ?_, fun σ1 e1 hf1 => ?_⟩
    · refine WA.ret (some (Vi _)) ⟨d_X2_takes_37, rfl, Or.inr ⟨rfl, (Or.inr rfl)⟩⟩ ?_
      exact hP.1 σ1 st1 e1 hf1 hA1
    · refine WA.ret (some (Vi _)) ⟨d_X2_takes_37, rfl, Or.inr ⟨rfl, (Or.inl rfl)⟩⟩ ?_
      exact hP.2 σ1 e1 hf1
  · subst e
    refine ar_tsIn (off := 34) 38 d_X2_takes_4 (by omega) (by omega) rfl rfl ?_
    refine ar_aload_n 39 rfl d_X2_takes_38 rfl ?_
    refine ar_iload_n 40 rfl d_X2_takes_39 rfl ?_
    refine ar_callV0 (M' := mX2_takesLoafDigit) (As := [_]) (ls' := [Va _, Vi _, Vu]) 43 rfl d_X2_takes_40 ml_X2_58 mt_X2_takesLoafDigit (by assumption) rfl (Nat.le_of_ble_eq_true rfl) rfl (Nat.le_of_ble_eq_true rfl) (by omega) ?_
    refine sp_X2_takesLoafDigit hS hA hRI hi hch (by omega) ⟨fun σ1 st1 e1 hf1 hA1 => ?_, fun σ1 e1 hf1 => ?_⟩
    · refine WA.ret (some (Vi _)) ⟨d_X2_takes_43, rfl, Or.inr ⟨rfl, (Or.inr rfl)⟩⟩ ?_
      exact hP.1 σ1 st1 e1 hf1 hA1
    · refine WA.ret (some (Vi _)) ⟨d_X2_takes_43, rfl, Or.inr ⟨rfl, (Or.inl rfl)⟩⟩ ?_
      exact hP.2 σ1 e1 hf1
  · subst e
    refine ar_tsIn (off := 40) 44 d_X2_takes_4 (by omega) (by omega) rfl rfl ?_
    obtain ⟨c', v, hcv⟩ := hRI.2.2.2.1 rfl
    have hcv : c = c' ++ [(1, v)] := hcv
    subst hcv
    have hok := hRI.2.2.2.2.2.1 (1, v) (by simp)
    have hv : 0 ≤ v ∧ v < 100 := hok.2.2.2.1 rfl
    have hcl : c'.length < 60 := by
      have h9 : (c' ++ [((1 : Int), v)]).length ≤ i := hRI.1
      simp only [List.length_append, List.length_cons, List.length_nil] at h9
      omega
    refine ar_iload_n 45 rfl d_X2_takes_44 rfl ?_
    refine ar_callS0 (M' := mX2_isDigit) (As := [_]) (ls' := [Vi _]) 48 rfl d_X2_takes_45 ml_X2_61 mt_X2_isDigit rfl (Nat.le_of_ble_eq_true rfl) rfl (Nat.le_of_ble_eq_true rfl) (by omega) ?_
    refine sp_X2_isDigit (by omega) (fun g45 => ?_) (fun g45 => ?_)
    · have hs : stp (c' ++ [(1, v)], 2, W) ch = if v = 0 ∨ 100 ≤ v * 10 + (ch - 48) then none else some (setO (c' ++ [(1, v)]) c'.length (v * 10 + (ch - 48)), 2, W) := by
        unfold stp
        show (if (2 : Nat) = 0 then _ else if (2 : Nat) = 1 then _ else if (2 : Nat) = 2 ∧ 48 ≤ ch ∧ ch ≤ 57 then _ else _) = _
        rw [if_neg (by omega), if_neg (by omega), if_pos ⟨rfl, g45⟩, lastO_app, show (c' ++ [((1 : Int), v)]).length - 1 = c'.length by simp]
      rw [hs] at hP
      refine ar_if_eq 62 51 rfl rfl d_X2_takes_48 (by omega) (fun h => absurd h (by decide)) (fun g48 => ?_)
      refine ar_aload_n 52 rfl d_X2_takes_51 rfl ?_
      refine ar_iload_n 53 rfl d_X2_takes_52 rfl ?_
      refine ar_bipush 55 rfl d_X2_takes_53 rfl ?_
      refine ar_isub 56 rfl d_X2_takes_55 ?_
      refine ar_callV0 (M' := mX2_takesNextDigit) (As := [_]) (ls' := [Va _, Vi _, Vu, Vu]) 59 rfl d_X2_takes_56 ml_X2_64 mt_X2_takesNextDigit (by assumption) rfl (Nat.le_of_ble_eq_true rfl) rfl (Nat.le_of_ble_eq_true rfl) (by omega) ?_
      refine sp_X2_takesNextDigit hS hA hcl hv (by omega) (by omega) ⟨fun σ1 st1 e1 hf1 hA1 => ?_, fun σ1 e1 hf1 => ?_⟩
      · refine ar_goto 67 rfl d_X2_takes_59 ?_
        refine WA.ret (some (Vi _)) ⟨d_X2_takes_67, rfl, Or.inr ⟨rfl, (Or.inr rfl)⟩⟩ ?_
        exact hP.1 σ1 st1 e1 hf1 hA1
      · refine ar_goto 67 rfl d_X2_takes_59 ?_
        refine WA.ret (some (Vi _)) ⟨d_X2_takes_67, rfl, Or.inr ⟨rfl, (Or.inl rfl)⟩⟩ ?_
        exact hP.2 σ1 e1 hf1
    · have hs : stp (c' ++ [(1, v)], 2, W) ch = aft (c' ++ [(1, v)]) W ch := by
        unfold stp
        show (if (2 : Nat) = 0 then _ else if (2 : Nat) = 1 then _ else if (2 : Nat) = 2 ∧ 48 ≤ ch ∧ ch ≤ 57 then _ else _) = _
        rw [if_neg (by omega), if_neg (by omega), if_neg (fun h => g45 h.2)]
      rw [hs] at hP
      refine ar_if_eq 62 51 rfl rfl d_X2_takes_48 (by omega) (fun g48 => ?_) (fun h => absurd h (by decide))
      refine ar_aload_n 63 rfl d_X2_takes_62 rfl ?_
      refine ar_iload_n 64 rfl d_X2_takes_63 rfl ?_
      refine ar_callV0 (M' := mX2_takesAfterRecipe) (As := [_]) (ls' := [Va _, Vi _]) 67 rfl d_X2_takes_64 ml_X2_67 mt_X2_takesAfterRecipe (by assumption) rfl (Nat.le_of_ble_eq_true rfl) rfl (Nat.le_of_ble_eq_true rfl) (by omega) ?_
      refine sp_X2_takesAfterRecipe hS hA hRI hi hch (by omega) ⟨fun σ1 st1 e1 hf1 hA1 => ?_, fun σ1 e1 hf1 => ?_⟩
      · refine WA.ret (some (Vi _)) ⟨d_X2_takes_67, rfl, Or.inr ⟨rfl, (Or.inr rfl)⟩⟩ ?_
        exact hP.1 σ1 st1 e1 hf1 hA1
      · refine WA.ret (some (Vi _)) ⟨d_X2_takes_67, rfl, Or.inr ⟨rfl, (Or.inl rfl)⟩⟩ ?_
        exact hP.2 σ1 e1 hf1
  · subst e
    refine ar_tsOut 68 d_X2_takes_4 (by omega) (by omega) rfl ?_
    have hs : stp (c, 3, W) ch = aft c W ch := by
      unfold stp
      show (if (3 : Nat) = 0 then _ else if (3 : Nat) = 1 then _ else if (3 : Nat) = 2 ∧ 48 ≤ ch ∧ ch ≤ 57 then _ else _) = _
      rw [if_neg (by omega), if_neg (by omega), if_neg (by omega)]
    rw [hs] at hP
    refine ar_aload_n 69 rfl d_X2_takes_68 rfl ?_
    refine ar_iload_n 70 rfl d_X2_takes_69 rfl ?_
    refine ar_callV0 (M' := mX2_takesAfterRecipe) (As := [_]) (ls' := [Va _, Vi _]) 73 rfl d_X2_takes_70 ml_X2_67 mt_X2_takesAfterRecipe (by assumption) rfl (Nat.le_of_ble_eq_true rfl) rfl (Nat.le_of_ble_eq_true rfl) (by omega) ?_
    refine sp_X2_takesAfterRecipe hS hA hRI hi hch (by omega) ⟨fun σ1 st1 e1 hf1 hA1 => ?_, fun σ1 e1 hf1 => ?_⟩
    · refine WA.ret (some (Vi _)) ⟨d_X2_takes_73, rfl, Or.inr ⟨rfl, (Or.inr rfl)⟩⟩ ?_
      exact hP.1 σ1 st1 e1 hf1 hA1
    · refine WA.ret (some (Vi _)) ⟨d_X2_takes_73, rfl, Or.inr ⟨rfl, (Or.inl rfl)⟩⟩ ?_
      exact hP.2 σ1 e1 hf1
theorem sp_X2_begin (hS : ShR σ) (hQ : ∀ σ', FrI 156 161 σ σ' → hI σ' 156 2 = 0 → hI σ' 156 3 = 0 → hI σ' 156 4 = 0 → hI σ' 156 5 = 0 → hI σ' 156 6 = 0 → hI σ' 156 9 = 0 → Q none σ') : WA G d k n mX2_begin 0 [Va 156] [] σ Q := by
  have hk := hS.1
  refine ar_aload_n 1 rfl d_X2_begin_0 rfl ?_
  refine ar_iconst 2 rfl d_X2_begin_1 ?_
  refine ar_putI 5 rfl d_X2_begin_2 fl_X2_43 rfl rfl (by assumption) ?_
  refine ar_aload_n 6 rfl d_X2_begin_5 rfl ?_
  refine ar_iconst 7 rfl d_X2_begin_6 ?_
  refine ar_putI 10 rfl d_X2_begin_7 fl_X2_46 rfl rfl (by assumption) ?_
  refine ar_aload_n 11 rfl d_X2_begin_10 rfl ?_
  refine ar_iconst 12 rfl d_X2_begin_11 ?_
  refine ar_putI 15 rfl d_X2_begin_12 fl_X2_49 rfl rfl (by assumption) ?_
  refine ar_aload_n 16 rfl d_X2_begin_15 rfl ?_
  refine ar_iconst 17 rfl d_X2_begin_16 ?_
  refine ar_putI 20 rfl d_X2_begin_17 fl_X2_52 rfl rfl (by assumption) ?_
  refine ar_aload_n 21 rfl d_X2_begin_20 rfl ?_
  refine ar_iconst 22 rfl d_X2_begin_21 ?_
  refine ar_putI 25 rfl d_X2_begin_22 fl_X2_31 rfl rfl (by assumption) ?_
  refine ar_aload_n 26 rfl d_X2_begin_25 rfl ?_
  refine ar_iconst 27 rfl d_X2_begin_26 ?_
  refine ar_putI 30 rfl d_X2_begin_27 fl_X2_35 rfl rfl (by assumption) ?_
  refine WA.ret none ⟨d_X2_begin_30, rfl, rfl⟩ ?_
  refine hQ _ ((((((fr3 (by omega)).tr (fr3 (by omega))).tr (fr3 (by omega))).tr (fr3 (by omega))).tr (fr3 (by omega))).tr (fr3 (by omega))) ?_ ?_ ?_ ?_ ?_ ?_
  all_goals simp [hI_w]
set_option maxHeartbeats 8000000 in
theorem sp_X2_firstFault {a : Nat} {cs : List Int} (hS : ShR σ) (ha : sk σ a = (10, 60)) (ha2 : a < 156 ∨ 161 ≤ a) (hcs : ∀ j x, cs[j]? = some x → hI σ a j = x ∧ 0 ≤ x ∧ x ≤ 65535) (hl : cs.length ≤ 60) (hdp : 5 ≤ d)
    (hQ : ∀ σ', FrI 156 161 σ σ' → (ffA cs = -6 → RRA σ' (rdT ([], 0, []) cs).2 ∧ RI cs.length (rdT ([], 0, []) cs).2 ∧ (rdT ([], 0, []) cs).1 = none ∧ (rdT ([], 0, []) cs).2.2.2 = [] ∧ 2 ≤ (rdT ([], 0, []) cs).2.2.1) → Q (some (Vi (ffA cs))) σ') : WA G d k n mX2_firstFault 0 [Va 156, Va a, Vi (cs.length : Int), Vu] [] σ Q := by
  have loop : ∀ r i : Nat, ∀ (st : RA) (σi : Sg), cs.length - i = r → i ≤ cs.length → RRA σi st → RI i st → FrI 156 161 σ σi → rdT ([], 0, []) (cs.take i) = (none, st) → WA G d k n mX2_firstFault 6 [Va 156, Va a, Vi (cs.length : Int), Vi (i : Int)] [] σi Q := by
    intro r
    induction r using Nat.strongRecOn with
    | ind r ih =>
    intro i st σi hr hi hAi hRIi hfi hrd
    have hSi := hS.e hfi.1
    have hk := hSi.1
    have hka : sk σi a = (10, 60) := by
      show σi.2.2.1 a = _
      rw [hfi.1]
      exact ha
    have hstg : hI σi 156 6 = (st.2.1 : Int) := hAi.2.1
    have hdep : hI σi 156 9 = (st.2.2.length : Int) := hAi.2.2.1
    have hg3 : st.2.1 ≤ 3 := hRIi.2.2.1
    have hWi : st.2.2.length ≤ i := hRIi.2.1
    refine ar_iload_n 7 rfl d_X2_firstFault_6 rfl ?_
    refine ar_iload_n 8 rfl d_X2_firstFault_7 rfl ?_
    refine ar_icmp_ge 35 11 rfl rfl d_X2_firstFault_8 (by omega) (by omega) (fun g8 => ?_) (fun g8 => ?_)
    · have hie : i = cs.length := by omega
      subst hie
      rw [List.take_length] at hrd
      have hff : ffA cs = if (st.2.1 = 3 ∨ st.2.1 = 2) ∧ st.2.2 = [] then -6 else (cs.length : Int) := by
        unfold ffA
        rw [hrd]
      have hfin : ffA cs = -6 → RRA σi (rdT ([], 0, []) cs).2 ∧ RI cs.length (rdT ([], 0, []) cs).2 ∧ (rdT ([], 0, []) cs).1 = none ∧ (rdT ([], 0, []) cs).2.2.2 = [] ∧ 2 ≤ (rdT ([], 0, []) cs).2.2.1 := by
        intro h
        rw [hff] at h
        rw [hrd]
        by_cases e : (st.2.1 = 3 ∨ st.2.1 = 2) ∧ st.2.2 = []
        · exact ⟨hAi, hRIi, rfl, e.2, by show 2 ≤ st.2.1; omega⟩
        · rw [if_neg e] at h
          omega
      have h9 := hQ σi hfi hfin
      rw [hff] at h9
      have h51 : st.2.1 = 3 ∨ st.2.1 = 2 → WA G d k n mX2_firstFault 51 [Va 156, Va a, Vi (cs.length : Int), Vi (cs.length : Int)] [] σi Q := by
        intro hs
        have hle : st.2.2 = [] ↔ st.2.2.length = 0 := List.length_eq_zero_iff.symm
        refine ar_iconst 52 rfl d_X2_firstFault_51 ?_
        refine ar_goto 56 rfl d_X2_firstFault_52 ?_
        refine ar_ist_3 57 rfl d_X2_firstFault_56 rfl (by intro _ h; cases h) ?_
        refine ar_iload_n 58 rfl d_X2_firstFault_57 rfl ?_
        refine ar_if_eq 73 61 rfl rfl d_X2_firstFault_58 (by omega) (fun h => absurd h (by decide)) (fun g58 => ?_)
        refine ar_aload_n 62 rfl d_X2_firstFault_61 rfl ?_
        refine ar_giv (y := (st.2.2.length : Int)) 65 rfl d_X2_firstFault_62 fl_X2_35 rfl (by assumption) hdep ?_
        refine ar_if_ne 73 68 rfl rfl d_X2_firstFault_65 (by omega) (fun g65 => ?_) (fun g65 => ?_)
        · refine ar_iload_n 74 rfl d_X2_firstFault_73 rfl ?_
          refine WA.ret (some (Vi _)) ⟨d_X2_firstFault_74, rfl, Or.inl rfl⟩ ?_
          rw [if_neg (fun h => by have := hle.mp h.2; omega)] at h9
          exact h9
        · refine ar_bipush 70 rfl d_X2_firstFault_68 rfl ?_
          refine ar_goto 74 rfl d_X2_firstFault_70 ?_
          refine WA.ret (some (Vi _)) ⟨d_X2_firstFault_74, rfl, Or.inl rfl⟩ ?_
          rw [if_pos ⟨hs, hle.mpr (by omega)⟩] at h9
          exact h9
      have h55 : ¬ (st.2.1 = 3 ∨ st.2.1 = 2) → WA G d k n mX2_firstFault 55 [Va 156, Va a, Vi (cs.length : Int), Vi (cs.length : Int)] [] σi Q := by
        intro hs
        refine ar_iconst 56 rfl d_X2_firstFault_55 ?_
        refine ar_ist_3 57 rfl d_X2_firstFault_56 rfl (by intro _ h; cases h) ?_
        refine ar_iload_n 58 rfl d_X2_firstFault_57 rfl ?_
        refine ar_if_eq 73 61 rfl rfl d_X2_firstFault_58 (by omega) (fun g58 => ?_) (fun h => absurd rfl h)
        refine ar_iload_n 74 rfl d_X2_firstFault_73 rfl ?_
        refine WA.ret (some (Vi _)) ⟨d_X2_firstFault_74, rfl, Or.inl rfl⟩ ?_
        rw [if_neg (fun h => hs h.1)] at h9
        exact h9
      refine ar_aload_n 36 rfl d_X2_firstFault_35 rfl ?_
      refine ar_giv (y := (st.2.1 : Int)) 39 rfl d_X2_firstFault_36 fl_X2_31 rfl (by assumption) hstg ?_
      refine ar_iconst 40 rfl d_X2_firstFault_39 ?_
      refine ar_icmp_eq 51 43 rfl rfl d_X2_firstFault_40 (by omega) (by omega) (fun g40 => ?_) (fun g40 => ?_)
      · exact h51 (by omega)
      · refine ar_aload_n 44 rfl d_X2_firstFault_43 rfl ?_
        refine ar_giv (y := (st.2.1 : Int)) 47 rfl d_X2_firstFault_44 fl_X2_31 rfl (by assumption) hstg ?_
        refine ar_iconst 48 rfl d_X2_firstFault_47 ?_
        refine ar_icmp_ne 55 51 rfl rfl d_X2_firstFault_48 (by omega) (by omega) (fun g48 => ?_) (fun g48 => ?_)
        · exact h55 (by omega)
        · exact h51 (by omega)
    · refine ar_iload_n 12 rfl d_X2_firstFault_11 rfl ?_
      refine ar_aload_n 13 rfl d_X2_firstFault_12 rfl ?_
      refine ar_alen 14 rfl d_X2_firstFault_13 (by assumption) (by omega) ?_
      refine ar_icmp_ge 35 17 rfl rfl d_X2_firstFault_14 (by omega) (by omega) (fun h => by omega) (fun g14 => ?_)
      have hlt : i < cs.length := by omega
      have hxi : cs[i]? = some cs[i] := List.getElem?_eq_getElem hlt
      have hxv := hcs i _ hxi
      have htk : cs.take (i + 1) = cs.take i ++ [cs[i]] := by rw [List.take_succ, hxi]; rfl
      have hsplit : cs = cs.take i ++ cs[i] :: cs.drop (i + 1) := by
        rw [← List.drop_eq_getElem_cons hlt, List.take_append_drop]
      generalize cs[i] = x at hxi hxv htk hsplit
      have hlti : (cs.take i).length = i := by rw [List.length_take]; omega
      refine ar_aload_n 18 rfl d_X2_firstFault_17 rfl ?_
      refine ar_aload_n 19 rfl d_X2_firstFault_18 rfl ?_
      refine ar_iload_n 20 rfl d_X2_firstFault_19 rfl ?_
      refine ar_ilv (y := x) 21 rfl d_X2_firstFault_20 (by assumption) (by omega) (by rw [hfi.2 a (by omega)]; exact hxv.1) ?_
      refine ar_callV0 (M' := mX2_takes) (As := [_]) (ls' := [Va _, Vi _]) 24 rfl d_X2_firstFault_21 ml_X2_27 mt_X2_takes (by assumption) rfl (Nat.le_of_ble_eq_true rfl) rfl (Nat.le_of_ble_eq_true rfl) (by omega) ?_
      refine sp_X2_takes hSi hAi hRIi (by omega) hxv.2 (by omega) ⟨fun σ1 st1 e1 hf1 hA1 => ?_, fun σ1 e1 hf1 => ?_⟩
      · refine ar_if_ne 29 27 rfl rfl d_X2_firstFault_24 (by omega) (fun g24 => ?_) (fun h => absurd h (by decide))
        refine ar_inc_3 (y := ((i + 1 : Nat) : Int)) 32 rfl d_X2_firstFault_29 rfl (by intro _ h; cases h) (by omega) ?_
        refine ar_goto 6 rfl d_X2_firstFault_32 ?_
        refine ih (cs.length - (i + 1)) (by omega) (i + 1) st1 σ1 rfl (by omega) hA1 (hRIi.next (by omega) e1) (hfi.tr hf1) ?_
        rw [htk, rdT_app _ [x] _ _ hrd, rdT, e1]
        rfl
      · refine ar_if_ne 29 27 rfl rfl d_X2_firstFault_24 (by omega) (fun h => absurd rfl h) (fun g24 => ?_)
        refine ar_iload_n 28 rfl d_X2_firstFault_27 rfl ?_
        refine WA.ret (some (Vi _)) ⟨d_X2_firstFault_28, rfl, Or.inl rfl⟩ ?_
        have hr2 : rdT ([], 0, []) cs = (some i, st) := by
          rw [hsplit, rdT_app _ _ _ _ hrd, rdT, e1, hlti]
          show (some (0 + i), st) = _
          rw [Nat.zero_add]
        have hff : ffA cs = (i : Int) := by
          unfold ffA
          rw [hr2]
        have h9 := hQ σ1 (hfi.tr hf1) (fun h => by rw [hff] at h; omega)
        rw [hff] at h9
        exact h9
  have hk := hS.1
  refine ar_aload_n 1 rfl d_X2_firstFault_0 rfl ?_
  refine ar_callV0 (M' := mX2_begin) (As := []) (ls' := [Va _]) 4 rfl d_X2_firstFault_1 ml_X2_24 mt_X2_begin (by assumption) rfl (Nat.le_of_ble_eq_true rfl) rfl (Nat.le_of_ble_eq_true rfl) (by omega) ?_
  refine sp_X2_begin hS (fun σ0 hf0 SB2 SB3 SB4 SB5 SB6 SB9 => ?_)
  refine ar_iconst 5 rfl d_X2_firstFault_4 ?_
  refine ar_ist_3 6 rfl d_X2_firstFault_5 rfl (by intro _ h; cases h) ?_
  exact loop _ 0 ([], 0, []) _ rfl (Nat.zero_le _) ⟨⟨by rw [SB2]; rfl, by rw [SB3]; rfl, by rw [SB4]; rfl, by rw [SB5]; rfl, fun i x hx => by simp at hx⟩, by rw [SB6]; rfl, by rw [SB9]; rfl, fun i x hx => by simp at hx⟩ ⟨Nat.le_refl _, Nat.le_refl _, Nat.zero_le _, (fun h => by cases h), (fun x hx => by cases hx), (fun x hx => by cases hx), Or.inr (Or.inl ⟨rfl, rfl⟩)⟩ hf0 rfl
theorem sp_X2_recipeRead {r : Nat} {c : Rcpe} (hn : sn σ = r) (hr : 652 ≤ r) (hsh : ShR σ) (hc : RRd σ c) (hcl : c.length < 60) (hk2 : 3 ≤ k) (hn2 : 126 ≤ n) (hdp : 3 ≤ d) (hQ : ∀ σ', RRec σ' r c → sn σ' = r + 3 → FrN r σ σ' → Q (some (Va r)) σ') : WA G d k n mX2_recipeRead 0 [Va 156] [] σ Q := by
  refine ar_newA 3 r (k - 1) (n - 6) hn 3 rfl d_X2_recipeRead_0 (by decide) kl_X2_38 in_3 ii_3 (by omega) (by show n - 6 + 6 ≤ n; omega) ?_
  refine ar_dup 4 rfl d_X2_recipeRead_3 (fun _ => rfl) ?_
  refine ar_aload_n 5 rfl d_X2_recipeRead_4 rfl ?_
  refine ar_callI (M' := mX3_init) (As := [_]) (ls' := [Va _, Vr _]) 2 120 (k - 3) (n - 126) 8 rfl d_X2_recipeRead_5 ml_X2_40 mt_X3_init rfl (Nat.le_of_ble_eq_true rfl) rfl (Nat.le_of_ble_eq_true rfl) (by omega) (by omega) (by omega) ?_
  refine sp_X3_init (by rw [sk_aA, if_pos rfl]) (sn_aA _ _ _ _) hr ?_ ?_ hcl (by omega) (by omega) (by omega) (fun σ1 h1 h2 h3 => ?_)
  · obtain ⟨q1, q2, q3, q4, q5, q6, q7, q8, q9⟩ := hsh
    refine ⟨?_, ?_, ?_, ?_, ?_, ?_, ?_, ?_, ?_⟩
    iterate 5 (rw [sk_aA, if_neg (by omega)]; assumption)
    iterate 4 (rw [hR_aA, if_neg (by omega)]; assumption)
  · obtain ⟨q1, q2, q3, q4, q5⟩ := hc
    refine ⟨?_, ?_, ?_, ?_, fun i x hx => ?_⟩
    iterate 4 (rw [hI_aA, if_neg (by omega)]; assumption)
    rw [hI_aA, if_neg (by omega), hI_aA, if_neg (by omega)]
    exact q5 i x hx
  refine WA.ret (some (Vr _)) ⟨d_X2_recipeRead_8, rfl, Or.inl ⟨_, rfl⟩⟩ ?_
  exact hQ σ1 h1 h2 ((FrN.a (Nat.le_refl r)).tr h3)
end READ4
