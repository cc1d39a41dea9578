theorem cLo_lt {c : Rcpe} (h : ∀ x ∈ c, x.1 = 0 → 20 ≤ x.2 → x.2 < 32) : cLo c < 4096 := by
  induction c with
  | nil => decide
  | cons x t ih =>
    rw [cLo]
    refine or_lt ?_ (ih (fun y hy => h y (List.mem_cons_of_mem _ hy)))
    split
    · rename_i e
      have := h x List.mem_cons_self e.1 e.2
      have := Nat.pow_lt_pow_right (a := 2) (by decide) (show (x.2 - 20).toNat < 12 by omega)
      omega
    · decide
section READ3
variable {G : GT} {d k n : Nat} {σ : Sg} {Q : Option AV → Sg → Prop}
set_option maxHeartbeats 4000000 in
theorem sp_X2_takesLoafDigit {i : Nat} {c : Rcpe} {W : List (Int × Nat)} {ch : Int} (hS : ShR σ) (hA : RRA σ (c, 1, W)) (hRI : RI i (c, 1, W)) (hi : i < 60) (hch : 0 ≤ ch ∧ ch ≤ 65535) (hdp : 3 ≤ d) (hP : PO (stp (c, 1, W) ch) σ Q) : WA G d k n mX2_takesLoafDigit 0 [Va 156, Vi ch, Vu] [] σ Q := by
  have hk := hS.1
  have hk0 : sk σ 157 = (10, 60) := hS.2.1
  have hk1 : sk σ 158 = (10, 60) := hS.2.2.1
  have hk7 : sk σ 159 = (10, 60) := hS.2.2.2.1
  have hk8 : sk σ 160 = (10, 60) := hS.2.2.2.2.1
  have hr0 : hR σ 156 0 = some 157 := hS.2.2.2.2.2.1
  have hr1 : hR σ 156 1 = some 158 := hS.2.2.2.2.2.2.1
  have hr7 : hR σ 156 7 = some 159 := hS.2.2.2.2.2.2.2.1
  have hr8 : hR σ 156 8 = some 160 := hS.2.2.2.2.2.2.2.2
  obtain ⟨hRd, hst, hW⟩ := hA
  have hlen : c.length < 60 := by have h9 : c.length ≤ i := hRI.1; omega
  have hRd : RRd σ c := hRd
  have hW : RW σ W := hW
  have hno : ¬ (48 ≤ ch ∧ ch < 53) → stp (c, 1, W) ch = none := by
    intro h
    unfold stp
    show (if (1 : Nat) = 0 then _ else if (1 : Nat) = 1 then _ else _) = _
    rw [if_neg (by omega), if_pos rfl, if_neg h]
  have hor : 48 ≤ ch ∧ ch < 53 → iOr ((cLo c : Nat) : Int) (iSl 1 (ch - 48)) = ((cLo c ||| 2 ^ (ch - 48).toNat : Nat) : Int) := by
    intro h
    obtain ⟨kn, hkn⟩ : ∃ kn : Nat, ch - 48 = (kn : Int) := ⟨(ch - 48).toNat, by omega⟩
    have hp2 := Nat.pow_lt_pow_right (a := 2) (by decide) (show kn < 12 by omega)
    have hc12 := cLo_lt (c := c) (fun x hx => by
      have := hRI.2.2.2.2.2.1 x hx
      intro h1 h2
      have := this.2.2.1 h1
      omega)
    rw [hkn, iSl_1 kn (by omega), iOr_n (by omega) (by omega), Int.toNat_natCast]
  refine ar_iload_n 1 rfl d_X2_takesLoafDigit_0 rfl ?_
  refine ar_bipush 3 rfl d_X2_takesLoafDigit_1 rfl ?_
  refine ar_isub 4 rfl d_X2_takesLoafDigit_3 ?_
  refine ar_ist_2 5 rfl d_X2_takesLoafDigit_4 rfl (by intro _ h; cases h) ?_
  refine ar_iload_n 6 rfl d_X2_takesLoafDigit_5 rfl ?_
  refine ar_if_lt 14 9 rfl rfl d_X2_takesLoafDigit_6 (by omega) (fun g6 => ?_) (fun g6 => ?_)
  · refine ar_iconst 15 rfl d_X2_takesLoafDigit_14 ?_
    refine WA.ret (some (Vi _)) ⟨d_X2_takesLoafDigit_15, rfl, Or.inr ⟨rfl, Or.inl rfl⟩⟩ ?_
    exact hP.no (hno (by omega))
  · refine ar_iload_n 10 rfl d_X2_takesLoafDigit_9 rfl ?_
    refine ar_iconst 11 rfl d_X2_takesLoafDigit_10 ?_
    refine ar_icmp_lt 16 14 rfl rfl d_X2_takesLoafDigit_11 (by omega) (by omega) (fun g11 => ?_) (fun g11 => ?_)
    · refine ar_aload_n 17 rfl d_X2_takesLoafDigit_16 rfl ?_
      refine ar_dup 18 rfl d_X2_takesLoafDigit_17 (fun _ => rfl) ?_
      refine ar_giv (y := ((cLo c : Nat) : Int)) 21 rfl d_X2_takesLoafDigit_18 fl_X2_52 rfl (by assumption) hRd.2.2.2.1 ?_
      refine ar_iconst 22 rfl d_X2_takesLoafDigit_21 ?_
      refine ar_iload_n 23 rfl d_X2_takesLoafDigit_22 rfl ?_
      refine ar_ishl 24 rfl d_X2_takesLoafDigit_23 ?_
      refine ar_ior 25 rfl d_X2_takesLoafDigit_24 ?_
      refine ar_top (y := ((cLo c ||| 2 ^ (ch - 48).toNat : Nat) : Int)) (hor (by omega)) ?_
      refine ar_putI 28 rfl d_X2_takesLoafDigit_25 fl_X2_52 rfl rfl (by assumption) ?_
      refine ar_aload_n 29 rfl d_X2_takesLoafDigit_28 rfl ?_
      refine ar_iconst 30 rfl d_X2_takesLoafDigit_29 ?_
      refine ar_putI 33 rfl d_X2_takesLoafDigit_30 fl_X2_31 rfl rfl (by assumption) ?_
      refine ar_aload_n 34 rfl d_X2_takesLoafDigit_33 rfl ?_
      refine ar_iconst 35 rfl d_X2_takesLoafDigit_34 ?_
      refine ar_bipush 37 rfl d_X2_takesLoafDigit_35 rfl ?_
      refine ar_iload_n 38 rfl d_X2_takesLoafDigit_37 rfl ?_
      refine ar_iadd 39 rfl d_X2_takesLoafDigit_38 ?_
      refine ar_callV0 (M' := mX2_addsPart) (As := [_, _]) (ls' := [Va _, Vi _, Vi _]) 42 rfl d_X2_takesLoafDigit_39 ml_X2_73 mt_X2_addsPart (by assumption) rfl (Nat.le_of_ble_eq_true rfl) rfl (Nat.le_of_ble_eq_true rfl) (by omega) ?_
      refine sp_X2_addsPart (m := c.length) (pt := cParts c) (hS.e rfl) (by rw [hI_w, if_neg (by omega), hI_w, if_neg (by omega)]; exact hRd.1) (by rw [hI_w, if_neg (by omega), hI_w, if_neg (by omega)]; exact hRd.2.1) hlen (by omega) ?_
      refine WA.ret (some (Vi _)) ⟨d_X2_takesLoafDigit_42, rfl, Or.inr ⟨rfl, (Or.inr rfl)⟩⟩ ?_
      have hs : stp (c, 1, W) ch = some (c ++ [(0, 20 + (ch - 48))], 3, W) := by
        unfold stp
        show (if (1 : Nat) = 0 then _ else if (1 : Nat) = 1 then _ else _) = _
        rw [if_neg (by omega), if_pos rfl, if_pos (by omega)]
      refine hP.1 _ _ hs ((((((fr3 (by omega)).tr (fr3 (by omega))).tr (fr3 (by omega))).tr (fr3 (by omega))).tr (fr3 (by omega))).tr (fr3 (by omega))) ⟨hRd.add (by rw [hI_w, if_pos ⟨rfl, rfl⟩]) (by rw [hI_w, if_neg (by omega), hI_w, if_neg (by omega), hI_w, if_neg (by omega), hI_w, if_pos ⟨rfl, rfl⟩]; rfl) (by rw [hI_w, if_neg (by omega), hI_w, if_neg (by omega), hI_w, if_neg (by omega), hI_w, if_neg (by omega), hI_w, if_neg (by omega), hI_w, if_neg (by omega), if_neg (by omega), Nat.or_zero]; exact hRd.2.2.1) (by rw [hI_w, if_neg (by omega), hI_w, if_neg (by omega), hI_w, if_neg (by omega), hI_w, if_neg (by omega), hI_w, if_neg (by omega), hI_w, if_pos ⟨rfl, rfl⟩, if_pos ⟨rfl, by omega⟩, show 20 + (ch - 48) - 20 = ch - 48 by omega]) (fun i => ?_) (fun i => ?_), by rw [hI_w, if_neg (by omega), hI_w, if_neg (by omega), hI_w, if_neg (by omega), hI_w, if_neg (by omega), hI_w, if_pos ⟨rfl, rfl⟩]; rfl, hW.e (by rw [hI_w, if_neg (by omega), hI_w, if_neg (by omega), hI_w, if_neg (by omega), hI_w, if_neg (by omega), hI_w, if_neg (by omega), hI_w, if_neg (by omega)]) (by funext i; rw [hI_w, if_neg (by omega), hI_w, if_neg (by omega), hI_w, if_neg (by omega), hI_w, if_neg (by omega), hI_w, if_neg (by omega), hI_w, if_neg (by omega)]) (by funext i; rw [hI_w, if_neg (by omega), hI_w, if_neg (by omega), hI_w, if_neg (by omega), hI_w, if_neg (by omega), hI_w, if_neg (by omega), hI_w, if_neg (by omega)])⟩
      · rw [hI_w, if_neg (by omega), hI_w, if_neg (by omega), hI_w]
        by_cases e : i = c.length
        · rw [if_pos ⟨rfl, e⟩, if_pos e]
        · rw [if_neg (by omega), if_neg e, hI_w, if_neg (by omega), hI_w, if_neg (by omega), hI_w, if_neg (by omega)]
      · rw [hI_w, if_neg (by omega), hI_w]
        by_cases e : i = c.length
        · rw [if_pos ⟨rfl, e⟩, if_pos e]
        · rw [if_neg (by omega), if_neg e, hI_w, if_neg (by omega), hI_w, if_neg (by omega), hI_w, if_neg (by omega), hI_w, if_neg (by omega)]
    · refine ar_iconst 15 rfl d_X2_takesLoafDigit_14 ?_
      refine WA.ret (some (Vi _)) ⟨d_X2_takesLoafDigit_15, rfl, Or.inr ⟨rfl, Or.inl rfl⟩⟩ ?_
      exact hP.no (hno (by omega))
theorem setO_last (v w : Int) : ∀ (a : Rcpe), setO (a ++ [((1 : Int), v)]) a.length w = a ++ [(1, w)]
  | [] => rfl
  | x :: t => by
    show x :: setO (t ++ [((1 : Int), v)]) t.length w = _
    rw [setO_last v w t]
    rfl
theorem lastO_app (a : Rcpe) (v : Int) : lastO (a ++ [((1 : Int), v)]) = v := by
  unfold lastO
  rw [List.getLast?_append]
  simp
set_option maxHeartbeats 4000000 in
theorem sp_X2_takesNextDigit {c' : Rcpe} {W : List (Int × Nat)} {v dg : Int} (hS : ShR σ) (hA : RRA σ (c' ++ [(1, v)], 2, W)) (hl : c'.length < 60) (hv : 0 ≤ v ∧ v < 100) (hdg : 0 ≤ dg ∧ dg ≤ 9) (hdp : 1 ≤ d) (hP : PO (if v = 0 ∨ 100 ≤ v * 10 + dg then none else some (setO (c' ++ [(1, v)]) c'.length (v * 10 + dg), 2, W)) σ Q) : WA G d k n mX2_takesNextDigit 0 [Va 156, Vi dg, Vu, Vu] [] σ Q := by
  have hk := hS.1
  have hk0 : sk σ 157 = (10, 60) := hS.2.1
  have hk1 : sk σ 158 = (10, 60) := hS.2.2.1
  have hk7 : sk σ 159 = (10, 60) := hS.2.2.2.1
  have hk8 : sk σ 160 = (10, 60) := hS.2.2.2.2.1
  have hr0 : hR σ 156 0 = some 157 := hS.2.2.2.2.2.1
  have hr1 : hR σ 156 1 = some 158 := hS.2.2.2.2.2.2.1
  have hr7 : hR σ 156 7 = some 159 := hS.2.2.2.2.2.2.2.1
  have hr8 : hR σ 156 8 = some 160 := hS.2.2.2.2.2.2.2.2
  obtain ⟨hRd, hst, hW⟩ := hA
  have hRd : RRd σ (c' ++ [(1, v)]) := hRd
  have hW : RW σ W := hW
  have hst : hI σ 156 6 = 2 := hst
  have h2 : hI σ 156 2 = ((c'.length + 1 : Nat) : Int) := by rw [hRd.1]; simp
  have hvv : hI σ 158 c'.length = v := (hRd.2.2.2.2 c'.length _ (app_last c' _)).2
  refine ar_aload_n 1 rfl d_X2_takesNextDigit_0 rfl ?_
  refine ar_giv (y := ((c'.length + 1 : Nat) : Int)) 4 rfl d_X2_takesNextDigit_1 fl_X2_43 rfl (by assumption) h2 ?_
  refine ar_iconst 5 rfl d_X2_takesNextDigit_4 ?_
  refine ar_isub 6 rfl d_X2_takesNextDigit_5 ?_
  refine ar_top (y := (c'.length : Int)) (by omega) ?_
  refine ar_ist_2 7 rfl d_X2_takesNextDigit_6 rfl (by intro _ h; cases h) ?_
  refine ar_iload_n 8 rfl d_X2_takesNextDigit_7 rfl ?_
  refine ar_if_lt 20 11 rfl rfl d_X2_takesNextDigit_8 (by omega) (fun h => by omega) (fun g8 => ?_)
  refine ar_aload_n 12 rfl d_X2_takesNextDigit_11 rfl ?_
  refine ar_getA 15 rfl d_X2_takesNextDigit_12 fl_X2_15 rfl (by assumption) (by assumption) ?_
  refine ar_iload_n 16 rfl d_X2_takesNextDigit_15 rfl ?_
  refine ar_ilv (y := v) 17 rfl d_X2_takesNextDigit_16 (by assumption) (by omega) hvv ?_
  refine ar_if_ne 22 20 rfl rfl d_X2_takesNextDigit_17 (by omega) (fun g17 => ?_) (fun g17 => ?_)
  · refine ar_aload_n 23 rfl d_X2_takesNextDigit_22 rfl ?_
    refine ar_getA 26 rfl d_X2_takesNextDigit_23 fl_X2_15 rfl (by assumption) (by assumption) ?_
    refine ar_iload_n 27 rfl d_X2_takesNextDigit_26 rfl ?_
    refine ar_ilv (y := v) 28 rfl d_X2_takesNextDigit_27 (by assumption) (by omega) hvv ?_
    refine ar_bipush 30 rfl d_X2_takesNextDigit_28 rfl ?_
    refine ar_imul 31 rfl d_X2_takesNextDigit_30 ?_
    refine ar_iload_n 32 rfl d_X2_takesNextDigit_31 rfl ?_
    refine ar_iadd 33 rfl d_X2_takesNextDigit_32 ?_
    refine ar_ist_3 34 rfl d_X2_takesNextDigit_33 rfl (by intro _ h; cases h) ?_
    refine ar_iload_n 35 rfl d_X2_takesNextDigit_34 rfl ?_
    refine ar_callSN0 (M' := mX5_isNumber) (As := [_]) (ls' := [Vi _]) 38 rfl d_X2_takesNextDigit_35 ml_X2_80 mt_X5_isNumber rfl (Nat.le_of_ble_eq_true rfl) rfl (Nat.le_of_ble_eq_true rfl) (by omega) ?_
    refine sp_X5_isNumber (by omega) (fun g35 => ?_) (fun g35 => ?_)
    · refine ar_if_ne 43 41 rfl rfl d_X2_takesNextDigit_38 (by omega) (fun g38 => ?_) (fun h => absurd h (by decide))
      refine ar_aload_n 44 rfl d_X2_takesNextDigit_43 rfl ?_
      refine ar_getA 47 rfl d_X2_takesNextDigit_44 fl_X2_15 rfl (by assumption) (by assumption) ?_
      refine ar_iload_n 48 rfl d_X2_takesNextDigit_47 rfl ?_
      refine ar_iload_n 49 rfl d_X2_takesNextDigit_48 rfl ?_
      refine ar_iasN c'.length 50 rfl d_X2_takesNextDigit_49 (by assumption) (by omega) (by omega) ?_
      refine ar_iconst 51 rfl d_X2_takesNextDigit_50 ?_
      refine WA.ret (some (Vi _)) ⟨d_X2_takesNextDigit_51, rfl, Or.inr ⟨rfl, Or.inr rfl⟩⟩ ?_
      rw [if_neg (by omega)] at hP
      refine hP.1 _ _ rfl (fr3 (by omega)) ⟨hRd.set (x := (1, v)) (app_last c' _) (show (1 : Int) ≠ 0 by decide) (fun j _ _ => by rw [hI_w, if_neg (by omega)]) (by funext i; rw [hI_w, if_neg (by omega)]) (fun i => ?_), by rw [hI_w, if_neg (by omega)]; exact hst, hW.e (by rw [hI_w, if_neg (by omega)]) (by funext i; rw [hI_w, if_neg (by omega)]) (by funext i; rw [hI_w, if_neg (by omega)])⟩
      rw [hI_w]
      by_cases e : i = c'.length
      · rw [if_pos ⟨rfl, e⟩, if_pos e]
      · rw [if_neg (by omega), if_neg e]
    · refine ar_if_ne 43 41 rfl rfl d_X2_takesNextDigit_38 (by omega) (fun h => absurd h (by decide)) (fun g38 => ?_)
      refine ar_iconst 42 rfl d_X2_takesNextDigit_41 ?_
      refine WA.ret (some (Vi _)) ⟨d_X2_takesNextDigit_42, rfl, Or.inr ⟨rfl, Or.inl rfl⟩⟩ ?_
      exact hP.no (if_pos (Or.inr (by omega)))
  · refine ar_iconst 21 rfl d_X2_takesNextDigit_20 ?_
    refine WA.ret (some (Vi _)) ⟨d_X2_takesNextDigit_21, rfl, Or.inr ⟨rfl, Or.inl rfl⟩⟩ ?_
    exact hP.no (if_pos (Or.inl (by omega)))
set_option maxHeartbeats 4000000 in
theorem sp_X2_takesOperation {c : Rcpe} {g : Nat} {T : List (Int × Nat)} {x : Int × Nat} {ch : Int} (hS : ShR σ) (hA : RRA σ (c, g, x :: T)) (hT : T.length < 60) (hch : 0 ≤ ch ∧ ch ≤ 65535) (hdp : 1 ≤ d) (hP : PO (if ch = 43 then some (c, 0, (2, x.2) :: T) else if ch = 45 then some (c, 0, (3, x.2) :: T) else if ch = 42 then some (c, 0, (4, x.2) :: T) else none) σ Q) : WA G d k n mX2_takesOperation 0 [Va 156, Vi ch] [] σ Q := by
  have hk := hS.1
  have hk0 : sk σ 157 = (10, 60) := hS.2.1
  have hk1 : sk σ 158 = (10, 60) := hS.2.2.1
  have hk7 : sk σ 159 = (10, 60) := hS.2.2.2.1
  have hk8 : sk σ 160 = (10, 60) := hS.2.2.2.2.1
  have hr0 : hR σ 156 0 = some 157 := hS.2.2.2.2.2.1
  have hr1 : hR σ 156 1 = some 158 := hS.2.2.2.2.2.2.1
  have hr7 : hR σ 156 7 = some 159 := hS.2.2.2.2.2.2.2.1
  have hr8 : hR σ 156 8 = some 160 := hS.2.2.2.2.2.2.2.2
  obtain ⟨hRd, hst, hW⟩ := hA
  have hRd : RRd σ c := hRd
  have hW : RW σ (x :: T) := hW
  refine ar_iload_n 1 rfl d_X2_takesOperation_0 rfl ?_
  by_cases c1 : ch = 43
  · subst c1
    rw [if_pos rfl] at hP
    refine ar_tsIn (off := 31) 32 d_X2_takesOperation_1 (by omega) (by omega) rfl rfl ?_
    refine ar_aload_n 33 rfl d_X2_takesOperation_32 rfl ?_
    refine ar_iconst 34 rfl d_X2_takesOperation_33 ?_
    refine ar_callV0 (M' := mX2_waitsNext) (As := [_]) (ls' := [Va _, Vi _]) 37 rfl d_X2_takesOperation_34 ml_X2_99 mt_X2_waitsNext (by assumption) rfl (Nat.le_of_ble_eq_true rfl) rfl (Nat.le_of_ble_eq_true rfl) (by omega) ?_
    refine sp_X2_waitsNext hS hW.1 (by omega) ?_
    refine WA.ret (some (Vi _)) ⟨d_X2_takesOperation_37, rfl, Or.inr ⟨rfl, (Or.inr rfl)⟩⟩ ?_
    refine hP.1 _ _ rfl ((fr3 (by omega)).tr (fr3 (by omega))) ⟨hRd.e (fun j _ _ => by rw [hI_w, if_neg (by omega), hI_w, if_neg (by omega)]) (by funext i; rw [hI_w, if_neg (by omega), hI_w, if_neg (by omega)]) (by funext i; rw [hI_w, if_neg (by omega), hI_w, if_neg (by omega)]), by rw [hI_w, if_pos ⟨rfl, rfl⟩]; rfl, hW.rep (by rw [hI_w, if_neg (by omega), hI_w, if_neg (by omega)]; exact hW.1) (fun i => ?_) (fun i _ => by rw [hI_w, if_neg (by omega), hI_w, if_neg (by omega)]) (fun h => by omega)⟩
    rw [hI_w, if_neg (by omega), hI_w]
    by_cases e : i = T.length
    · rw [if_pos ⟨rfl, e⟩, if_pos e]
    · rw [if_neg (by omega), if_neg e]
  · rw [if_neg c1] at hP
    by_cases c2 : ch = 45
    · subst c2
      rw [if_pos rfl] at hP
      refine ar_tsIn (off := 37) 38 d_X2_takesOperation_1 (by omega) (by omega) rfl rfl ?_
      refine ar_aload_n 39 rfl d_X2_takesOperation_38 rfl ?_
      refine ar_iconst 40 rfl d_X2_takesOperation_39 ?_
      refine ar_callV0 (M' := mX2_waitsNext) (As := [_]) (ls' := [Va _, Vi _]) 43 rfl d_X2_takesOperation_40 ml_X2_99 mt_X2_waitsNext (by assumption) rfl (Nat.le_of_ble_eq_true rfl) rfl (Nat.le_of_ble_eq_true rfl) (by omega) ?_
      refine sp_X2_waitsNext hS hW.1 (by omega) ?_
      refine WA.ret (some (Vi _)) ⟨d_X2_takesOperation_43, rfl, Or.inr ⟨rfl, (Or.inr rfl)⟩⟩ ?_
      refine hP.1 _ _ rfl ((fr3 (by omega)).tr (fr3 (by omega))) ⟨hRd.e (fun j _ _ => by rw [hI_w, if_neg (by omega), hI_w, if_neg (by omega)]) (by funext i; rw [hI_w, if_neg (by omega), hI_w, if_neg (by omega)]) (by funext i; rw [hI_w, if_neg (by omega), hI_w, if_neg (by omega)]), by rw [hI_w, if_pos ⟨rfl, rfl⟩]; rfl, hW.rep (by rw [hI_w, if_neg (by omega), hI_w, if_neg (by omega)]; exact hW.1) (fun i => ?_) (fun i _ => by rw [hI_w, if_neg (by omega), hI_w, if_neg (by omega)]) (fun h => by omega)⟩
      rw [hI_w, if_neg (by omega), hI_w]
      by_cases e : i = T.length
      · rw [if_pos ⟨rfl, e⟩, if_pos e]
      · rw [if_neg (by omega), if_neg e]
    · rw [if_neg c2] at hP
      by_cases c3 : ch = 42
      · subst c3
        rw [if_pos rfl] at hP
        refine ar_tsIn (off := 43) 44 d_X2_takesOperation_1 (by omega) (by omega) rfl rfl ?_
        refine ar_aload_n 45 rfl d_X2_takesOperation_44 rfl ?_
        refine ar_iconst 46 rfl d_X2_takesOperation_45 ?_
        refine ar_callV0 (M' := mX2_waitsNext) (As := [_]) (ls' := [Va _, Vi _]) 49 rfl d_X2_takesOperation_46 ml_X2_99 mt_X2_waitsNext (by assumption) rfl (Nat.le_of_ble_eq_true rfl) rfl (Nat.le_of_ble_eq_true rfl) (by omega) ?_
        refine sp_X2_waitsNext hS hW.1 (by omega) ?_
        refine WA.ret (some (Vi _)) ⟨d_X2_takesOperation_49, rfl, Or.inr ⟨rfl, (Or.inr rfl)⟩⟩ ?_
        refine hP.1 _ _ rfl ((fr3 (by omega)).tr (fr3 (by omega))) ⟨hRd.e (fun j _ _ => by rw [hI_w, if_neg (by omega), hI_w, if_neg (by omega)]) (by funext i; rw [hI_w, if_neg (by omega), hI_w, if_neg (by omega)]) (by funext i; rw [hI_w, if_neg (by omega), hI_w, if_neg (by omega)]), by rw [hI_w, if_pos ⟨rfl, rfl⟩]; rfl, hW.rep (by rw [hI_w, if_neg (by omega), hI_w, if_neg (by omega)]; exact hW.1) (fun i => ?_) (fun i _ => by rw [hI_w, if_neg (by omega), hI_w, if_neg (by omega)]) (fun h => by omega)⟩
        rw [hI_w, if_neg (by omega), hI_w]
        by_cases e : i = T.length
        · rw [if_pos ⟨rfl, e⟩, if_pos e]
        · rw [if_neg (by omega), if_neg e]
      · rw [if_neg c3] at hP
        have h50 : WA G d k n mX2_takesOperation 50 [Va 156, Vi ch] [] σ Q := by
          refine ar_iconst 51 rfl d_X2_takesOperation_50 ?_
          refine WA.ret (some (Vi _)) ⟨d_X2_takesOperation_51, rfl, Or.inr ⟨rfl, Or.inl rfl⟩⟩ ?_
          exact hP.no rfl
        by_cases c4 : ch = 44
        · subst c4
          exact ar_tsIn (off := 49) 50 d_X2_takesOperation_1 (by omega) (by omega) rfl rfl h50
        · exact ar_tsOut 50 d_X2_takesOperation_1 (by omega) (by omega) rfl h50
set_option maxHeartbeats 4000000 in
theorem sp_X2_takesBracket {c : Rcpe} {g : Nat} {T : List (Int × Nat)} {x : Int × Nat} (hS : ShR σ) (hA : RRA σ (c, g, x :: T)) (hT : T.length < 60) (hlen : c.length < 60) (hx : 2 ≤ x.1 ∧ x.1 ≤ 4) (hdp : 2 ≤ d) (hP : PO (some (c ++ [(x.1, 0)], 3, T)) σ Q) : WA G d k n mX2_takesBracket 0 [Va 156] [] σ Q := by
  have hk := hS.1
  have hk0 : sk σ 157 = (10, 60) := hS.2.1
  have hk1 : sk σ 158 = (10, 60) := hS.2.2.1
  have hk7 : sk σ 159 = (10, 60) := hS.2.2.2.1
  have hk8 : sk σ 160 = (10, 60) := hS.2.2.2.2.1
  have hr0 : hR σ 156 0 = some 157 := hS.2.2.2.2.2.1
  have hr1 : hR σ 156 1 = some 158 := hS.2.2.2.2.2.2.1
  have hr7 : hR σ 156 7 = some 159 := hS.2.2.2.2.2.2.2.1
  have hr8 : hR σ 156 8 = some 160 := hS.2.2.2.2.2.2.2.2
  obtain ⟨hRd, hst, hW⟩ := hA
  have hRd : RRd σ c := hRd
  have hW : RW σ (x :: T) := hW
  have h9 : hI σ 156 9 = ((T.length + 1 : Nat) : Int) := hW.1
  refine ar_aload_n 1 rfl d_X2_takesBracket_0 rfl ?_
  refine ar_dup 2 rfl d_X2_takesBracket_1 (fun _ => rfl) ?_
  refine ar_giv (y := ((T.length + 1 : Nat) : Int)) 5 rfl d_X2_takesBracket_2 fl_X2_35 rfl (by assumption) h9 ?_
  refine ar_iconst 6 rfl d_X2_takesBracket_5 ?_
  refine ar_isub 7 rfl d_X2_takesBracket_6 ?_
  refine ar_top (y := (T.length : Int)) (by omega) ?_
  refine ar_putI 10 rfl d_X2_takesBracket_7 fl_X2_35 rfl rfl (by assumption) ?_
  refine ar_aload_n 11 rfl d_X2_takesBracket_10 rfl ?_
  refine ar_iconst 12 rfl d_X2_takesBracket_11 ?_
  refine ar_putI 15 rfl d_X2_takesBracket_12 fl_X2_31 rfl rfl (by assumption) ?_
  refine ar_aload_n 16 rfl d_X2_takesBracket_15 rfl ?_
  refine ar_aload_n 17 rfl d_X2_takesBracket_16 rfl ?_
  refine ar_getA 20 rfl d_X2_takesBracket_17 fl_X2_18 rfl (by assumption) (by assumption) ?_
  refine ar_aload_n 21 rfl d_X2_takesBracket_20 rfl ?_
  refine ar_giv (y := (T.length : Int)) 24 rfl d_X2_takesBracket_21 fl_X2_35 rfl (by assumption) (by rw [hI_w, if_neg (by omega), hI_w, if_pos ⟨rfl, rfl⟩]) ?_
  refine ar_ilv (y := x.1) 25 rfl d_X2_takesBracket_24 (by assumption) (by omega) (by rw [hI_w, if_neg (by omega), hI_w, if_neg (by omega)]; exact hW.top.1) ?_
  refine ar_iconst 26 rfl d_X2_takesBracket_25 ?_
  refine ar_callV0 (M' := mX2_addsPart) (As := [_, _]) (ls' := [Va _, Vi _, Vi _]) 29 rfl d_X2_takesBracket_26 ml_X2_73 mt_X2_addsPart (by assumption) rfl (Nat.le_of_ble_eq_true rfl) rfl (Nat.le_of_ble_eq_true rfl) (by omega) ?_
  refine sp_X2_addsPart (m := c.length) (pt := cParts c) (hS.e rfl) (by rw [hI_w, if_neg (by omega), hI_w, if_neg (by omega)]; exact hRd.1) (by rw [hI_w, if_neg (by omega), hI_w, if_neg (by omega)]; exact hRd.2.1) hlen (by omega) ?_
  refine WA.ret (some (Vi _)) ⟨d_X2_takesBracket_29, rfl, Or.inr ⟨rfl, (Or.inr rfl)⟩⟩ ?_
  refine hP.1 _ _ rfl ((((((fr3 (by omega)).tr (fr3 (by omega))).tr (fr3 (by omega))).tr (fr3 (by omega))).tr (fr3 (by omega))).tr (fr3 (by omega))) ⟨hRd.add (by rw [hI_w, if_pos ⟨rfl, rfl⟩]) (by rw [hI_w, if_neg (by omega), hI_w, if_neg (by omega), hI_w, if_neg (by omega), hI_w, if_pos ⟨rfl, rfl⟩, if_neg (by omega)]) (by rw [hI_w, if_neg (by omega), hI_w, if_neg (by omega), hI_w, if_neg (by omega), hI_w, if_neg (by omega), hI_w, if_neg (by omega), hI_w, if_neg (by omega), if_neg (by omega), Nat.or_zero]; exact hRd.2.2.1) (by rw [hI_w, if_neg (by omega), hI_w, if_neg (by omega), hI_w, if_neg (by omega), hI_w, if_neg (by omega), hI_w, if_neg (by omega), hI_w, if_neg (by omega), if_neg (by omega), Nat.or_zero]; exact hRd.2.2.2.1) (fun i => ?_) (fun i => ?_), by rw [hI_w, if_neg (by omega), hI_w, if_neg (by omega), hI_w, if_neg (by omega), hI_w, if_neg (by omega), hI_w, if_pos ⟨rfl, rfl⟩]; rfl, hW.pop (by rw [hI_w, if_neg (by omega), hI_w, if_neg (by omega), hI_w, if_neg (by omega), hI_w, if_neg (by omega), hI_w, if_neg (by omega), hI_w, if_pos ⟨rfl, rfl⟩]) (by funext i; rw [hI_w, if_neg (by omega), hI_w, if_neg (by omega), hI_w, if_neg (by omega), hI_w, if_neg (by omega), hI_w, if_neg (by omega), hI_w, if_neg (by omega)]) (by funext i; rw [hI_w, if_neg (by omega), hI_w, if_neg (by omega), hI_w, if_neg (by omega), hI_w, if_neg (by omega), hI_w, if_neg (by omega), hI_w, if_neg (by omega)])⟩
  · rw [hI_w, if_neg (by omega), hI_w, if_neg (by omega), hI_w]
    by_cases e : i = c.length
    · rw [if_pos ⟨rfl, e⟩, if_pos e]
    · rw [if_neg (by omega), if_neg e, hI_w, if_neg (by omega), hI_w, if_neg (by omega), hI_w, if_neg (by omega)]
  · rw [hI_w, if_neg (by omega), hI_w]
    by_cases e : i = c.length
    · rw [if_pos ⟨rfl, e⟩, if_pos e]
    · rw [if_neg (by omega), if_neg e, hI_w, if_neg (by omega), hI_w, if_neg (by omega), hI_w, if_neg (by omega), hI_w, if_neg (by omega)]
set_option maxHeartbeats 4000000 in
theorem sp_X2_takesQuestion {c : Rcpe} {g : Nat} {T : List (Int × Nat)} {x : Int × Nat} (hS : ShR σ) (hA : RRA σ (c, g, x :: T)) (hT : T.length < 60) (hlen : c.length < 60) (hdp : 2 ≤ d) (hP : PO (some (c ++ [(5, 0)], 0, (12, c.length) :: T)) σ Q) : WA G d k n mX2_takesQuestion 0 [Va 156] [] σ Q := by
  have hk := hS.1
  have hk0 : sk σ 157 = (10, 60) := hS.2.1
  have hk1 : sk σ 158 = (10, 60) := hS.2.2.1
  have hk7 : sk σ 159 = (10, 60) := hS.2.2.2.1
  have hk8 : sk σ 160 = (10, 60) := hS.2.2.2.2.1
  have hr0 : hR σ 156 0 = some 157 := hS.2.2.2.2.2.1
  have hr1 : hR σ 156 1 = some 158 := hS.2.2.2.2.2.2.1
  have hr7 : hR σ 156 7 = some 159 := hS.2.2.2.2.2.2.2.1
  have hr8 : hR σ 156 8 = some 160 := hS.2.2.2.2.2.2.2.2
  obtain ⟨hRd, hst, hW⟩ := hA
  have hRd : RRd σ c := hRd
  have hW : RW σ (x :: T) := hW
  have h9 : hI σ 156 9 = ((T.length + 1 : Nat) : Int) := hW.1
  refine ar_aload_n 1 rfl d_X2_takesQuestion_0 rfl ?_
  refine ar_getA 4 rfl d_X2_takesQuestion_1 fl_X2_21 rfl (by assumption) (by assumption) ?_
  refine ar_aload_n 5 rfl d_X2_takesQuestion_4 rfl ?_
  refine ar_giv (y := ((T.length + 1 : Nat) : Int)) 8 rfl d_X2_takesQuestion_5 fl_X2_35 rfl (by assumption) h9 ?_
  refine ar_iconst 9 rfl d_X2_takesQuestion_8 ?_
  refine ar_isub 10 rfl d_X2_takesQuestion_9 ?_
  refine ar_top (y := (T.length : Int)) (by omega) ?_
  refine ar_aload_n 11 rfl d_X2_takesQuestion_10 rfl ?_
  refine ar_giv (y := (c.length : Int)) 14 rfl d_X2_takesQuestion_11 fl_X2_43 rfl (by assumption) hRd.1 ?_
  refine ar_iasN T.length 15 rfl d_X2_takesQuestion_14 (by assumption) (by omega) (by omega) ?_
  refine ar_aload_n 16 rfl d_X2_takesQuestion_15 rfl ?_
  refine ar_iconst 17 rfl d_X2_takesQuestion_16 ?_
  refine ar_iconst 18 rfl d_X2_takesQuestion_17 ?_
  refine ar_callV0 (M' := mX2_addsPart) (As := [_, _]) (ls' := [Va _, Vi _, Vi _]) 21 rfl d_X2_takesQuestion_18 ml_X2_73 mt_X2_addsPart (by assumption) rfl (Nat.le_of_ble_eq_true rfl) rfl (Nat.le_of_ble_eq_true rfl) (by omega) ?_
  refine sp_X2_addsPart (m := c.length) (pt := cParts c) (hS.e rfl) (by rw [hI_w, if_neg (by omega)]; exact hRd.1) (by rw [hI_w, if_neg (by omega)]; exact hRd.2.1) hlen (by omega) ?_
  refine ar_if_eq 37 24 rfl rfl d_X2_takesQuestion_21 (by omega) (fun h => absurd h (by decide)) (fun g21 => ?_)
  refine ar_aload_n 25 rfl d_X2_takesQuestion_24 rfl ?_
  refine ar_bipush 27 rfl d_X2_takesQuestion_25 rfl ?_
  refine ar_callV0 (M' := mX2_waitsNext) (As := [_]) (ls' := [Va _, Vi _]) 30 rfl d_X2_takesQuestion_27 ml_X2_99 mt_X2_waitsNext (by assumption) rfl (Nat.le_of_ble_eq_true rfl) rfl (Nat.le_of_ble_eq_true rfl) (by omega) ?_
  refine sp_X2_waitsNext (hS.e rfl) (by rw [hI_w, if_neg (by omega), hI_w, if_neg (by omega), hI_w, if_neg (by omega), hI_w, if_neg (by omega), hI_w, if_neg (by omega)]; exact h9) hT ?_
  refine ar_if_eq 37 33 rfl rfl d_X2_takesQuestion_30 (by omega) (fun h => absurd h (by decide)) (fun g30 => ?_)
  refine ar_iconst 34 rfl d_X2_takesQuestion_33 ?_
  refine ar_goto 38 rfl d_X2_takesQuestion_34 ?_
  refine WA.ret (some (Vi _)) ⟨d_X2_takesQuestion_38, rfl, Or.inr ⟨rfl, (by omega)⟩⟩ ?_
  refine hP.1 _ _ rfl (((((((fr3 (by omega)).tr (fr3 (by omega))).tr (fr3 (by omega))).tr (fr3 (by omega))).tr (fr3 (by omega))).tr (fr3 (by omega))).tr (fr3 (by omega))) ⟨hRd.add (by rw [hI_w, if_neg (by omega), hI_w, if_neg (by omega), hI_w, if_pos ⟨rfl, rfl⟩]) (by rw [hI_w, if_neg (by omega), hI_w, if_neg (by omega), hI_w, if_neg (by omega), hI_w, if_neg (by omega), hI_w, if_neg (by omega), hI_w, if_pos ⟨rfl, rfl⟩, if_neg (by omega)]) (by rw [hI_w, if_neg (by omega), hI_w, if_neg (by omega), hI_w, if_neg (by omega), hI_w, if_neg (by omega), hI_w, if_neg (by omega), hI_w, if_neg (by omega), hI_w, if_neg (by omega), if_neg (by omega), Nat.or_zero]; exact hRd.2.2.1) (by rw [hI_w, if_neg (by omega), hI_w, if_neg (by omega), hI_w, if_neg (by omega), hI_w, if_neg (by omega), hI_w, if_neg (by omega), hI_w, if_neg (by omega), hI_w, if_neg (by omega), if_neg (by omega), Nat.or_zero]; exact hRd.2.2.2.1) (fun i => ?_) (fun i => ?_), by rw [hI_w, if_pos ⟨rfl, rfl⟩]; rfl, hW.rep (by rw [hI_w, if_neg (by omega), hI_w, if_neg (by omega), hI_w, if_neg (by omega), hI_w, if_neg (by omega), hI_w, if_neg (by omega), hI_w, if_neg (by omega), hI_w, if_neg (by omega)]; exact h9) (fun i => ?_) (fun i hi => by rw [hI_w, if_neg (by omega), hI_w, if_neg (by omega), hI_w, if_neg (by omega), hI_w, if_neg (by omega), hI_w, if_neg (by omega), hI_w, if_neg (by omega), hI_w, if_neg (by omega)]) (fun _ => by rw [hI_w, if_neg (by omega), hI_w, if_neg (by omega), hI_w, if_neg (by omega), hI_w, if_neg (by omega), hI_w, if_neg (by omega), hI_w, if_neg (by omega), hI_w, if_pos ⟨rfl, rfl⟩])⟩
  · rw [hI_w, if_neg (by omega), hI_w, if_neg (by omega), hI_w, if_neg (by omega), hI_w, if_neg (by omega), hI_w]
    by_cases e : i = c.length
    · rw [if_pos ⟨rfl, e⟩, if_pos e]
    · rw [if_neg (by omega), if_neg e, hI_w, if_neg (by omega), hI_w, if_neg (by omega)]
  · rw [hI_w, if_neg (by omega), hI_w, if_neg (by omega), hI_w, if_neg (by omega), hI_w]
    by_cases e : i = c.length
    · rw [if_pos ⟨rfl, e⟩, if_pos e]
    · rw [if_neg (by omega), if_neg e, hI_w, if_neg (by omega), hI_w, if_neg (by omega), hI_w, if_neg (by omega)]
  · rw [hI_w, if_neg (by omega), hI_w]
    by_cases e : i = T.length
    · rw [if_pos ⟨rfl, e⟩, if_pos e]
    · rw [if_neg (by omega), if_neg e, hI_w, if_neg (by omega), hI_w, if_neg (by omega), hI_w, if_neg (by omega), hI_w, if_neg (by omega), hI_w, if_neg (by omega)]
set_option maxHeartbeats 4000000 in
theorem sp_X2_takesColon {c : Rcpe} {g : Nat} {T : List (Int × Nat)} {x : Int × Nat} (hS : ShR σ) (hA : RRA σ (c, g, x :: T)) (hT : T.length < 60) (hlen : c.length < 60) (hx : x.1 = 12 ∧ ∃ v, c[x.2]? = some (5, v)) (hdp : 2 ≤ d) (hP : PO (some (setO (c ++ [(6, 0)]) x.2 ((c.length + 1 : Nat) : Int), 0, (13, c.length) :: T)) σ Q) : WA G d k n mX2_takesColon 0 [Va 156, Vu] [] σ Q := by
  have hk := hS.1
  have hk0 : sk σ 157 = (10, 60) := hS.2.1
  have hk1 : sk σ 158 = (10, 60) := hS.2.2.1
  have hk7 : sk σ 159 = (10, 60) := hS.2.2.2.1
  have hk8 : sk σ 160 = (10, 60) := hS.2.2.2.2.1
  have hr0 : hR σ 156 0 = some 157 := hS.2.2.2.2.2.1
  have hr1 : hR σ 156 1 = some 158 := hS.2.2.2.2.2.2.1
  have hr7 : hR σ 156 7 = some 159 := hS.2.2.2.2.2.2.2.1
  have hr8 : hR σ 156 8 = some 160 := hS.2.2.2.2.2.2.2.2
  obtain ⟨hRd, hst, hW⟩ := hA
  have hRd : RRd σ c := hRd
  have hW : RW σ (x :: T) := hW
  have h9 : hI σ 156 9 = ((T.length + 1 : Nat) : Int) := hW.1
  obtain ⟨hx12, v5, hv5⟩ := hx
  have hxl := (List.getElem?_eq_some_iff.mp hv5).1
  have h160 := hW.top.2 (Or.inl hx12)
  refine ar_aload_n 1 rfl d_X2_takesColon_0 rfl ?_
  refine ar_getA 4 rfl d_X2_takesColon_1 fl_X2_21 rfl (by assumption) (by assumption) ?_
  refine ar_aload_n 5 rfl d_X2_takesColon_4 rfl ?_
  refine ar_giv (y := ((T.length + 1 : Nat) : Int)) 8 rfl d_X2_takesColon_5 fl_X2_35 rfl (by assumption) h9 ?_
  refine ar_iconst 9 rfl d_X2_takesColon_8 ?_
  refine ar_isub 10 rfl d_X2_takesColon_9 ?_
  refine ar_top (y := (T.length : Int)) (by omega) ?_
  refine ar_ilv (y := (x.2 : Int)) 11 rfl d_X2_takesColon_10 (by assumption) (by omega) h160 ?_
  refine ar_ist_1 12 rfl d_X2_takesColon_11 rfl (by intro _ h; cases h) ?_
  refine ar_aload_n 13 rfl d_X2_takesColon_12 rfl ?_
  refine ar_getA 16 rfl d_X2_takesColon_13 fl_X2_21 rfl (by assumption) (by assumption) ?_
  refine ar_aload_n 17 rfl d_X2_takesColon_16 rfl ?_
  refine ar_giv (y := ((T.length + 1 : Nat) : Int)) 20 rfl d_X2_takesColon_17 fl_X2_35 rfl (by assumption) h9 ?_
  refine ar_iconst 21 rfl d_X2_takesColon_20 ?_
  refine ar_isub 22 rfl d_X2_takesColon_21 ?_
  refine ar_top (y := (T.length : Int)) (by omega) ?_
  refine ar_aload_n 23 rfl d_X2_takesColon_22 rfl ?_
  refine ar_giv (y := (c.length : Int)) 26 rfl d_X2_takesColon_23 fl_X2_43 rfl (by assumption) hRd.1 ?_
  refine ar_iasN T.length 27 rfl d_X2_takesColon_26 (by assumption) (by omega) (by omega) ?_
  refine ar_aload_n 28 rfl d_X2_takesColon_27 rfl ?_
  refine ar_bipush 30 rfl d_X2_takesColon_28 rfl ?_
  refine ar_iconst 31 rfl d_X2_takesColon_30 ?_
  refine ar_callV0 (M' := mX2_adds) (As := [_, _]) (ls' := [Va _, Vi _, Vi _]) 34 rfl d_X2_takesColon_31 ml_X2_102 mt_X2_adds (by assumption) rfl (Nat.le_of_ble_eq_true rfl) rfl (Nat.le_of_ble_eq_true rfl) (by omega) ?_
  refine sp_X2_adds (m := c.length) (hS.e rfl) (by rw [hI_w, if_neg (by omega)]; exact hRd.1) hlen ?_
  refine ar_if_ne 39 37 rfl rfl d_X2_takesColon_34 (by omega) (fun g34 => ?_) (fun h => absurd h (by decide))
  refine ar_aload_n 40 rfl d_X2_takesColon_39 rfl ?_
  refine ar_iload_n 41 rfl d_X2_takesColon_40 rfl ?_
  refine ar_callV0 (M' := mX2_closesEnd) (As := [_]) (ls' := [Va _, Vi _]) 44 rfl d_X2_takesColon_41 ml_X2_105 mt_X2_closesEnd (by assumption) rfl (Nat.le_of_ble_eq_true rfl) rfl (Nat.le_of_ble_eq_true rfl) (by omega) ?_
  have hRd1 : RRd (wI (wI (wI (wI σ 160 T.length (c.length : Int)) 157 c.length 6) 158 c.length 0) 156 2 ((c.length + 1 : Nat) : Int)) (c ++ [(6, 0)]) := by
    refine hRd.add (by rw [hI_w, if_pos ⟨rfl, rfl⟩]) (by rw [hI_w, if_neg (by omega), hI_w, if_neg (by omega), hI_w, if_neg (by omega), hI_w, if_neg (by omega), if_pos rfl, Int.add_zero]; exact hRd.2.1) (by rw [hI_w, if_neg (by omega), hI_w, if_neg (by omega), hI_w, if_neg (by omega), hI_w, if_neg (by omega), if_neg (by omega), Nat.or_zero]; exact hRd.2.2.1) (by rw [hI_w, if_neg (by omega), hI_w, if_neg (by omega), hI_w, if_neg (by omega), hI_w, if_neg (by omega), if_neg (by omega), Nat.or_zero]; exact hRd.2.2.2.1) (fun i => ?_) (fun i => ?_)
    · rw [hI_w, if_neg (by omega), hI_w, if_neg (by omega), hI_w]
      by_cases e : i = c.length
      · rw [if_pos ⟨rfl, e⟩, if_pos e]
      · rw [if_neg (by omega), if_neg e, hI_w, if_neg (by omega)]
    · rw [hI_w, if_neg (by omega), hI_w]
      by_cases e : i = c.length
      · rw [if_pos ⟨rfl, e⟩, if_pos e]
      · rw [if_neg (by omega), if_neg e, hI_w, if_neg (by omega), hI_w, if_neg (by omega)]
  refine sp_X2_closesEnd (m := c.length + 1) (hS.e rfl) (by rw [hI_w, if_pos ⟨rfl, rfl⟩]) (by omega) (by omega) ?_
  refine ar_aload_n 45 rfl d_X2_takesColon_44 rfl ?_
  refine ar_bipush 47 rfl d_X2_takesColon_45 rfl ?_
  refine ar_callV0 (M' := mX2_waitsNext) (As := [_]) (ls' := [Va _, Vi _]) 50 rfl d_X2_takesColon_47 ml_X2_99 mt_X2_waitsNext (by assumption) rfl (Nat.le_of_ble_eq_true rfl) rfl (Nat.le_of_ble_eq_true rfl) (by omega) ?_
  refine sp_X2_waitsNext (m := T.length) (hS.e rfl) (by rw [hI_w, if_neg (by omega), hI_w, if_neg (by omega), hI_w, if_neg (by omega), hI_w, if_neg (by omega), hI_w, if_neg (by omega)]; exact h9) hT ?_
  refine WA.ret (some (Vi _)) ⟨d_X2_takesColon_50, rfl, Or.inr ⟨rfl, (Or.inr rfl)⟩⟩ ?_
  refine hP.1 _ _ rfl (((((((fr3 (by omega)).tr (fr3 (by omega))).tr (fr3 (by omega))).tr (fr3 (by omega))).tr (fr3 (by omega))).tr (fr3 (by omega))).tr (fr3 (by omega))) ⟨hRd1.set (x := (5, v5)) (by rw [List.getElem?_append_left hxl]; exact hv5) (show (5 : Int) ≠ 0 by decide) (fun j _ _ => by rw [hI_w, if_neg (by omega), hI_w, if_neg (by omega), hI_w, if_neg (by omega)]) (by funext i; rw [hI_w, if_neg (by omega), hI_w, if_neg (by omega), hI_w, if_neg (by omega)]) (fun i => ?_), by rw [hI_w, if_pos ⟨rfl, rfl⟩]; rfl, hW.rep (by rw [hI_w, if_neg (by omega), hI_w, if_neg (by omega), hI_w, if_neg (by omega), hI_w, if_neg (by omega), hI_w, if_neg (by omega), hI_w, if_neg (by omega), hI_w, if_neg (by omega)]; exact h9) (fun i => ?_) (fun i hi => by rw [hI_w, if_neg (by omega), hI_w, if_neg (by omega), hI_w, if_neg (by omega), hI_w, if_neg (by omega), hI_w, if_neg (by omega), hI_w, if_neg (by omega), hI_w, if_neg (by omega)]) (fun _ => by rw [hI_w, if_neg (by omega), hI_w, if_neg (by omega), hI_w, if_neg (by omega), hI_w, if_neg (by omega), hI_w, if_neg (by omega), hI_w, if_neg (by omega), hI_w, if_pos ⟨rfl, rfl⟩])⟩
  · rw [hI_w, if_neg (by omega), hI_w, if_neg (by omega), hI_w]
    by_cases e : i = x.2
    · rw [if_pos ⟨rfl, e⟩, if_pos e]
    · rw [if_neg (by omega), if_neg e]
  · rw [hI_w, if_neg (by omega), hI_w]
    by_cases e : i = T.length
    · rw [if_pos ⟨rfl, e⟩, if_pos e]
    · rw [if_neg (by omega), if_neg e, hI_w, if_neg (by omega), hI_w, if_neg (by omega), hI_w, if_neg (by omega), hI_w, if_neg (by omega), hI_w, if_neg (by omega)]
set_option maxHeartbeats 4000000 in
theorem sp_X2_takesBrace {c : Rcpe} {g : Nat} {T : List (Int × Nat)} {x : Int × Nat} (hS : ShR σ) (hA : RRA σ (c, g, x :: T)) (hT : T.length < 60) (hlen : c.length < 60) (hx : x.1 = 13 ∧ ∃ v, c[x.2]? = some (6, v)) (hdp : 2 ≤ d) (hP : PO (some (setO c x.2 (c.length : Int), 3, T)) σ Q) : WA G d k n mX2_takesBrace 0 [Va 156] [] σ Q := by
  have hk := hS.1
  have hk0 : sk σ 157 = (10, 60) := hS.2.1
  have hk1 : sk σ 158 = (10, 60) := hS.2.2.1
  have hk7 : sk σ 159 = (10, 60) := hS.2.2.2.1
  have hk8 : sk σ 160 = (10, 60) := hS.2.2.2.2.1
  have hr0 : hR σ 156 0 = some 157 := hS.2.2.2.2.2.1
  have hr1 : hR σ 156 1 = some 158 := hS.2.2.2.2.2.2.1
  have hr7 : hR σ 156 7 = some 159 := hS.2.2.2.2.2.2.2.1
  have hr8 : hR σ 156 8 = some 160 := hS.2.2.2.2.2.2.2.2
  obtain ⟨hRd, hst, hW⟩ := hA
  have hRd : RRd σ c := hRd
  have hW : RW σ (x :: T) := hW
  have h9 : hI σ 156 9 = ((T.length + 1 : Nat) : Int) := hW.1
  obtain ⟨hx13, v6, hv6⟩ := hx
  have hxl := (List.getElem?_eq_some_iff.mp hv6).1
  have h160 := hW.top.2 (Or.inr hx13)
  refine ar_aload_n 1 rfl d_X2_takesBrace_0 rfl ?_
  refine ar_dup 2 rfl d_X2_takesBrace_1 (fun _ => rfl) ?_
  refine ar_giv (y := ((T.length + 1 : Nat) : Int)) 5 rfl d_X2_takesBrace_2 fl_X2_35 rfl (by assumption) h9 ?_
  refine ar_iconst 6 rfl d_X2_takesBrace_5 ?_
  refine ar_isub 7 rfl d_X2_takesBrace_6 ?_
  refine ar_top (y := (T.length : Int)) (by omega) ?_
  refine ar_putI 10 rfl d_X2_takesBrace_7 fl_X2_35 rfl rfl (by assumption) ?_
  refine ar_aload_n 11 rfl d_X2_takesBrace_10 rfl ?_
  refine ar_aload_n 12 rfl d_X2_takesBrace_11 rfl ?_
  refine ar_getA 15 rfl d_X2_takesBrace_12 fl_X2_21 rfl (by assumption) (by assumption) ?_
  refine ar_aload_n 16 rfl d_X2_takesBrace_15 rfl ?_
  refine ar_giv (y := (T.length : Int)) 19 rfl d_X2_takesBrace_16 fl_X2_35 rfl (by assumption) (by rw [hI_w, if_pos ⟨rfl, rfl⟩]) ?_
  refine ar_ilv (y := (x.2 : Int)) 20 rfl d_X2_takesBrace_19 (by assumption) (by omega) (by rw [hI_w, if_neg (by omega)]; exact h160) ?_
  refine ar_callV0 (M' := mX2_closesEnd) (As := [_]) (ls' := [Va _, Vi _]) 23 rfl d_X2_takesBrace_20 ml_X2_105 mt_X2_closesEnd (by assumption) rfl (Nat.le_of_ble_eq_true rfl) rfl (Nat.le_of_ble_eq_true rfl) (by omega) ?_
  refine sp_X2_closesEnd (m := c.length) (hS.e rfl) (by rw [hI_w, if_neg (by omega)]; exact hRd.1) hxl (by omega) ?_
  refine ar_aload_n 24 rfl d_X2_takesBrace_23 rfl ?_
  refine ar_iconst 25 rfl d_X2_takesBrace_24 ?_
  refine ar_putI 28 rfl d_X2_takesBrace_25 fl_X2_31 rfl rfl (by assumption) ?_
  refine ar_iconst 29 rfl d_X2_takesBrace_28 ?_
  refine WA.ret (some (Vi _)) ⟨d_X2_takesBrace_29, rfl, Or.inr ⟨rfl, Or.inr rfl⟩⟩ ?_
  refine hP.1 _ _ rfl (((fr3 (by omega)).tr (fr3 (by omega))).tr (fr3 (by omega))) ⟨hRd.set (x := (6, v6)) hv6 (show (6 : Int) ≠ 0 by decide) (fun j _ _ => by rw [hI_w, if_neg (by omega), hI_w, if_neg (by omega), hI_w, if_neg (by omega)]) (by funext i; rw [hI_w, if_neg (by omega), hI_w, if_neg (by omega), hI_w, if_neg (by omega)]) (fun i => ?_), by rw [hI_w, if_pos ⟨rfl, rfl⟩]; rfl, hW.pop (by rw [hI_w, if_neg (by omega), hI_w, if_neg (by omega), hI_w, if_pos ⟨rfl, rfl⟩]) (by funext i; rw [hI_w, if_neg (by omega), hI_w, if_neg (by omega), hI_w, if_neg (by omega)]) (by funext i; rw [hI_w, if_neg (by omega), hI_w, if_neg (by omega), hI_w, if_neg (by omega)])⟩
  rw [hI_w, if_neg (by omega), hI_w]
  by_cases e : i = x.2
  · rw [if_pos ⟨rfl, e⟩, if_pos e]
  · rw [if_neg (by omega), if_neg e, hI_w, if_neg (by omega)]
end READ3
