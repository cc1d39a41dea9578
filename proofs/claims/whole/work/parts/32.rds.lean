section READ2
variable {G : GT} {d k n : Nat} {σ : Sg} {Q : Option AV → Sg → Prop}
theorem fr3 {σ : Sg} {a j : Nat} {x : Int} (h : 156 ≤ a ∧ a < 161) : FrI 156 161 σ (wI σ a j x) := FrI.w (by omega) (by omega)
set_option maxHeartbeats 4000000 in
theorem sp_X2_takesStart {i : Nat} {c : Rcpe} {W : List (Int × Nat)} {ch : Int} (hS : ShR σ) (hA : RRA σ (c, 0, W)) (hRI : RI i (c, 0, W)) (hi : i < 60) (hch : 0 ≤ ch ∧ ch ≤ 65535) (hdp : 3 ≤ d) (hP : PO (stp (c, 0, W) ch) σ Q) : WA G d k n mX2_takesStart 0 [Va 156, Vi ch, Vu] [] σ Q := by
  have hk := hS.1
  have hk0 : sk σ 157 = (10, 60) := hS.2.1
  have hk1 : sk σ 158 = (10, 60) := hS.2.2.1
  have hk7 : sk σ 159 = (10, 60) := hS.2.2.2.1
  have hk8 : sk σ 160 = (10, 60) := hS.2.2.2.2.1
  have hr0 : hR σ 156 0 = some 157 := hS.2.2.2.2.2.1
  have hr1 : hR σ 156 1 = some 158 := hS.2.2.2.2.2.2.1
  have hr7 : hR σ 156 7 = some 159 := hS.2.2.2.2.2.2.2.1
  have hr8 : hR σ 156 8 = some 160 := hS.2.2.2.2.2.2.2.2
  obtain ⟨hRd, hst, hW⟩ := hA
  have hlen : c.length < 60 := by have h9 : c.length ≤ i := hRI.1; omega
  have hWl : W.length < 60 := by have h9 : W.length ≤ i := hRI.2.1; omega
  have hRd : RRd σ c := hRd
  have hst : hI σ 156 6 = 0 := hst
  have hW : RW σ W := hW
  have hor : 97 ≤ ch ∧ ch < 109 → iOr ((cSh c : Nat) : Int) (iSl 1 (ch - 97)) = ((cSh c ||| 2 ^ (ch - 97).toNat : Nat) : Int) := by
    intro h
    obtain ⟨kn, hkn⟩ : ∃ kn : Nat, ch - 97 = (kn : Int) := ⟨(ch - 97).toNat, by omega⟩
    have hp2 := Nat.pow_lt_pow_right (a := 2) (by decide) (show kn < 12 by omega)
    have hc12 := cSh_lt (c := c) (fun x hx => by
      have := hRI.2.2.2.2.2.1 x hx
      intro h1 h2
      have := this.2.2.1 h1
      omega)
    rw [hkn, iSl_1 kn (by omega), iOr_n (by omega) (by omega), Int.toNat_natCast]
  refine ar_iload_n 1 rfl d_X2_takesStart_0 rfl ?_
  refine ar_bipush 3 rfl d_X2_takesStart_1 rfl ?_
  refine ar_icmp_ne 13 6 rfl rfl d_X2_takesStart_3 (by omega) (by omega) (fun g3 => ?_) (fun g3 => ?_)
  · refine ar_iload_n 14 rfl d_X2_takesStart_13 rfl ?_
    refine ar_bipush 16 rfl d_X2_takesStart_14 rfl ?_
    refine ar_icmp_ne 26 19 rfl rfl d_X2_takesStart_16 (by omega) (by omega) (fun g16 => ?_) (fun g16 => ?_)
    · refine ar_iload_n 27 rfl d_X2_takesStart_26 rfl ?_
      refine ar_bipush 29 rfl d_X2_takesStart_27 rfl ?_
      refine ar_icmp_ne 39 32 rfl rfl d_X2_takesStart_29 (by omega) (by omega) (fun g29 => ?_) (fun g29 => ?_)
      · refine ar_iload_n 40 rfl d_X2_takesStart_39 rfl ?_
        refine ar_callS0 (M' := mX2_isDigit) (As := [_]) (ls' := [Vi _]) 43 rfl d_X2_takesStart_40 ml_X2_61 mt_X2_isDigit rfl (Nat.le_of_ble_eq_true rfl) rfl (Nat.le_of_ble_eq_true rfl) (by omega) ?_
        refine sp_X2_isDigit (by omega) (fun g40 => ?_) (fun g40 => ?_)
        · refine ar_if_eq 61 46 rfl rfl d_X2_takesStart_43 (by omega) (fun h => absurd h (by decide)) (fun g43 => ?_)
          refine ar_aload_n 47 rfl d_X2_takesStart_46 rfl ?_
          refine ar_iconst 48 rfl d_X2_takesStart_47 ?_
          refine ar_putI 51 rfl d_X2_takesStart_48 fl_X2_31 rfl rfl (by assumption) ?_
          refine ar_aload_n 52 rfl d_X2_takesStart_51 rfl ?_
          refine ar_iconst 53 rfl d_X2_takesStart_52 ?_
          refine ar_iload_n 54 rfl d_X2_takesStart_53 rfl ?_
          refine ar_bipush 56 rfl d_X2_takesStart_54 rfl ?_
          refine ar_isub 57 rfl d_X2_takesStart_56 ?_
          refine ar_callV0 (M' := mX2_addsPart) (As := [_, _]) (ls' := [Va _, Vi _, Vi _]) 60 rfl d_X2_takesStart_57 ml_X2_73 mt_X2_addsPart (by assumption) rfl (Nat.le_of_ble_eq_true rfl) rfl (Nat.le_of_ble_eq_true rfl) (by omega) ?_
          refine sp_X2_addsPart (m := c.length) (pt := cParts c) (hS.e rfl) (by rw [hI_w, if_neg (by omega)]; exact hRd.1) (by rw [hI_w, if_neg (by omega)]; exact hRd.2.1) hlen (by omega) ?_
          refine WA.ret (some (Vi _)) ⟨d_X2_takesStart_60, rfl, Or.inr ⟨rfl, (Or.inr rfl)⟩⟩ ?_
          have hs : stp (c, 0, W) ch = some (c ++ [(1, ch - 48)], 2, W) := by
            unfold stp
            show (if (0 : Nat) = 0 then _ else _) = _
            rw [if_pos rfl, if_neg g3, if_neg g16, if_neg g29, if_pos g40]
          refine hP.1 _ _ hs (((((fr3 (by omega)).tr (fr3 (by omega))).tr (fr3 (by omega))).tr (fr3 (by omega))).tr (fr3 (by omega))) ⟨hRd.add (by rw [hI_w, if_pos ⟨rfl, rfl⟩]) (by rw [hI_w, if_neg (by omega), hI_w, if_neg (by omega), hI_w, if_neg (by omega), hI_w, if_pos ⟨rfl, rfl⟩]; rfl) (by rw [hI_w, if_neg (by omega), hI_w, if_neg (by omega), hI_w, if_neg (by omega), hI_w, if_neg (by omega), hI_w, if_neg (by omega), if_neg (by omega), Nat.or_zero]; exact hRd.2.2.1) (by rw [hI_w, if_neg (by omega), hI_w, if_neg (by omega), hI_w, if_neg (by omega), hI_w, if_neg (by omega), hI_w, if_neg (by omega), if_neg (by omega), Nat.or_zero]; exact hRd.2.2.2.1) (fun i => ?_) (fun i => ?_), by rw [hI_w, if_neg (by omega), hI_w, if_neg (by omega), hI_w, if_neg (by omega), hI_w, if_neg (by omega), hI_w, if_pos ⟨rfl, rfl⟩]; rfl, hW.e (by rw [hI_w, if_neg (by omega), hI_w, if_neg (by omega), hI_w, if_neg (by omega), hI_w, if_neg (by omega), hI_w, if_neg (by omega)]) (by funext i; rw [hI_w, if_neg (by omega), hI_w, if_neg (by omega), hI_w, if_neg (by omega), hI_w, if_neg (by omega), hI_w, if_neg (by omega)]) (by funext i; rw [hI_w, if_neg (by omega), hI_w, if_neg (by omega), hI_w, if_neg (by omega), hI_w, if_neg (by omega), hI_w, if_neg (by omega)])⟩
          · rw [hI_w, if_neg (by omega), hI_w, if_neg (by omega), hI_w]
            by_cases e : i = c.length
            · rw [if_pos ⟨rfl, e⟩, if_pos e]
            · rw [if_neg (by omega), if_neg e, hI_w, if_neg (by omega), hI_w, if_neg (by omega)]
          · rw [hI_w, if_neg (by omega), hI_w]
            by_cases e : i = c.length
            · rw [if_pos ⟨rfl, e⟩, if_pos e]
            · rw [if_neg (by omega), if_neg e, hI_w, if_neg (by omega), hI_w, if_neg (by omega), hI_w, if_neg (by omega)]
        · refine ar_if_eq 61 46 rfl rfl d_X2_takesStart_43 (by omega) (fun g43 => ?_) (fun h => absurd h (by decide))
          refine ar_iload_n 62 rfl d_X2_takesStart_61 rfl ?_
          refine ar_bipush 64 rfl d_X2_takesStart_62 rfl ?_
          refine ar_isub 65 rfl d_X2_takesStart_64 ?_
          refine ar_ist_2 66 rfl d_X2_takesStart_65 rfl (by intro _ h; cases h) ?_
          refine ar_iload_n 67 rfl d_X2_takesStart_66 rfl ?_
          refine ar_callSN0 (M' := mX5_isShelf) (As := [_]) (ls' := [Vi _]) 70 rfl d_X2_takesStart_67 ml_X2_77 mt_X5_isShelf rfl (Nat.le_of_ble_eq_true rfl) rfl (Nat.le_of_ble_eq_true rfl) (by omega) ?_
          refine sp_X5_isShelf (by omega) (fun g67 => ?_) (fun g67 => ?_)
          · refine ar_if_ne 75 73 rfl rfl d_X2_takesStart_70 (by omega) (fun g70 => ?_) (fun h => absurd h (by decide))
            refine ar_aload_n 76 rfl d_X2_takesStart_75 rfl ?_
            refine ar_dup 77 rfl d_X2_takesStart_76 (fun _ => rfl) ?_
            refine ar_giv (y := ((cSh c : Nat) : Int)) 80 rfl d_X2_takesStart_77 fl_X2_49 rfl (by assumption) hRd.2.2.1 ?_
            refine ar_iconst 81 rfl d_X2_takesStart_80 ?_
            refine ar_iload_n 82 rfl d_X2_takesStart_81 rfl ?_
            refine ar_ishl 83 rfl d_X2_takesStart_82 ?_
            refine ar_ior 84 rfl d_X2_takesStart_83 ?_
            refine ar_top (y := ((cSh c ||| 2 ^ (ch - 97).toNat : Nat) : Int)) (hor (by omega)) ?_
            refine ar_putI 87 rfl d_X2_takesStart_84 fl_X2_49 rfl rfl (by assumption) ?_
            refine ar_aload_n 88 rfl d_X2_takesStart_87 rfl ?_
            refine ar_iconst 89 rfl d_X2_takesStart_88 ?_
            refine ar_putI 92 rfl d_X2_takesStart_89 fl_X2_31 rfl rfl (by assumption) ?_
            refine ar_aload_n 93 rfl d_X2_takesStart_92 rfl ?_
            refine ar_iconst 94 rfl d_X2_takesStart_93 ?_
            refine ar_iload_n 95 rfl d_X2_takesStart_94 rfl ?_
            refine ar_callV0 (M' := mX2_addsPart) (As := [_, _]) (ls' := [Va _, Vi _, Vi _]) 98 rfl d_X2_takesStart_95 ml_X2_73 mt_X2_addsPart (by assumption) rfl (Nat.le_of_ble_eq_true rfl) rfl (Nat.le_of_ble_eq_true rfl) (by omega) ?_
            refine sp_X2_addsPart (m := c.length) (pt := cParts c) (hS.e rfl) (by rw [hI_w, if_neg (by omega), hI_w, if_neg (by omega)]; exact hRd.1) (by rw [hI_w, if_neg (by omega), hI_w, if_neg (by omega)]; exact hRd.2.1) hlen (by omega) ?_
            refine WA.ret (some (Vi _)) ⟨d_X2_takesStart_98, rfl, Or.inr ⟨rfl, (Or.inr rfl)⟩⟩ ?_
            have hs : stp (c, 0, W) ch = some (c ++ [(0, ch - 97)], 3, W) := by
              unfold stp
              show (if (0 : Nat) = 0 then _ else _) = _
              rw [if_pos rfl, if_neg g3, if_neg g16, if_neg g29, if_neg g40, if_pos (by omega)]
            refine hP.1 _ _ hs ((((((fr3 (by omega)).tr (fr3 (by omega))).tr (fr3 (by omega))).tr (fr3 (by omega))).tr (fr3 (by omega))).tr (fr3 (by omega))) ⟨hRd.add (by rw [hI_w, if_pos ⟨rfl, rfl⟩]) (by rw [hI_w, if_neg (by omega), hI_w, if_neg (by omega), hI_w, if_neg (by omega), hI_w, if_pos ⟨rfl, rfl⟩]; rfl) (by rw [hI_w, if_neg (by omega), hI_w, if_neg (by omega), hI_w, if_neg (by omega), hI_w, if_neg (by omega), hI_w, if_neg (by omega), hI_w, if_pos ⟨rfl, rfl⟩, if_pos ⟨rfl, by omega⟩]) (by rw [hI_w, if_neg (by omega), hI_w, if_neg (by omega), hI_w, if_neg (by omega), hI_w, if_neg (by omega), hI_w, if_neg (by omega), hI_w, if_neg (by omega), if_neg (by omega), Nat.or_zero]; exact hRd.2.2.2.1) (fun i => ?_) (fun i => ?_), by rw [hI_w, if_neg (by omega), hI_w, if_neg (by omega), hI_w, if_neg (by omega), hI_w, if_neg (by omega), hI_w, if_pos ⟨rfl, rfl⟩]; rfl, hW.e (by rw [hI_w, if_neg (by omega), hI_w, if_neg (by omega), hI_w, if_neg (by omega), hI_w, if_neg (by omega), hI_w, if_neg (by omega), hI_w, if_neg (by omega)]) (by funext i; rw [hI_w, if_neg (by omega), hI_w, if_neg (by omega), hI_w, if_neg (by omega), hI_w, if_neg (by omega), hI_w, if_neg (by omega), hI_w, if_neg (by omega)]) (by funext i; rw [hI_w, if_neg (by omega), hI_w, if_neg (by omega), hI_w, if_neg (by omega), hI_w, if_neg (by omega), hI_w, if_neg (by omega), hI_w, if_neg (by omega)])⟩
            · rw [hI_w, if_neg (by omega), hI_w, if_neg (by omega), hI_w]
              by_cases e : i = c.length
              · rw [if_pos ⟨rfl, e⟩, if_pos e]
              · rw [if_neg (by omega), if_neg e, hI_w, if_neg (by omega), hI_w, if_neg (by omega), hI_w, if_neg (by omega)]
            · rw [hI_w, if_neg (by omega), hI_w]
              by_cases e : i = c.length
              · rw [if_pos ⟨rfl, e⟩, if_pos e]
              · rw [if_neg (by omega), if_neg e, hI_w, if_neg (by omega), hI_w, if_neg (by omega), hI_w, if_neg (by omega), hI_w, if_neg (by omega)]
          · refine ar_if_ne 75 73 rfl rfl d_X2_takesStart_70 (by omega) (fun h => absurd h (by decide)) (fun g70 => ?_)
            refine ar_iconst 74 rfl d_X2_takesStart_73 ?_
            refine WA.ret (some (Vi _)) ⟨d_X2_takesStart_74, rfl, Or.inr ⟨rfl, Or.inl rfl⟩⟩ ?_
            refine hP.no ?_
            unfold stp
            show (if (0 : Nat) = 0 then _ else _) = _
            rw [if_pos rfl, if_neg g3, if_neg g16, if_neg g29, if_neg g40, if_neg (by omega)]
      · subst g29
        refine ar_aload_n 33 rfl d_X2_takesStart_32 rfl ?_
        refine ar_iconst 34 rfl d_X2_takesStart_33 ?_
        refine ar_putI 37 rfl d_X2_takesStart_34 fl_X2_31 rfl rfl (by assumption) ?_
        refine ar_iconst 38 rfl d_X2_takesStart_37 ?_
        refine WA.ret (some (Vi _)) ⟨d_X2_takesStart_38, rfl, Or.inr ⟨rfl, Or.inr rfl⟩⟩ ?_
        refine hP.1 _ (c, 1, W) rfl (fr3 (by omega)) ⟨hRd.e (fun j _ _ => by rw [hI_w, if_neg (by omega)]) (by funext i; rw [hI_w, if_neg (by omega)]) (by funext i; rw [hI_w, if_neg (by omega)]), by rw [hI_w, if_pos ⟨rfl, rfl⟩]; rfl, hW.e (by rw [hI_w, if_neg (by omega)]) (by funext i; rw [hI_w, if_neg (by omega)]) (by funext i; rw [hI_w, if_neg (by omega)])⟩
    · subst g16
      refine ar_aload_n 20 rfl d_X2_takesStart_19 rfl ?_
      refine ar_bipush 22 rfl d_X2_takesStart_20 rfl ?_
      refine ar_callV0 (M' := mX2_opens) (As := [_]) (ls' := [Va _, Vi _]) 25 rfl d_X2_takesStart_22 ml_X2_70 mt_X2_opens (by assumption) rfl (Nat.le_of_ble_eq_true rfl) rfl (Nat.le_of_ble_eq_true rfl) (by omega) ?_
      refine sp_X2_opens hS hW.1 hWl ?_
      refine WA.ret (some (Vi _)) ⟨d_X2_takesStart_25, rfl, Or.inr ⟨rfl, (Or.inr rfl)⟩⟩ ?_
      refine hP.1 _ (c, 0, (11, 0) :: W) rfl ((fr3 (by omega)).tr (fr3 (by omega))) ⟨hRd.e (fun j _ _ => by rw [hI_w, if_neg (by omega), hI_w, if_neg (by omega)]) (by funext i; rw [hI_w, if_neg (by omega), hI_w, if_neg (by omega)]) (by funext i; rw [hI_w, if_neg (by omega), hI_w, if_neg (by omega)]), by rw [hI_w, if_neg (by omega), hI_w, if_neg (by omega)]; exact hst, hW.push (by rw [hI_w, if_pos ⟨rfl, rfl⟩]) (fun i => ?_) (fun i _ => by rw [hI_w, if_neg (by omega), hI_w, if_neg (by omega)]) (fun h => by omega)⟩
      rw [hI_w, if_neg (by omega), hI_w]
      by_cases e : i = W.length
      · rw [if_pos ⟨rfl, e⟩, if_pos e]
      · rw [if_neg (by omega), if_neg e]
  · subst g3
    refine ar_aload_n 7 rfl d_X2_takesStart_6 rfl ?_
    refine ar_bipush 9 rfl d_X2_takesStart_7 rfl ?_
    refine ar_callV0 (M' := mX2_opens) (As := [_]) (ls' := [Va _, Vi _]) 12 rfl d_X2_takesStart_9 ml_X2_70 mt_X2_opens (by assumption) rfl (Nat.le_of_ble_eq_true rfl) rfl (Nat.le_of_ble_eq_true rfl) (by omega) ?_
    refine sp_X2_opens hS hW.1 hWl ?_
    refine WA.ret (some (Vi _)) ⟨d_X2_takesStart_12, rfl, Or.inr ⟨rfl, (Or.inr rfl)⟩⟩ ?_
    refine hP.1 _ (c, 0, (10, 0) :: W) rfl ((fr3 (by omega)).tr (fr3 (by omega))) ⟨hRd.e (fun j _ _ => by rw [hI_w, if_neg (by omega), hI_w, if_neg (by omega)]) (by funext i; rw [hI_w, if_neg (by omega), hI_w, if_neg (by omega)]) (by funext i; rw [hI_w, if_neg (by omega), hI_w, if_neg (by omega)]), by rw [hI_w, if_neg (by omega), hI_w, if_neg (by omega)]; exact hst, hW.push (by rw [hI_w, if_pos ⟨rfl, rfl⟩]) (fun i => ?_) (fun i _ => by rw [hI_w, if_neg (by omega), hI_w, if_neg (by omega)]) (fun h => by omega)⟩
    rw [hI_w, if_neg (by omega), hI_w]
    by_cases e : i = W.length
    · rw [if_pos ⟨rfl, e⟩, if_pos e]
    · rw [if_neg (by omega), if_neg e]
end READ2
