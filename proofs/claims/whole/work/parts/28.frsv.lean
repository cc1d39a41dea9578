-- ===== baking freshly, walked =====
def FrP (s : Nat) (S : SS) (t : Nat) (σ : Sg) : Prop := ShB σ ∧ hR σ 121 0 = some s ∧ hI σ 121 1 = 1 ∧ RSt σ s S ∧ WFS S ∧ 652 ≤ sn σ ∧ hI σ 121 2 = (t : Int) ∧ t < 4096 ∧ ∀ k, k < 6 → hI σ 122 k = -1 ∨ (hI σ 122 k = vF S k ∧ t ||| sF S k = t)
def FrF (l : Nat) (σ σ' : Sg) : Prop := σ'.2 = σ.2 ∧ (∀ a, (a < 121 ∨ 156 ≤ a) → hI σ' a = hI σ a) ∧ hI σ' 121 1 = hI σ 121 1 ∧ ∀ j, l ≤ j → j < 6 → hI σ' (125 + j) = hI σ (125 + j) ∧ hI σ' (132 + j) = hI σ (132 + j) ∧ ∀ a, (138 + 3 * j ≤ a ∧ a < 141 + 3 * j) → hI σ' a = hI σ a
theorem FrF.rf {l : Nat} {σ : Sg} : FrF l σ σ := ⟨rfl, fun _ _ => rfl, rfl, fun _ _ _ => ⟨rfl, rfl, fun _ _ => rfl⟩⟩
theorem FrF.tr {l : Nat} {σ σ1 σ2 : Sg} (h : FrF l σ σ1) (h2 : FrF l σ1 σ2) : FrF l σ σ2 := ⟨h2.1.trans h.1, fun a b => (h2.2.1 a b).trans (h.2.1 a b), h2.2.2.1.trans h.2.2.1, fun j a b => ⟨(h2.2.2.2 j a b).1.trans (h.2.2.2 j a b).1, (h2.2.2.2 j a b).2.1.trans (h.2.2.2 j a b).2.1, fun c e => ((h2.2.2.2 j a b).2.2 c e).trans ((h.2.2.2 j a b).2.2 c e)⟩⟩
theorem FrF.mono {l l' : Nat} {σ σ' : Sg} (h : FrF l σ σ') (hl : l ≤ l') : FrF l' σ σ' := ⟨h.1, h.2.1, h.2.2.1, fun j a b => h.2.2.2 j (by omega) b⟩
theorem FrF.b {l : Nat} {σ σ' : Sg} (e : σ'.2 = σ.2) (h1 : hI σ' 121 1 = hI σ 121 1) (h : ∀ b, ((b = 121 ∨ b = 122 ∨ ∃ j, j < l ∧ (b = 125 + j ∨ b = 132 + j ∨ (138 + 3 * j ≤ b ∧ b < 141 + 3 * j))) → False) → hI σ' b = hI σ b) (hl : l ≤ 6) : FrF l σ σ' := by
  refine ⟨e, fun a b => h a ?_, h1, fun j hj hj6 => ⟨h _ ?_, h _ ?_, fun a ha => h _ ?_⟩⟩
  · rintro (e | e | ⟨j, a1, b1⟩) <;> omega
  · rintro (e | e | ⟨j, a1, b1⟩) <;> omega
  · rintro (e | e | ⟨j, a1, b1⟩) <;> omega
  · rintro (e | e | ⟨j, a1, b1⟩) <;> omega
theorem FrP.b {s t t' : Nat} {S : SS} {σ σ' : Sg} (h : FrP s S t σ) (hs : (s + 58 ≤ 121 ∨ 156 ≤ s) ∧ s + 58 ≤ 652) (e : σ'.2 = σ.2) (hb : ∀ b, (b < 121 ∨ 156 ≤ b) → hI σ' b = hI σ b) (h1 : hI σ' 121 1 = hI σ 121 1) (h2 : hI σ' 121 2 = (t' : Int)) (h3 : t' < 4096) (h4 : ∀ k, k < 6 → hI σ' 122 k = -1 ∨ (hI σ' 122 k = vF S k ∧ t' ||| sF S k = t')) : FrP s S t' σ' := by
  obtain ⟨a1, a2, a3, a4, a5, a6, a7⟩ := h
  have er : hR σ' = hR σ := by
    show σ'.2.1 = σ.2.1
    rw [e]
  have ek : sk σ' = sk σ := by
    show σ'.2.2.1 = σ.2.2.1
    rw [e]
  have en : sn σ' = sn σ := by
    show σ'.2.2.2 = σ.2.2.2
    rw [e]
  exact ⟨a1.fr ek (fun a _ _ _ => by rw [er]) (fun j _ => by rw [er]), by rw [er]; exact a2, by rw [h1]; exact a3, a4.fr (fun b hb2 _ => ⟨by rw [ek], hb b (by omega), by rw [er]⟩) (by omega) (by omega), a5, by omega, h2, h3, h4⟩
/-- the contract for the loaves below b -/
def FC (G : GT) (s : Nat) (S : SS) (b dd : Nat) : Prop := ∀ (j t : Nat) (σ : Sg) (Q : Option AV → Sg → Prop), j < b → FrP s S t σ →
  (∀ σ', FrP s S (t ||| sF S j) σ' → FrF b σ σ' → Q (some (Vi (vF S j))) σ') → WA G dd 0 0 mX0_loafValue 0 [Va 121, Vi (j : Int), Vi (b : Int), Vu] [] σ Q
section FRESHV
variable {G : GT} {d k n s l t : Nat} {σ : Sg} {S : SS} {Q : Option AV → Sg → Prop}
set_option maxHeartbeats 4000000 in
theorem sp_valueNow_fresh {key : Int} (hA : FC G s S l (d - 1)) (hp : FrP s S t σ) (hk : VK l key) (hl : l ≤ 6) (hdp : 2 ≤ d)
    (hQ : ∀ σ', FrP s S (if 20 ≤ key then t ||| sF S (key - 20).toNat else t) σ' → FrF l σ σ' → Q (some (Vi (vlF S.1 (vF S) key))) σ') : WA G d 0 0 mX0_valueNow 0 [Va 121, Vi key, Vi (l : Int), Vu] [] σ Q := by
  have hk121 := hp.1.1
  have hr121 := hp.2.1
  have hkr : -1 ≤ key ∧ key ≤ 100 := by rcases hk with e | e <;> omega
  obtain ⟨hS, hSf, hSr, hSm⟩ := hp.2.2.2.1
  obtain ⟨pm, hpm, hpm1, h14⟩ := hSf.2.1
  have hks := hS.1
  have hk1 : sk σ (s + 1) = (10, 12) := hS.2.1
  have hr0 : hR σ s 0 = some (s + 1) := hS.2.2.2.2.2.2.2.1
  refine ar_iload_n 1 rfl d_X0_valueNow_0 rfl ?_
  refine ar_bipush 3 rfl d_X0_valueNow_1 rfl ?_
  refine ar_icmp_lt 16 6 rfl rfl d_X0_valueNow_3 (by omega) (by omega) (fun g3 => ?_) (fun g3 => ?_)
  · refine ar_iload_n 17 rfl d_X0_valueNow_16 rfl ?_
    refine ar_callSN0 (M' := mX5_isShelf) (As := [_]) (ls' := [Vi _]) 20 rfl d_X0_valueNow_17 ml_X0_137 mt_X5_isShelf rfl (Nat.le_of_ble_eq_true rfl) rfl (Nat.le_of_ble_eq_true rfl) (by omega) ?_
    refine sp_X5_isShelf (by omega) (fun g17 => ?_) (fun g17 => ?_)
    · refine ar_if_eq 41 23 rfl rfl d_X0_valueNow_20 (by omega) (fun h => absurd h (by decide)) (fun g20 => ?_)
      refine ar_aload_n 24 rfl d_X0_valueNow_23 rfl ?_
      refine ar_getA 27 rfl d_X0_valueNow_24 fl_X0_57 rfl (by assumption) (by assumption) ?_
      refine ar_giv (y := (pm : Int)) 30 rfl d_X0_valueNow_27 fl_X0_141 rfl (by assumption) (by assumption) ?_
      refine ar_iload_n 31 rfl d_X0_valueNow_30 rfl ?_
      refine ar_top (y := ((key.toNat : Nat) : Int)) (by omega) ?_
      refine ar_callSN0 (M' := mX5_bitOf) (As := [_, _]) (ls' := [Vi _, Vi _]) 34 rfl d_X0_valueNow_31 ml_X0_144 mt_X5_bitOf rfl (Nat.le_of_ble_eq_true rfl) rfl (Nat.le_of_ble_eq_true rfl) (by omega) ?_
      refine sp_X5_bitOf (by omega) (by omega) ?_
      have hf14 := h14 key.toNat (by omega)
      have hv : vlF S.1 (vF S) key = sv S.1 key := by
        unfold vlF
        rw [if_neg (by omega)]
      rw [hv, if_neg (by omega)] at hQ
      have hfin := hQ σ hp FrF.rf
      by_cases hbit : pm.testBit key.toNat = true
      · rw [if_pos hbit]
        rw [if_pos hbit] at hf14
        have hsv : sv S.1 key = 100 := by
          unfold sv
          rw [if_neg (by omega)]
        rw [hsv] at hfin
        refine ar_if_ne 41 37 rfl rfl d_X0_valueNow_34 (by omega) (fun g34 => ?_) (fun h => absurd h (by decide))
        refine ar_iconst 42 rfl d_X0_valueNow_41 ?_
        refine ar_ist_3 43 rfl d_X0_valueNow_42 rfl (by intro _ h; cases h) ?_
        refine ar_iload_n 44 rfl d_X0_valueNow_43 rfl ?_
        refine ar_if_eq 59 47 rfl rfl d_X0_valueNow_44 (by omega) (fun g44 => ?_) (fun h => absurd rfl h)
        refine ar_bipush 61 rfl d_X0_valueNow_59 rfl ?_
        refine WA.ret (some (Vi _)) ⟨d_X0_valueNow_61, rfl, Or.inl rfl⟩ ?_
        exact hfin
      · rw [if_neg hbit]
        rw [if_neg hbit] at hf14
        have hsv : sv S.1 key = S.1 (2 + key.toNat) := by
          unfold sv
          rw [if_pos (by omega)]
        rw [hsv] at hfin
        refine ar_if_ne 41 37 rfl rfl d_X0_valueNow_34 (by omega) (fun h => absurd h (by decide)) (fun g34 => ?_)
        refine ar_iconst 38 rfl d_X0_valueNow_37 ?_
        refine ar_goto 42 rfl d_X0_valueNow_38 ?_
        refine ar_ist_3 43 rfl d_X0_valueNow_42 rfl (by intro _ h; cases h) ?_
        refine ar_iload_n 44 rfl d_X0_valueNow_43 rfl ?_
        refine ar_if_eq 59 47 rfl rfl d_X0_valueNow_44 (by omega) (fun h => absurd h (by decide)) (fun g44 => ?_)
        refine ar_aload_n 48 rfl d_X0_valueNow_47 rfl ?_
        refine ar_getA 51 rfl d_X0_valueNow_48 fl_X0_57 rfl (by assumption) (by assumption) ?_
        refine ar_getA 54 rfl d_X0_valueNow_51 fl_X0_147 rfl (by assumption) (by assumption) ?_
        refine ar_iload_n 55 rfl d_X0_valueNow_54 rfl ?_
        refine ar_ilv (y := (S.1 (2 + key.toNat))) 56 rfl d_X0_valueNow_55 (by assumption) (by omega) (hSf.1 key.toNat (by omega)) ?_
        refine ar_goto 61 rfl d_X0_valueNow_56 ?_
        refine WA.ret (some (Vi _)) ⟨d_X0_valueNow_61, rfl, Or.inl rfl⟩ ?_
        exact hfin
    · exact absurd hk (by unfold VK; omega)
  · refine ar_aload_n 7 rfl d_X0_valueNow_6 rfl ?_
    refine ar_iload_n 8 rfl d_X0_valueNow_7 rfl ?_
    refine ar_bipush 10 rfl d_X0_valueNow_8 rfl ?_
    refine ar_isub 11 rfl d_X0_valueNow_10 ?_
    have hkl : (key - 20).toNat < l := by rcases hk with e | e <;> omega
    have hv : vlF S.1 (vF S) key = vF S (key - 20).toNat := by
      unfold vlF
      rw [if_pos (by omega)]
    rw [hv, if_pos (by omega)] at hQ
    refine ar_top (y := (((key - 20).toNat : Nat) : Int)) (by omega) ?_
    refine ar_iload_n 12 rfl d_X0_valueNow_11 rfl ?_
    refine ar_callV0 (M' := mX0_loafValue) (As := [_, _]) (ls' := [Va _, Vi _, Vi _, Vu]) 15 rfl d_X0_valueNow_12 ml_X0_34 mt_X0_loafValue (by assumption) rfl (Nat.le_of_ble_eq_true rfl) rfl (Nat.le_of_ble_eq_true rfl) (by omega) ?_
    refine hA (key - 20).toNat t σ _ hkl hp (fun σ1 hp1 hf1 => ?_)
    refine WA.ret (some (Vi _)) ⟨d_X0_valueNow_15, rfl, Or.inl rfl⟩ ?_
    exact hQ σ1 hp1 hf1
def IvF (s : Nat) (S : SS) (l : Nat) (σ0 : Sg) (t : Nat) (σ : Sg) : Prop := FrP s S t σ ∧ FrF (l + 1) σ0 σ
set_option maxHeartbeats 8000000 in
theorem sp_reckon_fresh {r : Nat} (hs : (s + 58 ≤ 121 ∨ 156 ≤ s) ∧ s + 58 ≤ 652) (hA : FC G s S l (d - 3)) (hp : FrP s S t σ) (hl : l < 6) (hne : S.2.2 l ≠ []) (hRq : RRec σ r (S.2.2 l)) (hr : 652 ≤ r) (hdp : 5 ≤ d)
    (hQ : ∀ σ', FrP s S (t ||| sF S l) σ' → FrF (l + 1) σ σ' → Q (some (Vi (vF S l))) σ') : WA G d 0 0 mX0_reckon 0 [Va 121, Vi (l : Int), Va r, Vu, Vu, Vu, Vu, Vu, Vu, Vu, Vu] [] σ Q := by
  have hw := hp.2.2.2.2.1
  have ht := hp.2.2.2.2.2.2.2.1
  have hc := hw.2.2.2.2.2.2.2.2 l hl
  have hB : ∀ (t' : Nat) (σ' : Sg), IvF s S l σ t' σ' → ShB σ' := fun t' σ' h => h.1.1
  have hst : ∀ (t' : Nat) (σ2 σ3 : Sg), IvF s S l σ t' σ2 → σ3.2 = σ2.2 → (∀ b, b ≠ 125 + l → (b < 138 + 3 * l ∨ 141 + 3 * l ≤ b) → hI σ3 b = hI σ2 b) → IvF s S l σ t' σ3 := by
    intro t' σ2 σ3 h e hb
    have e121 := hb 121 (by omega) (by omega)
    have e122 := hb 122 (by omega) (by omega)
    refine ⟨h.1.b hs e (fun b h1 => hb b (by omega) (by omega)) (by rw [e121]) (by rw [e121]; exact h.1.2.2.2.2.2.2.1) h.1.2.2.2.2.2.2.2.1 (by rw [e122]; exact h.1.2.2.2.2.2.2.2.2), h.2.tr (FrF.b e (by rw [e121]) (fun b h1 => ?_) (by omega))⟩
    by_cases e1 : b = 125 + l
    · exact absurd (Or.inr (Or.inr ⟨l, by omega, Or.inl e1⟩)) h1
    · by_cases e2 : 138 + 3 * l ≤ b ∧ b < 141 + 3 * l
      · exact absurd (Or.inr (Or.inr ⟨l, by omega, Or.inr (Or.inr e2)⟩)) h1
      · exact hb b e1 (by omega)
  have hR := run_F hw hl hne ht
  refine sp_X0_reckon (lk := lkG (vaF S) mkF) (Iv := IvF s S l σ) (V := VK l) (DV := DVF S l) (t0 := t) hl hB hst ?_ ?_ hc.1 hRq hr ⟨hp, FrF.rf⟩ ⟨fun x hx => (by cases hx), List.nodup_nil, ht⟩ (by omega) (fun σ' hI9 hM9 => ?_)
  · intro t2 σ2 d9 key n9 Q' hIv hDV hVk hRM hQ'
    have hkr : ∀ key, VK l key → i32 key := by
      intro key hk
      rcases hk with e | e <;> constructor <;> omega
    refine sp_X0_lookedUp (va := vaF S) (mk := mkF) (Iv := IvF s S l σ) (V := VK l) (DV := DVF S l) hl hB hst ?_ ?_ hkr ?_ (fun d2 t3 key2 h hk2 => lkF_DV hw hl hk2 h) ?_ hIv hDV hVk hRM (by omega) hQ'
    · intro t3 σ3 key2 h hk2 hk12
      obtain ⟨a1, a2, a3, a4, a5, a6, a7, a8, a9⟩ := h.1
      have e1 : iOr (hI σ3 121 2) (iSl 1 key2) = ((mkF key2 t3 : Nat) : Int) := by
        obtain ⟨kn, rfl⟩ : ∃ kn : Nat, key2 = (kn : Int) := ⟨key2.toNat, by omega⟩
        have hp2 := Nat.pow_lt_pow_right (a := 2) (by decide) (show kn < 12 by omega)
        rw [a7, iSl_1 kn (by omega), iOr_n (by omega) (by omega)]
        unfold mkF
        rw [if_pos (by omega), Int.toNat_natCast]
      have h12 : mkF key2 t3 < 4096 := by
        unfold mkF
        rw [if_pos hk12]
        have hp2 := Nat.pow_lt_pow_right (a := 2) (by decide) (show key2.toNat < 12 by omega)
        exact or_lt a8 (by omega)
      rw [e1]
      refine ⟨h.1.b hs rfl (fun b h1 => by funext i; rw [hI_w, if_neg (by omega)]) (by rw [hI_w, if_neg (by omega)]) (by rw [hI_w, if_pos ⟨rfl, rfl⟩]) h12 (fun k hk => ?_), h.2.tr (FrF.b rfl (by rw [hI_w, if_neg (by omega)]) (fun b h1 => ?_) (by omega))⟩
      · rw [hI_w, if_neg (by omega)]
        rcases a9 k hk with e | e
        · exact Or.inl e
        · refine Or.inr ⟨e.1, ?_⟩
          unfold mkF
          rw [if_pos hk12, Nat.or_assoc, Nat.or_comm (2 ^ key2.toNat), ← Nat.or_assoc, e.2]
      · funext i
        rw [hI_w, if_neg (by rintro ⟨e, -⟩; exact h1 (Or.inl e))]
    · intro t3 key2 hk2 hn
      unfold mkF
      rw [if_neg hn]
    · intro d2 t3 h
      have h1 := WFl_len (h.wf hw (by omega))
      refine ⟨by omega, fun x hx => ⟨(h.1 x hx).1, ?_⟩⟩
      have h2 := (vlF_b hw (Nat.le_of_lt hl) (h.1 x hx).1).1
      rw [(h.1 x hx).2.1]
      constructor <;> omega
    · intro t3 σ3 key2 d2 Q2 hI2 hD2 hno hk2 hQ2
      have h2 := (vlF_b hw (Nat.le_of_lt hl) hk2).1
      have hm : (vaF S key2 (mkF key2 t3)).1 = if 20 ≤ key2 then mkF key2 t3 ||| sF S (key2 - 20).toNat else mkF key2 t3 := by
        show mkF key2 t3 ||| stF (sF S) key2 = _
        by_cases e : 20 ≤ key2
        · rw [if_pos e]
          unfold stF
          rw [if_pos e]
        · rw [if_neg e]
          unfold stF mkF
          have : 0 ≤ key2 ∧ key2 < 12 := by rcases hk2 with h | h <;> omega
          rw [if_pos this, if_neg e, Nat.or_assoc, Nat.or_self]
      rw [hm] at hQ2
      refine sp_valueNow_fresh (by exact hA) hI2.1 hk2 (by omega) (by omega) (fun σ4 hp4 hf4 => ?_)
      refine hQ2 σ4 ⟨hp4, hI2.2.tr (hf4.mono (by omega))⟩ ⟨by show σ4.2.2.1 = _; rw [hf4.1], fun b hb => ?_, fun b hb => ⟨hf4.2.1 b (by omega), by show σ4.2.1 b = _; rw [hf4.1]⟩⟩ (by show i32 (vlF S.1 (vF S) key2); constructor <;> omega)
      have h6 := hf4.2.2.2 l (Nat.le_refl l) hl
      rcases hb with e | e
      · rw [e]; exact h6.1
      · exact h6.2.2 b e
  · intro x hx
    have h1 := hc.2 x hx
    exact ⟨by constructor <;> omega, by omega, by omega, h1.2.2.1⟩
  · rw [hR.1, hR.2] at *
    exact hQ σ' hI9.1 hI9.2
set_option maxHeartbeats 4000000 in
theorem sp_freshValue {r : Nat} (hs : (s + 58 ≤ 121 ∨ 156 ≤ s) ∧ s + 58 ≤ 652) (hA : FC G s S l (d - 4)) (hp : FrP s S t σ) (hl : l < 6) (hne : S.2.2 l ≠ []) (hRq : RRec σ r (S.2.2 l)) (hr : 652 ≤ r) (hdp : 6 ≤ d)
    (hQ : ∀ σ', FrP s S (t ||| sF S l) σ' → FrF (l + 1) σ σ' → Q (some (Vi (vF S l))) σ') : WA G d 0 0 mX0_freshValue 0 [Va 121, Vi (l : Int), Va r] [] σ Q := by
  have hk121 := hp.1.1
  have hk1 : sk σ 122 = (10, 6) := hp.1.2.1
  have hr1 : hR σ 121 3 = some 122 := hp.1.2.2.2.2.2.2.2.1
  have hb := (fr_bd hp.2.2.2.2.1 l hl).1
  rcases hp.2.2.2.2.2.2.2.2 l hl with hm | hm
  · refine ar_aload_n 1 rfl d_X0_freshValue_0 rfl ?_
    refine ar_getA 4 rfl d_X0_freshValue_1 fl_X0_9 rfl (by assumption) (by assumption) ?_
    refine ar_iload_n 5 rfl d_X0_freshValue_4 rfl ?_
    refine ar_ilv (y := (-1)) 6 rfl d_X0_freshValue_5 (by assumption) (by omega) hm ?_
    refine ar_iconst 7 rfl d_X0_freshValue_6 ?_
    refine ar_icmp_ne 22 10 rfl rfl d_X0_freshValue_7 (by omega) (by omega) (fun h => by omega) (fun g7 => ?_)
    refine ar_aload_n 11 rfl d_X0_freshValue_10 rfl ?_
    refine ar_getA 14 rfl d_X0_freshValue_11 fl_X0_9 rfl (by assumption) (by assumption) ?_
    refine ar_iload_n 15 rfl d_X0_freshValue_14 rfl ?_
    refine ar_aload_n 16 rfl d_X0_freshValue_15 rfl ?_
    refine ar_iload_n 17 rfl d_X0_freshValue_16 rfl ?_
    refine ar_aload_n 18 rfl d_X0_freshValue_17 rfl ?_
    refine ar_callV0 (M' := mX0_reckon) (As := [_, _]) (ls' := [Va _, Vi _, Vr _, Vu, Vu, Vu, Vu, Vu, Vu, Vu, Vu]) 21 rfl d_X0_freshValue_18 ml_X0_84 mt_X0_reckon (by assumption) rfl (Nat.le_of_ble_eq_true rfl) rfl (Nat.le_of_ble_eq_true rfl) (by omega) ?_
    refine sp_reckon_fresh hs (by exact hA) hp hl hne hRq hr (by omega) (fun σ1 hp1 hf1 => ?_)
    have hk121 := hp1.1.1
    have hk1 : sk σ1 122 = (10, 6) := hp1.1.2.1
    have hr1 : hR σ1 121 3 = some 122 := hp1.1.2.2.2.2.2.2.2.1
    refine ar_iasN l 22 rfl d_X0_freshValue_21 (by assumption) (by omega) (by omega) ?_
    refine ar_aload_n 23 rfl d_X0_freshValue_22 rfl ?_
    refine ar_getA 26 rfl d_X0_freshValue_23 fl_X0_9 rfl (by assumption) (by assumption) ?_
    refine ar_iload_n 27 rfl d_X0_freshValue_26 rfl ?_
    refine ar_ilv (y := (vF S l)) 28 rfl d_X0_freshValue_27 (by assumption) (by omega) (by rw [hI_w, if_pos ⟨rfl, Int.toNat_natCast l⟩]) ?_
    refine WA.ret (some (Vi _)) ⟨d_X0_freshValue_28, rfl, Or.inl rfl⟩ ?_
    refine hQ _ (hp1.b hs rfl (fun b h1 => by funext i; rw [hI_w, if_neg (by omega)]) (by rw [hI_w, if_neg (by omega)]) (by rw [hI_w, if_neg (by omega)]; exact hp1.2.2.2.2.2.2.1) hp1.2.2.2.2.2.2.2.1 (fun k hk => ?_)) (hf1.tr (FrF.b rfl (by rw [hI_w, if_neg (by omega)]) (fun b h1 => ?_) (by omega)))
    · rw [hI_w]
      by_cases e : k = l
      · rw [if_pos ⟨rfl, e⟩, e]
        exact Or.inr ⟨rfl, by rw [Nat.or_assoc, Nat.or_self]⟩
      · rw [if_neg (by omega)]
        exact hp1.2.2.2.2.2.2.2.2 k hk
    · funext i
      rw [hI_w, if_neg (by rintro ⟨e, -⟩; exact h1 (Or.inr (Or.inl e)))]
  · rw [hm.2] at hQ
    refine ar_aload_n 1 rfl d_X0_freshValue_0 rfl ?_
    refine ar_getA 4 rfl d_X0_freshValue_1 fl_X0_9 rfl (by assumption) (by assumption) ?_
    refine ar_iload_n 5 rfl d_X0_freshValue_4 rfl ?_
    refine ar_ilv (y := (vF S l)) 6 rfl d_X0_freshValue_5 (by assumption) (by omega) hm.1 ?_
    refine ar_iconst 7 rfl d_X0_freshValue_6 ?_
    refine ar_icmp_ne 22 10 rfl rfl d_X0_freshValue_7 (by omega) (by omega) (fun g7 => ?_) (fun h => by omega)
    refine ar_aload_n 23 rfl d_X0_freshValue_22 rfl ?_
    refine ar_getA 26 rfl d_X0_freshValue_23 fl_X0_9 rfl (by assumption) (by assumption) ?_
    refine ar_iload_n 27 rfl d_X0_freshValue_26 rfl ?_
    refine ar_ilv (y := (vF S l)) 28 rfl d_X0_freshValue_27 (by assumption) (by omega) hm.1 ?_
    refine WA.ret (some (Vi _)) ⟨d_X0_freshValue_28, rfl, Or.inl rfl⟩ ?_
    exact hQ σ hp FrF.rf
set_option maxHeartbeats 4000000 in
theorem sp_loafValue_fresh (hs : (s + 58 ≤ 121 ∨ 156 ≤ s) ∧ s + 58 ≤ 652) : ∀ (b dd : Nat), b ≤ 6 → 5 * b + 2 ≤ dd → FC G s S b dd := by
  intro b
  induction b using Nat.strongRecOn with
  | ind b ih =>
  intro dd hb hdd j t σ Q hj hp hQ
  have hA := ih j hj (dd - 5) (by omega) (by omega)
  have hv := vF_eq hp.2.2.2.2.1 (show j < 6 by omega)
  obtain ⟨hS, hSf, hSr, hSm⟩ := hp.2.2.2.1
  have hk121 := hp.1.1
  have hr121 := hp.2.1
  have hfresh := hp.2.2.1
  have hks := hS.1
  have hk3 : sk σ (s + 3) = (14, 6) := hS.2.2.2.1
  have hr3 : hR σ s 3 = some (s + 3) := hS.2.2.2.2.2.2.2.2.2.1
  have hri := hSr j (by omega)
  refine ar_iload_n 1 rfl d_X0_loafValue_0 rfl ?_
  refine ar_if_lt 15 4 rfl rfl d_X0_loafValue_1 (by omega) (fun h => by omega) (fun g1 => ?_)
  refine ar_iload_n 5 rfl d_X0_loafValue_4 rfl ?_
  refine ar_iload_n 6 rfl d_X0_loafValue_5 rfl ?_
  refine ar_icmp_ge 15 9 rfl rfl d_X0_loafValue_6 (by omega) (by omega) (fun h => by omega) (fun g6 => ?_)
  refine ar_iload_n 10 rfl d_X0_loafValue_9 rfl ?_
  refine ar_bipush 12 rfl d_X0_loafValue_10 rfl ?_
  refine ar_icmp_lt 18 15 rfl rfl d_X0_loafValue_12 (by omega) (by omega) (fun g12 => ?_) (fun h => by omega)
  refine ar_aload_n 19 rfl d_X0_loafValue_18 rfl ?_
  refine ar_getA 22 rfl d_X0_loafValue_19 fl_X0_57 rfl (by assumption) (by assumption) ?_
  refine ar_getA 25 rfl d_X0_loafValue_22 fl_X0_71 rfl (by assumption) (by assumption) ?_
  refine ar_iload_n 26 rfl d_X0_loafValue_25 rfl ?_
  refine ar_aald 27 rfl d_X0_loafValue_26 (by assumption) (by omega) (by omega) ?_
  refine ar_ast_3 28 rfl d_X0_loafValue_27 rfl (by intro _ h; cases h) ?_
  refine ar_aload_n 29 rfl d_X0_loafValue_28 rfl ?_
  refine ar_ifnonnull 35 32 rfl rfl d_X0_loafValue_29 (fun a29 g29 => ?_) (fun g29 => ?_)
  · have hri := hri
    obtain ⟨hne, r1, hr652, hrn, hr2, hRc⟩ : S.2.2 j ≠ [] ∧ ∃ r1, 652 ≤ r1 ∧ r1 + 3 ≤ sn σ ∧ hR σ (s + 3) j = some r1 ∧ RRec σ r1 (S.2.2 j) := by
      rcases hri with e | e
      · exact absurd (g29.symm.trans e.2) (by simp)
      · exact e
    have ea : a29 = r1 := Option.some.inj (g29.symm.trans hr2)
    rw [g29]
    subst ea
    refine ar_aload_n 36 rfl d_X0_loafValue_35 rfl ?_
    refine ar_giv (y := 1) 39 rfl d_X0_loafValue_36 fl_X0_61 rfl (by assumption) hfresh ?_
    refine ar_if_eq 51 42 rfl rfl d_X0_loafValue_39 (by omega) (fun h => absurd h (by decide)) (fun g39 => ?_)
    refine ar_aload_n 43 rfl d_X0_loafValue_42 rfl ?_
    refine ar_iload_n 44 rfl d_X0_loafValue_43 rfl ?_
    refine ar_aload_n 45 rfl d_X0_loafValue_44 rfl ?_
    refine ar_callV0 (M' := mX0_freshValue) (As := [_, _]) (ls' := [Va _, Vi _, Vr _]) 48 rfl d_X0_loafValue_45 ml_X0_77 mt_X0_freshValue (by assumption) rfl (Nat.le_of_ble_eq_true rfl) rfl (Nat.le_of_ble_eq_true rfl) (by omega) ?_
    refine sp_freshValue hs (by exact hA) hp (by omega) hne hRc hr652 (by omega) (fun σ1 hp1 hf1 => ?_)
    refine ar_goto 57 rfl d_X0_loafValue_48 ?_
    refine WA.ret (some (Vi _)) ⟨d_X0_loafValue_57, rfl, Or.inl rfl⟩ ?_
    exact hQ σ1 hp1 (hf1.mono (by omega))
  · have hn0 : S.2.2 j = [] := by
      rcases hri with e | ⟨e, r1, _, _, e2, _⟩
      · exact e.1
      · exact absurd (g29.symm.trans e2) (by simp)
    rw [if_pos hn0, if_pos hn0] at hv
    rw [hv.1, hv.2, Nat.or_zero] at hQ
    refine ar_bipush 34 rfl d_X0_loafValue_32 rfl ?_
    refine WA.ret (some (Vi _)) ⟨d_X0_loafValue_34, rfl, Or.inl rfl⟩ ?_
    exact hQ σ hp FrF.rf
/-- kept by the baker freshly: all but his own rows -/
def FrZ (σ σ' : Sg) : Prop := sk σ' = sk σ ∧ sn σ' = sn σ ∧ ∀ a, (a < 121 ∨ 156 ≤ a) → hI σ' a = hI σ a ∧ hR σ' a = hR σ a
theorem FrZ.tr {σ σ1 σ2 : Sg} (h : FrZ σ σ1) (h2 : FrZ σ1 σ2) : FrZ σ σ2 := ⟨h2.1.trans h.1, h2.2.1.trans h.2.1, fun a b => ⟨(h2.2.2 a b).1.trans (h.2.2 a b).1, (h2.2.2 a b).2.trans (h.2.2 a b).2⟩⟩
theorem FrZ.rf {σ : Sg} : FrZ σ σ := ⟨rfl, rfl, fun _ _ => ⟨rfl, rfl⟩⟩
theorem FrZ.f {l : Nat} {σ σ' : Sg} (h : FrF l σ σ') : FrZ σ σ' := ⟨by show σ'.2.2.1 = _; rw [h.1], by show σ'.2.2.2 = _; rw [h.1], fun a ha => ⟨h.2.1 a ha, by show σ'.2.1 a = _; rw [h.1]⟩⟩
theorem RSt.z {σ σ' : Sg} {s : Nat} {S : SS} (h : RSt σ s S) (hz : FrZ σ σ') (hs : (s + 58 ≤ 121 ∨ 156 ≤ s) ∧ s + 58 ≤ 652) (hn : 652 ≤ sn σ) : RSt σ' s S := h.fr (fun b h1 h2 => ⟨by rw [hz.1], hz.2.2 b (by omega)⟩) (by omega) (by have := hz.2.1; omega)
theorem sp_fresh0 {c : Sg → Prop} (hs : (s + 58 ≤ 121 ∨ 156 ≤ s) ∧ s + 58 ≤ 652) (hB : ShB σ) (hst : RSt σ s S) (hw : WFS S) (hsn : 652 ≤ sn σ) (hdp : 1 ≤ d) (hQ : ∀ σ1, FrP s S 0 σ1 → FrZ σ σ1 → Q none σ1) : WA G d k n mX0_begin 0 [Va 121, Va s, Vi 1] [] σ Q := by
  refine sp_X0_begin hB (Or.inr rfl) hdp (fun σ1 b1 b2 b3 b4 b5 b6 b7 b8 b9 => ?_)
  have hz : FrZ σ σ1 := ⟨b6, b7, fun a h => ⟨b8 a (by omega) (by omega), b9 a (by omega)⟩⟩
  exact hQ σ1 ⟨b1, b2, b3, hst.z hz hs hsn, hw, by omega, b4, by decide, fun k hk => Or.inl (b5 k hk)⟩ hz
theorem sp_X0_freshResult (hs : (s + 58 ≤ 121 ∨ 156 ≤ s) ∧ s + 58 ≤ 652) (hB : ShB σ) (hst : RSt σ s S) (hw : WFS S) (hsn : 652 ≤ sn σ) (hl : l < 6) (hdp : 33 ≤ d)
    (hQ : ∀ σ', ShB σ' → FrZ σ σ' → Q (some (Vi (vF S l))) σ') : WA G d k n mX0_freshResult 0 [Va 121, Va s, Vi (l : Int)] [] σ Q := by
  have hk121 := hB.1
  refine ar_aload_n 1 rfl d_X0_freshResult_0 rfl ?_
  refine ar_aload_n 2 rfl d_X0_freshResult_1 rfl ?_
  refine ar_iconst 3 rfl d_X0_freshResult_2 ?_
  refine ar_callV0 (M' := mX0_begin) (As := [_, _]) (ls' := [Va _, Vr _, Vi _]) 6 rfl d_X0_freshResult_3 ml_X0_30 mt_X0_begin (by assumption) rfl (Nat.le_of_ble_eq_true rfl) rfl (Nat.le_of_ble_eq_true rfl) (by omega) ?_
  refine sp_fresh0 (c := fun _ => True) hs hB hst hw hsn (by omega) (fun σ1 hp1 hz1 => ?_)
  have hk121 := hp1.1.1
  refine ar_aload_n 7 rfl d_X0_freshResult_6 rfl ?_
  refine ar_iload_n 8 rfl d_X0_freshResult_7 rfl ?_
  refine ar_bipush 10 rfl d_X0_freshResult_8 rfl ?_
  refine ar_callV0 (M' := mX0_loafValue) (As := [_, _]) (ls' := [Va _, Vi _, Vi _, Vu]) 13 rfl d_X0_freshResult_10 ml_X0_34 mt_X0_loafValue (by assumption) rfl (Nat.le_of_ble_eq_true rfl) rfl (Nat.le_of_ble_eq_true rfl) (by omega) ?_
  refine sp_loafValue_fresh hs 6 (d - 1) (by omega) (by omega) l 0 σ1 _ hl hp1 (fun σ2 hp2 hf2 => ?_)
  refine WA.ret (some (Vi _)) ⟨d_X0_freshResult_13, rfl, Or.inl rfl⟩ ?_
  exact hQ σ2 hp2.1 (hz1.tr (FrZ.f hf2))
theorem sp_X0_shelvesOfFresh (hs : (s + 58 ≤ 121 ∨ 156 ≤ s) ∧ s + 58 ≤ 652) (hB : ShB σ) (hst : RSt σ s S) (hw : WFS S) (hsn : 652 ≤ sn σ) (hl : l < 6) (hdp : 33 ≤ d)
    (hQ : ∀ σ', ShB σ' → FrZ σ σ' → Q (some (Vi (sF S l : Int))) σ') : WA G d k n mX0_shelvesOfFresh 0 [Va 121, Va s, Vi (l : Int)] [] σ Q := by
  have hk121 := hB.1
  refine ar_aload_n 1 rfl d_X0_shelvesOfFresh_0 rfl ?_
  refine ar_aload_n 2 rfl d_X0_shelvesOfFresh_1 rfl ?_
  refine ar_iconst 3 rfl d_X0_shelvesOfFresh_2 ?_
  refine ar_callV0 (M' := mX0_begin) (As := [_, _]) (ls' := [Va _, Vr _, Vi _]) 6 rfl d_X0_shelvesOfFresh_3 ml_X0_30 mt_X0_begin (by assumption) rfl (Nat.le_of_ble_eq_true rfl) rfl (Nat.le_of_ble_eq_true rfl) (by omega) ?_
  refine sp_fresh0 (c := fun _ => True) hs hB hst hw hsn (by omega) (fun σ1 hp1 hz1 => ?_)
  have hk121 := hp1.1.1
  refine ar_aload_n 7 rfl d_X0_shelvesOfFresh_6 rfl ?_
  refine ar_iload_n 8 rfl d_X0_shelvesOfFresh_7 rfl ?_
  refine ar_bipush 10 rfl d_X0_shelvesOfFresh_8 rfl ?_
  refine ar_callV0 (M' := mX0_loafValue) (As := [_, _]) (ls' := [Va _, Vi _, Vi _, Vu]) 13 rfl d_X0_shelvesOfFresh_10 ml_X0_34 mt_X0_loafValue (by assumption) rfl (Nat.le_of_ble_eq_true rfl) rfl (Nat.le_of_ble_eq_true rfl) (by omega) ?_
  refine sp_loafValue_fresh hs 6 (d - 1) (by omega) (by omega) l 0 σ1 _ hl hp1 (fun σ2 hp2 hf2 => ?_)
  have hk121 := hp2.1.1
  have h2 := hp2.2.2.2.2.2.2.1
  rw [Nat.zero_or] at h2
  refine ar_pop 14 rfl d_X0_shelvesOfFresh_13 (fun _ => rfl) ?_
  refine ar_aload_n 15 rfl d_X0_shelvesOfFresh_14 rfl ?_
  refine ar_giv (y := (sF S l : Int)) 18 rfl d_X0_shelvesOfFresh_15 fl_X0_38 rfl (by assumption) h2 ?_
  refine WA.ret (some (Vi _)) ⟨d_X0_shelvesOfFresh_18, rfl, Or.inl rfl⟩ ?_
  exact hQ σ2 hp2.1 (hz1.tr (FrZ.f hf2))
end FRESHV
