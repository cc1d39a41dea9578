-- ===== the class's calls =====
def putF (x y : Int) (C : CS) : CS × Int := if ¬ (0 ≤ x ∧ x < 12) then (C, -1) else if ¬ (0 ≤ y ∧ y < 100) then (C, -2) else (((uf C.1.1 (2 + x.toNat) y, C.1.2), (recF C).2), C.1.1 (2 + x.toNat))
def poiF (x y : Int) (C : CS) : CS × Int := if ¬ (0 ≤ x ∧ x < 12) then (C, -1) else if ¬ (y = 0 ∨ y = 1) then (C, -2) else (((uf C.1.1 (14 + x.toNat) y, C.1.2), (recF C).2), C.1.1 (14 + x.toNat))
def setF (x y : Int) (C : CS) : CS × Int := if ¬ ((x = 0 ∧ 1 ≤ y ∧ y ≤ 16) ∨ (x = 1 ∧ (y = 0 ∨ y = 1))) then (C, -2) else (((uf C.1.1 x.toNat y, C.1.2.1.take (uf C.1.1 x.toNat y 0).toNat, C.1.2.2), (recF C).2), C.1.1 x.toNat)
def askC (x : Int) (C : CS) : CS × Int := if ¬ (0 ≤ x ∧ x < 6) then (C, -1) else (((askF 6 x C.1).1, (recF C).2), (askF 6 x C.1).2)
def forF (m : Int) (C : CS) : CS × Int := if ¬ (0 ≤ m ∧ m < (C.1.2.1.length : Int)) then (C, -1) else (((C.1.1, C.1.2.1.eraseIdx m.toNat, C.1.2.2), (recF C).2), (C.1.2.1.length : Int) - 1)
theorem wfs_f {S : SS} (h : WFS S) (g : Nat → Int) (L : List Mem) (hL : L.Sublist S.2.1) (g0 : 1 ≤ g 0 ∧ g 0 ≤ 16) (g1 : g 1 = 0 ∨ g 1 = 1) (g2 : ∀ i, i < 12 → 0 ≤ g (2 + i) ∧ g (2 + i) < 100) (g14 : ∀ i, i < 12 → g (14 + i) = 0 ∨ g (14 + i) = 1) (g8 : g 815 = S.1 815) (hlen : (L.length : Int) ≤ g 0) : WFS (g, L, S.2.2) := by
  obtain ⟨a1, a2, a3, a4, a5, a6, a7, a8, a9⟩ := h
  refine ⟨g0, g1, g2, g14, by show 0 ≤ g 815; rw [g8]; exact a5, hlen, fun M hM => ?_, a8.sublist (hL.map mSer), a9⟩
  show WFM (g 815) M
  rw [g8]
  exact a7 M (hL.subset hM)
theorem WFS.num {S : SS} {i : Nat} {y : Int} (h : WFS S) (hi : i < 12) (hy : 0 ≤ y ∧ y < 100) : WFS (uf S.1 (2 + i) y, S.2) := by
  refine wfs_f h _ _ (List.Sublist.refl _) (by rw [uf_n (by omega)]; exact h.1) (by rw [uf_n (by omega)]; exact h.2.1) (fun j hj => ?_) (fun j hj => by rw [uf_n (by omega)]; exact h.2.2.2.1 j hj) (uf_n (by omega)) (by rw [uf_n (by omega)]; exact h.2.2.2.2.2.1)
  by_cases e : j = i
  · rw [e, uf_s]
    exact hy
  · rw [uf_n (by omega)]
    exact h.2.2.1 j hj
theorem WFS.poi {S : SS} {i : Nat} {y : Int} (h : WFS S) (hi : i < 12) (hy : y = 0 ∨ y = 1) : WFS (uf S.1 (14 + i) y, S.2) := by
  refine wfs_f h _ _ (List.Sublist.refl _) (by rw [uf_n (by omega)]; exact h.1) (by rw [uf_n (by omega)]; exact h.2.1) (fun j hj => by rw [uf_n (by omega)]; exact h.2.2.1 j hj) (fun j hj => ?_) (uf_n (by omega)) (by rw [uf_n (by omega)]; exact h.2.2.2.2.2.1)
  by_cases e : j = i
  · rw [e, uf_s]
    exact hy
  · rw [uf_n (by omega)]
    exact h.2.2.2.1 j hj
theorem WFS.set {S : SS} {x y : Int} (h : WFS S) (hy : (x = 0 ∧ 1 ≤ y ∧ y ≤ 16) ∨ (x = 1 ∧ (y = 0 ∨ y = 1))) : WFS (uf S.1 x.toNat y, S.2.1.take (uf S.1 x.toNat y 0).toNat, S.2.2) := by
  have hx : x.toNat = 0 ∨ x.toNat = 1 := by omega
  have g0 : 1 ≤ uf S.1 x.toNat y 0 ∧ uf S.1 x.toNat y 0 ≤ 16 := by
    by_cases e : x = 0
    · rw [e]
      show 1 ≤ uf S.1 0 y 0 ∧ uf S.1 0 y 0 ≤ 16
      rw [uf_s]
      omega
    · rw [uf_n (by omega)]
      exact h.1
  refine wfs_f h _ _ (List.take_sublist _ _) g0 ?_ (fun j hj => by rw [uf_n (by omega)]; exact h.2.2.1 j hj) (fun j hj => by rw [uf_n (by omega)]; exact h.2.2.2.1 j hj) (uf_n (by omega)) ?_
  · by_cases e : x = 1
    · rw [e]
      show uf S.1 1 y 1 = 0 ∨ uf S.1 1 y 1 = 1
      rw [uf_s]
      omega
    · rw [uf_n (by omega)]
      exact h.2.1
  · have := List.length_take_le (uf S.1 x.toNat y 0).toNat S.2.1
    omega
section CALLS
variable {G : GT} {d k n : Nat} {σ : Sg} {Q : Option AV → Sg → Prop}
theorem sp_X5_put {Φ : Sg} {E : Nat → Nat} {C : CS} {x y : Int} (h : RepC Φ E C σ) (hx : i32 x) (hy : i32 y) (hdp : 40 ≤ d) (hQ : ∀ E' σ', sn σ' = sn σ → RepC Φ E' (putF x y C).1 σ' → Q (some (Vi (putF x y C).2)) σ') : WA G d k n mX5_put 0 [Va 0, Vi x, Vi y, Vu] [] σ Q := by
  have hk0 := h.1.1.1
  refine ar_iload_n 1 rfl d_X5_put_0 rfl ?_
  refine ar_callS0 (M' := mX5_isShelf) (As := [_]) (ls' := [Vi _]) 4 rfl d_X5_put_1 ml_X5_61 mt_X5_isShelf rfl (Nat.le_of_ble_eq_true rfl) rfl (Nat.le_of_ble_eq_true rfl) (by omega) ?_
  refine sp_X5_isShelf hx (fun g1 => ?_) (fun g1 => ?_)
  · refine ar_if_ne 9 7 rfl rfl d_X5_put_4 (by omega) (fun g4 => ?_) (fun h => absurd h (by decide))
    refine ar_iload_n 10 rfl d_X5_put_9 rfl ?_
    refine ar_callS0 (M' := mX5_isNumber) (As := [_]) (ls' := [Vi _]) 13 rfl d_X5_put_10 ml_X5_65 mt_X5_isNumber rfl (Nat.le_of_ble_eq_true rfl) rfl (Nat.le_of_ble_eq_true rfl) (by omega) ?_
    refine sp_X5_isNumber hy (fun g10 => ?_) (fun g10 => ?_)
    · refine ar_if_ne 19 16 rfl rfl d_X5_put_13 (by omega) (fun g13 => ?_) (fun h => absurd h (by decide))
      refine ar_aload_n 20 rfl d_X5_put_19 rfl ?_
      refine ar_callV0 (M' := mX5_recordChange) (As := []) (ls' := [Va _]) 23 rfl d_X5_put_20 ml_X5_52 mt_X5_recordChange (by assumption) rfl (Nat.le_of_ble_eq_true rfl) rfl (Nat.le_of_ble_eq_true rfl) (by omega) ?_
      refine sp_X5_recordChange h (by omega) (fun E1 σ1 hs1 h1 => ?_)
      have hk0 := h1.1.1.1
      have hr2 : hR σ1 0 2 = some (oS (E1 6)) := h1.2.1.2.2.1
      have hE6 := h1.2.1.1 6 (by omega)
      have hr6 := oS_r hE6
      have hst1 : RSt σ1 (oS (E1 6)) C.1 := h1.2.2.2.1.1
      have hw1 : WFS C.1 := h1.2.2.2.1.2
      obtain ⟨hS1, hSf1, hSr1, hSm1⟩ := hst1
      have hks := hS1.1
      have hk1 := hS1.2.1
      have hr1 : hR σ1 (oS (E1 6)) 0 = some (oS (E1 6) + 1) := hS1.2.2.2.2.2.2.2.1
      have hv := hSf1.1 x.toNat (by omega)
      refine ar_aload_n 24 rfl d_X5_put_23 rfl ?_
      refine ar_getA 27 rfl d_X5_put_24 fl_X5_16 rfl (by assumption) (by assumption) ?_
      refine ar_getA 30 rfl d_X5_put_27 fl_X5_68 rfl (by assumption) (by assumption) ?_
      refine ar_iload_n 31 rfl d_X5_put_30 rfl ?_
      refine ar_ilv (y := (C.1.1 (2 + x.toNat))) 32 rfl d_X5_put_31 (by assumption) (by omega) hv ?_
      refine ar_ist_3 33 rfl d_X5_put_32 rfl (by intro _ h; cases h) ?_
      refine ar_aload_n 34 rfl d_X5_put_33 rfl ?_
      refine ar_getA 37 rfl d_X5_put_34 fl_X5_16 rfl (by assumption) (by assumption) ?_
      refine ar_getA 40 rfl d_X5_put_37 fl_X5_68 rfl (by assumption) (by assumption) ?_
      refine ar_iload_n 41 rfl d_X5_put_40 rfl ?_
      refine ar_iload_n 42 rfl d_X5_put_41 rfl ?_
      refine ar_iast 43 rfl d_X5_put_42 (by assumption) (by omega) ?_
      refine ar_iload_n 44 rfl d_X5_put_43 rfl ?_
      refine WA.ret (some (Vi _)) ⟨d_X5_put_44, rfl, Or.inl rfl⟩ ?_
      unfold putF at hQ
      rw [if_neg (fun h => h g1), if_neg (fun h => h g10)] at hQ
      have hfi : FrI (oS (E1 6)) (oS (E1 6) + 7) σ1 (wI σ1 (oS (E1 6) + 1) x.toNat y) := FrI.w (by omega) (by omega)
      have hst2 : RSt (wI σ1 (oS (E1 6) + 1) x.toNat y) (oS (E1 6)) (uf C.1.1 (2 + x.toNat) y, C.1.2) := RSt.int ⟨hS1, hSf1, hSr1, hSm1⟩ hfi (by rw [hI_w, if_neg (by omega)]) (hSf1.w (by omega)) rfl hr6.1.2
      exact hQ E1 _ hs1 (h1.st (FrS.i hfi (by omega) (by omega)) hst2 (hw1.num (by omega) g10))
    · refine ar_if_ne 19 16 rfl rfl d_X5_put_13 (by omega) (fun h => absurd h (by decide)) (fun g13 => ?_)
      refine ar_bipush 18 rfl d_X5_put_16 rfl ?_
      refine WA.ret (some (Vi _)) ⟨d_X5_put_18, rfl, Or.inl rfl⟩ ?_
      unfold putF at hQ
      rw [if_neg (fun h => h g1), if_pos g10] at hQ
      exact hQ E σ rfl h
  · refine ar_if_ne 9 7 rfl rfl d_X5_put_4 (by omega) (fun h => absurd h (by decide)) (fun g4 => ?_)
    refine ar_iconst 8 rfl d_X5_put_7 ?_
    refine WA.ret (some (Vi _)) ⟨d_X5_put_8, rfl, Or.inl rfl⟩ ?_
    unfold putF at hQ
    rw [if_pos g1] at hQ
    exact hQ E σ rfl h
theorem sp_X5_isSettingValue {x y : Int} (hx : i32 x) (hy : i32 y) (hq1 : ((x = 0 ∧ 1 ≤ y ∧ y ≤ 16) ∨ (x = 1 ∧ (y = 0 ∨ y = 1))) → Q (some (Vi 1)) σ) (hq0 : ¬ ((x = 0 ∧ 1 ≤ y ∧ y ≤ 16) ∨ (x = 1 ∧ (y = 0 ∨ y = 1))) → Q (some (Vi 0)) σ) : WA G d k n mX5_isSettingValue 0 [Vi x, Vi y] [] σ Q := by
  refine ar_iload_n 1 rfl d_X5_isSettingValue_0 rfl ?_
  by_cases e0 : x = 0
  · subst e0
    refine ar_lsw (off := 27) 28 d_X5_isSettingValue_1 (by decide) (by omega) (by rw [Op.lookupswitch.offset_cons, if_pos rfl]) rfl ?_
    refine ar_iload_n 29 rfl d_X5_isSettingValue_28 rfl ?_
    refine ar_iconst 30 rfl d_X5_isSettingValue_29 ?_
    refine ar_icmp_lt 43 33 rfl rfl d_X5_isSettingValue_30 (by omega) (by omega) (fun g30 => ?_) (fun g30 => ?_)
    · refine ar_iconst 44 rfl d_X5_isSettingValue_43 ?_
      refine WA.ret (some (Vi _)) ⟨d_X5_isSettingValue_44, rfl, Or.inr ⟨rfl, Or.inl rfl⟩⟩ ?_
      exact hq0 (by omega)
    · refine ar_iload_n 34 rfl d_X5_isSettingValue_33 rfl ?_
      refine ar_bipush 36 rfl d_X5_isSettingValue_34 rfl ?_
      refine ar_icmp_gt 43 39 rfl rfl d_X5_isSettingValue_36 (by omega) (by omega) (fun g36 => ?_) (fun g36 => ?_)
      · refine ar_iconst 44 rfl d_X5_isSettingValue_43 ?_
        refine WA.ret (some (Vi _)) ⟨d_X5_isSettingValue_44, rfl, Or.inr ⟨rfl, Or.inl rfl⟩⟩ ?_
        exact hq0 (by omega)
      · refine ar_iconst 40 rfl d_X5_isSettingValue_39 ?_
        refine ar_goto 44 rfl d_X5_isSettingValue_40 ?_
        refine WA.ret (some (Vi _)) ⟨d_X5_isSettingValue_44, rfl, Or.inr ⟨rfl, (by omega)⟩⟩ ?_
        exact hq1 (by omega)
  · by_cases e1 : x = 1
    · subst e1
      refine ar_lsw (off := 44) 45 d_X5_isSettingValue_1 (by decide) (by omega) (by rw [Op.lookupswitch.offset_cons, if_neg (by decide), Op.lookupswitch.offset_cons, if_pos rfl]) rfl ?_
      refine ar_iload_n 46 rfl d_X5_isSettingValue_45 rfl ?_
      refine ar_if_eq 54 49 rfl rfl d_X5_isSettingValue_46 (by omega) (fun g46 => ?_) (fun g46 => ?_)
      · refine ar_iconst 55 rfl d_X5_isSettingValue_54 ?_
        refine ar_goto 59 rfl d_X5_isSettingValue_55 ?_
        refine WA.ret (some (Vi _)) ⟨d_X5_isSettingValue_59, rfl, Or.inr ⟨rfl, (by omega)⟩⟩ ?_
        exact hq1 (by omega)
      · refine ar_iload_n 50 rfl d_X5_isSettingValue_49 rfl ?_
        refine ar_iconst 51 rfl d_X5_isSettingValue_50 ?_
        refine ar_icmp_ne 58 54 rfl rfl d_X5_isSettingValue_51 (by omega) (by omega) (fun g51 => ?_) (fun g51 => ?_)
        · refine ar_iconst 59 rfl d_X5_isSettingValue_58 ?_
          refine WA.ret (some (Vi _)) ⟨d_X5_isSettingValue_59, rfl, Or.inr ⟨rfl, Or.inl rfl⟩⟩ ?_
          exact hq0 (by omega)
        · refine ar_iconst 55 rfl d_X5_isSettingValue_54 ?_
          refine ar_goto 59 rfl d_X5_isSettingValue_55 ?_
          refine WA.ret (some (Vi _)) ⟨d_X5_isSettingValue_59, rfl, Or.inr ⟨rfl, (by omega)⟩⟩ ?_
          exact hq1 (by omega)
    · refine ar_lsw (off := 59) 60 d_X5_isSettingValue_1 (by decide) (by omega) (by rw [Op.lookupswitch.offset_cons, if_neg (fun h => e0 h.symm), Op.lookupswitch.offset_cons, if_neg (fun h => e1 h.symm)]; rfl) rfl ?_
      refine ar_iconst 61 rfl d_X5_isSettingValue_60 ?_
      refine WA.ret (some (Vi _)) ⟨d_X5_isSettingValue_61, rfl, Or.inr ⟨rfl, Or.inl rfl⟩⟩ ?_
      exact hq0 (by omega)
theorem sp_X5_set {Φ : Sg} {E : Nat → Nat} {C : CS} {x y : Int} (h : RepC Φ E C σ) (hx : i32 x) (hy : i32 y) (hdp : 40 ≤ d) (hQ : ∀ E' σ', sn σ' = sn σ → RepC Φ E' (setF x y C).1 σ' → Q (some (Vi (setF x y C).2)) σ') : WA G d k n mX5_set 0 [Va 0, Vi x, Vi y, Vu] [] σ Q := by
  have hk0 := h.1.1.1
  refine ar_iload_n 1 rfl d_X5_set_0 rfl ?_
  refine ar_iload_n 2 rfl d_X5_set_1 rfl ?_
  refine ar_callS0 (M' := mX5_isSettingValue) (As := [_, _]) (ls' := [Vi _, Vi _]) 5 rfl d_X5_set_2 ml_X5_48 mt_X5_isSettingValue rfl (Nat.le_of_ble_eq_true rfl) rfl (Nat.le_of_ble_eq_true rfl) (by omega) ?_
  refine sp_X5_isSettingValue hx hy (fun g2 => ?_) (fun g2 => ?_)
  · refine ar_if_ne 11 8 rfl rfl d_X5_set_5 (by omega) (fun g5 => ?_) (fun h => absurd h (by decide))
    refine ar_aload_n 12 rfl d_X5_set_11 rfl ?_
    refine ar_callV0 (M' := mX5_recordChange) (As := []) (ls' := [Va _]) 15 rfl d_X5_set_12 ml_X5_52 mt_X5_recordChange (by assumption) rfl (Nat.le_of_ble_eq_true rfl) rfl (Nat.le_of_ble_eq_true rfl) (by omega) ?_
    refine sp_X5_recordChange h (by omega) (fun E1 σ1 hs1 h1 => ?_)
    have hk0 := h1.1.1.1
    have hr2 : hR σ1 0 2 = some (oS (E1 6)) := h1.2.1.2.2.1
    have hE6 := h1.2.1.1 6 (by omega)
    have hr6 := oS_r hE6
    have hst1 : RSt σ1 (oS (E1 6)) C.1 := h1.2.2.2.1.1
    have hw1 : WFS C.1 := h1.2.2.2.1.2
    obtain ⟨hS1, hSf1, hSr1, hSm1⟩ := hst1
    have hks := hS1.1
    have hk1 := hS1.2.2.1
    have hr1 : hR σ1 (oS (E1 6)) 2 = some (oS (E1 6) + 2) := hS1.2.2.2.2.2.2.2.2.1
    have hv : hI σ1 (oS (E1 6) + 2) x.toNat = C.1.1 x.toNat := by
      rcases g2 with e | e
      · rw [e.1]; exact hSf1.2.2.1
      · rw [e.1]; exact hSf1.2.2.2.1
    refine ar_aload_n 16 rfl d_X5_set_15 rfl ?_
    refine ar_getA 19 rfl d_X5_set_16 fl_X5_16 rfl (by assumption) (by assumption) ?_
    refine ar_getA 22 rfl d_X5_set_19 fl_X5_55 rfl (by assumption) (by assumption) ?_
    refine ar_iload_n 23 rfl d_X5_set_22 rfl ?_
    refine ar_ilv (y := (C.1.1 x.toNat)) 24 rfl d_X5_set_23 (by assumption) (by omega) hv ?_
    refine ar_ist_3 25 rfl d_X5_set_24 rfl (by intro _ h; cases h) ?_
    refine ar_aload_n 26 rfl d_X5_set_25 rfl ?_
    refine ar_getA 29 rfl d_X5_set_26 fl_X5_16 rfl (by assumption) (by assumption) ?_
    refine ar_getA 32 rfl d_X5_set_29 fl_X5_55 rfl (by assumption) (by assumption) ?_
    refine ar_iload_n 33 rfl d_X5_set_32 rfl ?_
    refine ar_iload_n 34 rfl d_X5_set_33 rfl ?_
    refine ar_iast 35 rfl d_X5_set_34 (by assumption) (by omega) ?_
    refine ar_aload_n 36 rfl d_X5_set_35 rfl ?_
    refine ar_getA 39 rfl d_X5_set_36 fl_X5_16 rfl (by assumption) (by assumption) ?_
    refine ar_callV0 (M' := mX4_dropBeyondRoom) (As := []) (ls' := [Va _, Vu]) 42 rfl d_X5_set_39 ml_X5_58 mt_X4_dropBeyondRoom (by assumption) rfl (Nat.le_of_ble_eq_true rfl) rfl (Nat.le_of_ble_eq_true rfl) (by omega) ?_
    have hfi : FrI (oS (E1 6)) (oS (E1 6) + 7) σ1 (wI σ1 (oS (E1 6) + 2) x.toNat y) := FrI.w (by omega) (by omega)
    have hst2 : RSt (wI σ1 (oS (E1 6) + 2) x.toNat y) (oS (E1 6)) (uf C.1.1 x.toNat y, C.1.2) := RSt.int ⟨hS1, hSf1, hSr1, hSm1⟩ hfi (by rw [hI_w, if_neg (by omega)]) (hSf1.w (by omega)) rfl hr6.1.2
    have hws := hw1.set g2
    have hroom : 1 ≤ uf C.1.1 x.toNat y 0 ∧ uf C.1.1 x.toNat y 0 ≤ 16 := hws.1
    refine sp_X4_dropBeyondRoom (room := (uf C.1.1 x.toNat y 0).toNat) hst2.1 hst2.2.2.2 (by rw [hst2.2.1.2.2.1]; show uf C.1.1 x.toNat y 0 = _; omega) (by omega) (by omega) (z := C.1.1 815) (fun M hM => ⟨(hw1.2.2.2.2.2.2.1 M hM).2.2.2.2.1, (hw1.2.2.2.2.2.2.1 M hM).2.2.2.2.2.1⟩) (fun σ2 hf2 hL2 _ => ?_)
    refine ar_iload_n 43 rfl d_X5_set_42 rfl ?_
    refine WA.ret (some (Vi _)) ⟨d_X5_set_43, rfl, Or.inl rfl⟩ ?_
    unfold setF at hQ
    rw [if_neg (fun h => h g2)] at hQ
    exact hQ E1 _ (hf2.2.1.trans hs1) (h1.st ((FrS.i hfi (by omega) (by omega)).tr (FrS.m hf2)) (hst2.mem hf2 hL2 hr6.1.2) hws)
  · refine ar_if_ne 11 8 rfl rfl d_X5_set_5 (by omega) (fun h => absurd h (by decide)) (fun g5 => ?_)
    refine ar_bipush 10 rfl d_X5_set_8 rfl ?_
    refine WA.ret (some (Vi _)) ⟨d_X5_set_10, rfl, Or.inl rfl⟩ ?_
    unfold setF at hQ
    rw [if_pos g2] at hQ
    exact hQ E σ rfl h
theorem sp_X5_isMemory {Φ : Sg} {E : Nat → Nat} {C : CS} {m : Int} (h : RepC Φ E C σ) (hm : i32 m) (hq1 : 0 ≤ m ∧ m < (C.1.2.1.length : Int) → Q (some (Vi 1)) σ) (hq0 : ¬ (0 ≤ m ∧ m < (C.1.2.1.length : Int)) → Q (some (Vi 0)) σ) : WA G d k n mX5_isMemory 0 [Va 0, Vi m] [] σ Q := by
  have hk0 := h.1.1.1
  have hr2 : hR σ 0 2 = some (oS (E 6)) := h.2.1.2.2.1
  have hks := h.2.2.2.1.1.1.1
  have h5 := h.2.2.2.1.1.2.2.2.2.1
  have hlen := h.2.2.2.1.1.2.2.2.1
  refine ar_iload_n 1 rfl d_X5_isMemory_0 rfl ?_
  refine ar_if_lt 19 4 rfl rfl d_X5_isMemory_1 (by omega) (fun g1 => ?_) (fun g1 => ?_)
  · refine ar_iconst 20 rfl d_X5_isMemory_19 ?_
    refine WA.ret (some (Vi _)) ⟨d_X5_isMemory_20, rfl, Or.inr ⟨rfl, Or.inl rfl⟩⟩ ?_
    exact hq0 (by omega)
  · refine ar_iload_n 5 rfl d_X5_isMemory_4 rfl ?_
    refine ar_aload_n 6 rfl d_X5_isMemory_5 rfl ?_
    refine ar_getA 9 rfl d_X5_isMemory_6 fl_X5_16 rfl (by assumption) (by assumption) ?_
    refine ar_giv (y := (C.1.2.1.length : Int)) 12 rfl d_X5_isMemory_9 fl_X5_93 rfl (by assumption) h5 ?_
    refine ar_icmp_ge 19 15 rfl rfl d_X5_isMemory_12 (by omega) (by omega) (fun g12 => ?_) (fun g12 => ?_)
    · refine ar_iconst 20 rfl d_X5_isMemory_19 ?_
      refine WA.ret (some (Vi _)) ⟨d_X5_isMemory_20, rfl, Or.inr ⟨rfl, Or.inl rfl⟩⟩ ?_
      exact hq0 (by omega)
    · refine ar_iconst 16 rfl d_X5_isMemory_15 ?_
      refine ar_goto 20 rfl d_X5_isMemory_16 ?_
      refine WA.ret (some (Vi _)) ⟨d_X5_isMemory_20, rfl, Or.inr ⟨rfl, (by omega)⟩⟩ ?_
      exact hq1 (by omega)
theorem sp_X5_forget {Φ : Sg} {E : Nat → Nat} {C : CS} {m : Int} (h : RepC Φ E C σ) (hm : i32 m) (hdp : 40 ≤ d) (hQ : ∀ E' σ', sn σ' = sn σ → RepC Φ E' (forF m C).1 σ' → Q (some (Vi (forF m C).2)) σ') : WA G d k n mX5_forget 0 [Va 0, Vi m] [] σ Q := by
  have hk0 := h.1.1.1
  refine ar_aload_n 1 rfl d_X5_forget_0 rfl ?_
  refine ar_iload_n 2 rfl d_X5_forget_1 rfl ?_
  refine ar_callV0 (M' := mX5_isMemory) (As := [_]) (ls' := [Va _, Vi _]) 5 rfl d_X5_forget_2 ml_X5_86 mt_X5_isMemory (by assumption) rfl (Nat.le_of_ble_eq_true rfl) rfl (Nat.le_of_ble_eq_true rfl) (by omega) ?_
  refine sp_X5_isMemory h hm (fun g2 => ?_) (fun g2 => ?_)
  · refine ar_if_ne 10 8 rfl rfl d_X5_forget_5 (by omega) (fun g5 => ?_) (fun h => absurd h (by decide))
    refine ar_aload_n 11 rfl d_X5_forget_10 rfl ?_
    refine ar_callV0 (M' := mX5_recordChange) (As := []) (ls' := [Va _]) 14 rfl d_X5_forget_11 ml_X5_52 mt_X5_recordChange (by assumption) rfl (Nat.le_of_ble_eq_true rfl) rfl (Nat.le_of_ble_eq_true rfl) (by omega) ?_
    refine sp_X5_recordChange h (by omega) (fun E1 σ1 hs1 h1 => ?_)
    have hk0 := h1.1.1.1
    have hr2 : hR σ1 0 2 = some (oS (E1 6)) := h1.2.1.2.2.1
    have hE6 := h1.2.1.1 6 (by omega)
    have hr6 := oS_r hE6
    have hst1 : RSt σ1 (oS (E1 6)) C.1 := h1.2.2.2.1.1
    have hw1 : WFS C.1 := h1.2.2.2.1.2
    obtain ⟨hS1, hSf1, hSr1, hSm1⟩ := hst1
    have hks := hS1.1
    obtain ⟨p, rfl⟩ : ∃ p : Nat, m = (p : Int) := ⟨m.toNat, by omega⟩
    have hpl : p < C.1.2.1.length := by omega
    refine ar_aload_n 15 rfl d_X5_forget_14 rfl ?_
    refine ar_getA 18 rfl d_X5_forget_15 fl_X5_16 rfl (by assumption) (by assumption) ?_
    refine ar_iload_n 19 rfl d_X5_forget_18 rfl ?_
    refine ar_callV0 (M' := mX4_drop) (As := [_]) (ls' := [Va _, Vi _, Vu, Vu]) 22 rfl d_X5_forget_19 ml_X5_89 mt_X4_drop (by assumption) rfl (Nat.le_of_ble_eq_true rfl) rfl (Nat.le_of_ble_eq_true rfl) (by omega) ?_
    refine sp_X4_drop hS1 hSm1 hpl (fun σ2 hf2 hL2 _ _ => ?_)
    have hk0 : (sk σ2 0).1 = 6 := by rw [hf2.1]; exact hk0
    have hr2 : hR σ2 0 2 = some (oS (E1 6)) := by rw [hf2.2.2.1 0 (by omega)]; exact hr2
    have hks : (sk σ2 (oS (E1 6))).1 = 5 := by rw [hf2.1]; exact hks
    have hc2 : hI σ2 (oS (E1 6)) 5 = (C.1.2.1.length : Int) - 1 := by
      rw [hL2.2.1, List.length_eraseIdx_of_lt hpl]
      omega
    refine ar_aload_n 23 rfl d_X5_forget_22 rfl ?_
    refine ar_getA 26 rfl d_X5_forget_23 fl_X5_16 rfl (by assumption) (by assumption) ?_
    refine ar_giv (y := ((C.1.2.1.length : Int) - 1)) 29 rfl d_X5_forget_26 fl_X5_93 rfl (by assumption) hc2 ?_
    refine WA.ret (some (Vi _)) ⟨d_X5_forget_29, rfl, Or.inl rfl⟩ ?_
    unfold forF at hQ
    rw [if_neg (fun h => h g2), Int.toNat_natCast] at hQ
    refine hQ E1 _ (hf2.2.1.trans hs1) (h1.st (FrS.m hf2) (RSt.mem ⟨hS1, hSf1, hSr1, hSm1⟩ hf2 hL2 hr6.1.2) ?_)
    exact wfs_f hw1 _ _ (List.eraseIdx_sublist _ _) hw1.1 hw1.2.1 hw1.2.2.1 hw1.2.2.2.1 rfl (by
      have := hw1.2.2.2.2.2.1
      rw [List.length_eraseIdx_of_lt hpl]
      omega)
  · refine ar_if_ne 10 8 rfl rfl d_X5_forget_5 (by omega) (fun h => absurd h (by decide)) (fun g5 => ?_)
    refine ar_iconst 9 rfl d_X5_forget_8 ?_
    refine WA.ret (some (Vi _)) ⟨d_X5_forget_9, rfl, Or.inl rfl⟩ ?_
    unfold forF at hQ
    rw [if_pos g2] at hQ
    exact hQ E σ rfl h
theorem sp_X5_ask {Φ : Sg} {E : Nat → Nat} {C : CS} {x : Int} (h : RepC Φ E C σ) (hx : i32 x) (hz : C.1.1 815 + 1889568 ≤ 2147483647) (hdp : 40 ≤ d) (hQ : ∀ E' σ', sn σ' = sn σ → RepC Φ E' (askC x C).1 σ' → Q (some (Vi (askC x C).2)) σ') : WA G d k n mX5_ask 0 [Va 0, Vi x] [] σ Q := by
  have hk0 := h.1.1.1
  refine ar_iload_n 1 rfl d_X5_ask_0 rfl ?_
  refine ar_callS0 (M' := mX5_isLoaf) (As := [_]) (ls' := [Vi _]) 4 rfl d_X5_ask_1 ml_X5_79 mt_X5_isLoaf rfl (Nat.le_of_ble_eq_true rfl) rfl (Nat.le_of_ble_eq_true rfl) (by omega) ?_
  refine sp_X5_isLoaf hx (fun g1 => ?_) (fun g1 => ?_)
  · refine ar_if_ne 9 7 rfl rfl d_X5_ask_4 (by omega) (fun g4 => ?_) (fun h => absurd h (by decide))
    refine ar_aload_n 10 rfl d_X5_ask_9 rfl ?_
    refine ar_callV0 (M' := mX5_recordChange) (As := []) (ls' := [Va _]) 13 rfl d_X5_ask_10 ml_X5_52 mt_X5_recordChange (by assumption) rfl (Nat.le_of_ble_eq_true rfl) rfl (Nat.le_of_ble_eq_true rfl) (by omega) ?_
    refine sp_X5_recordChange h (by omega) (fun E1 σ1 hs1 h1 => ?_)
    have hk0 := h1.1.1.1
    have hr2 : hR σ1 0 2 = some (oS (E1 6)) := h1.2.1.2.2.1
    have hE6 := h1.2.1.1 6 (by omega)
    have hr6 := oS_r hE6
    have hst1 : RSt σ1 (oS (E1 6)) C.1 := h1.2.2.2.1.1
    have hw1 : WFS C.1 := h1.2.2.2.1.2
    obtain ⟨hS1, hSf1, hSr1, hSm1⟩ := hst1
    have hks := hS1.1
    obtain ⟨l, rfl⟩ : ∃ l : Nat, x = (l : Int) := ⟨x.toNat, by omega⟩
    have hl : l < 6 := by omega
    have h121 := h1.1.2.1.1
    have hr8 : hR σ1 0 8 = some 121 := h1.1.1.2.2.2.2.2.2.2.2.2.2.1
    have hpw : 18 ^ l ≤ 1889568 := Nat.le_trans (Nat.pow_le_pow_right (by decide) (show l ≤ 5 by omega)) (by decide)
    refine ar_aload_n 14 rfl d_X5_ask_13 rfl ?_
    refine ar_getA 17 rfl d_X5_ask_14 fl_X5_37 rfl (by assumption) (by assumption) ?_
    refine ar_aload_n 18 rfl d_X5_ask_17 rfl ?_
    refine ar_getA 21 rfl d_X5_ask_18 fl_X5_16 rfl (by assumption) (by assumption) ?_
    refine ar_iload_n 22 rfl d_X5_ask_21 rfl ?_
    refine ar_callV0 (M' := mX0_askedResult) (As := [_, _]) (ls' := [Va _, Vr _, Vi _]) 25 rfl d_X5_ask_22 ml_X5_82 mt_X0_askedResult h121 rfl (Nat.le_of_ble_eq_true rfl) rfl (Nat.le_of_ble_eq_true rfl) (by omega) ?_
    refine sp_X0_askedResult hr6.1 h1.1.2.1 ⟨hS1, hSf1, hSr1, hSm1⟩ hw1 h1.1.2.2.2 hl (by omega) (by omega) (fun σ2 hB2 hst2 hw2 hf2 => ?_)
    refine WA.ret (some (Vi _)) ⟨d_X5_ask_25, rfl, Or.inl rfl⟩ ?_
    unfold askC at hQ
    rw [if_neg (fun h => h g1)] at hQ
    have hkp : Kp (fun b => ¬ (63 ≤ b ∧ b < 161) ∧ (b < oS (E1 6) ∨ oS (E1 6) + 58 ≤ b)) σ1 σ2 := ⟨hf2.1, hf2.2.1, fun b hb => hf2.2.2 b (by omega) hb.2⟩
    have hkq : Kp (fun b => (b < 121 ∨ 156 ≤ b) ∧ (b < oS (E1 6) ∨ oS (E1 6) + 58 ≤ b)) σ1 σ2 := ⟨hf2.1, hf2.2.1, fun b hb => hf2.2.2 b hb.1 hb.2⟩
    refine hQ E1 σ2 (hf2.2.1.trans hs1) (h1.upd hkp hB2 ?_ hst2 hw2 (h1.2.2.1.2.1.kp hkq (fun b hb => by omega)) (h1.2.2.1.2.2.kp hkq (by omega)))
    obtain ⟨q1, q2, q3, q4, q5, q6, q7, q8, q9⟩ := h1.1.2.2.1
    refine ⟨?_, ?_, ?_, ?_, ?_, ?_, ?_, ?_, ?_⟩
    iterate 5 (rw [hf2.1]; assumption)
    iterate 4 (rw [(hf2.2.2 156 (by omega) (by omega)).2]; assumption)
  · refine ar_if_ne 9 7 rfl rfl d_X5_ask_4 (by omega) (fun h => absurd h (by decide)) (fun g4 => ?_)
    refine ar_iconst 8 rfl d_X5_ask_7 ?_
    refine WA.ret (some (Vi _)) ⟨d_X5_ask_8, rfl, Or.inl rfl⟩ ?_
    unfold askC at hQ
    rw [if_pos g1] at hQ
    exact hQ E σ rfl h
end CALLS
