-- ===== the reference: what if =====
/-- freshly reckoned: the rows of results and sets -/
def FrR (σ σ' : Sg) : Prop := σ'.2 = σ.2 ∧ ∀ b, b ≠ 644 → b ≠ 645 → b ≠ 650 → b ≠ 651 → hI σ' b = hI σ b
theorem FrR.fi {σ σ' : Sg} (h : FrR σ σ') : FrI 625 652 σ σ' := ⟨h.1, fun b hb => h.2 b (by omega) (by omega) (by omega) (by omega)⟩
theorem RepM.fr {C : CS} {σ σ' : Sg} (h : RepM C σ) (hf : FrR σ σ') : RepM C σ' := h.go hf.1 (fun b a1 a2 => hf.2 b (by omega) (by omega) (by omega) (by omega)) (by rw [hf.2 625 (by omega) (by omega) (by omega) (by omega)]) (by rw [hf.2 625 (by omega) (by omega) (by omega) (by omega)]) (hf.2 626 (by omega) (by omega) (by omega) (by omega))
section REF10
variable {G : GT} {d k n : Nat} {σ : Sg} {Q : Option AV → Sg → Prop} {C : CS}
theorem sp_X6_reckonNow (h : RepM C σ) (hdp : 3 ≤ d) (hQ : ∀ σ', FrR σ σ' → RepM C σ' → (∀ l, l < 6 → hI σ' 650 l = vF C.1 l ∧ hI σ' 651 l = ((sF C.1 l : Nat) : Int)) → Q none σ') : WA G d k n mX6_reckonAll 0 [Va 625, Va 626, Vu] [] σ Q :=
  sp_X6_reckonAll (Or.inl rfl) h.2.1.2.1 h.2.1.2.2 h.1 h.2.1.1 hdp (fun σ' e1 e2 e3 => hQ σ' ⟨e1, e2⟩ (h.fr ⟨e1, e2⟩) e3)
theorem sp_X6_fresh {x : Int} (h : RepM C σ) (hx : i32 x) (hdp : 40 ≤ d) (hQ : ∀ σ', FrI 625 652 σ σ' → RepM C σ' → Q (some (Vi (freF x C))) σ') : WA G d k n mX6_fresh 0 [Va 625, Vi x] [] σ Q := by
  have hS := h.1
  have k625 := hS.k625
  have r0 := hS.r0
  have k626 := hS.k626
  have r31 := hS.r31
  have k650 := hS.k650
  refine ar_iload_n 1 rfl d_X6_fresh_0 rfl ?_
  refine ar_callS0 (M' := mX6_isLoaf) (As := [_]) (ls' := [Vi _]) 4 rfl d_X6_fresh_1 ml_X6_234 mt_X6_isLoaf rfl (Nat.le_of_ble_eq_true rfl) rfl (Nat.le_of_ble_eq_true rfl) (by omega) ?_
  refine sp_X6_isLoaf hx (by omega) (fun g1 => ?_) (fun g1 => ?_)
  · refine ar_if_ne 9 7 rfl rfl d_X6_fresh_4 (by omega) (fun g4 => ?_) (fun h => absurd h (by decide))
    refine ar_aload_n 10 rfl d_X6_fresh_9 rfl ?_
    refine ar_aload_n 11 rfl d_X6_fresh_10 rfl ?_
    refine ar_getA 14 rfl d_X6_fresh_11 fl_X6_7 rfl (by assumption) (by assumption) ?_
    obtain ⟨l, rfl⟩ : ∃ l : Nat, x = (l : Int) := ⟨x.toNat, by omega⟩
    refine ar_callV0 (M' := mX6_reckonAll) (As := [_]) (ls' := [Va _, Vr _, Vu]) 17 rfl d_X6_fresh_14 ml_X6_254 mt_X6_reckonAll (by assumption) rfl (Nat.le_of_ble_eq_true rfl) rfl (Nat.le_of_ble_eq_true rfl) (by omega) ?_
    refine sp_X6_reckonNow h (by omega) (fun σ1 f1 h1 hv => ?_)
    have hS1 := h1.1
    have hvl := hv l (by omega)
    have k625 := hS1.k625
    have r0 := hS1.r0
    have k626 := hS1.k626
    have r31 := hS1.r31
    have k650 := hS1.k650
    refine ar_aload_n 18 rfl d_X6_fresh_17 rfl ?_
    refine ar_getA 21 rfl d_X6_fresh_18 fl_X6_83 rfl (by assumption) (by assumption) ?_
    refine ar_iload_n 22 rfl d_X6_fresh_21 rfl ?_
    refine ar_ilv (y := vF C.1 l) 23 rfl d_X6_fresh_22 (by assumption) (by omega) (by rw [Int.toNat_natCast]; exact hvl.1) ?_
    refine WA.ret (some (Vi _)) ⟨d_X6_fresh_23, rfl, Or.inl rfl⟩ ?_
    unfold freF at hQ
    rw [if_neg (fun h => h g1), Int.toNat_natCast] at hQ
    exact hQ σ1 f1.fi h1
  · refine ar_if_ne 9 7 rfl rfl d_X6_fresh_4 (by omega) (fun h => absurd h (by decide)) (fun g4 => ?_)
    refine ar_iconst 8 rfl d_X6_fresh_7 ?_
    refine WA.ret (some (Vi _)) ⟨d_X6_fresh_8, rfl, Or.inl rfl⟩ ?_
    unfold freF at hQ
    rw [if_pos g1] at hQ
    exact hQ σ FrI.rf h
theorem sp_X6_looksAt {x : Int} (h : RepM C σ) (hx : i32 x) (hdp : 40 ≤ d) (hQ : ∀ σ', FrI 625 652 σ σ' → RepM C σ' → Q (some (Vi (losF x C))) σ') : WA G d k n mX6_looksAt 0 [Va 625, Vi x] [] σ Q := by
  have hS := h.1
  have k625 := hS.k625
  have r0 := hS.r0
  have k626 := hS.k626
  have r32 := hS.r32
  have k651 := hS.k651
  refine ar_iload_n 1 rfl d_X6_looksAt_0 rfl ?_
  refine ar_callS0 (M' := mX6_isLoaf) (As := [_]) (ls' := [Vi _]) 4 rfl d_X6_looksAt_1 ml_X6_234 mt_X6_isLoaf rfl (Nat.le_of_ble_eq_true rfl) rfl (Nat.le_of_ble_eq_true rfl) (by omega) ?_
  refine sp_X6_isLoaf hx (by omega) (fun g1 => ?_) (fun g1 => ?_)
  · refine ar_if_ne 9 7 rfl rfl d_X6_looksAt_4 (by omega) (fun g4 => ?_) (fun h => absurd h (by decide))
    refine ar_aload_n 10 rfl d_X6_looksAt_9 rfl ?_
    refine ar_aload_n 11 rfl d_X6_looksAt_10 rfl ?_
    refine ar_getA 14 rfl d_X6_looksAt_11 fl_X6_7 rfl (by assumption) (by assumption) ?_
    obtain ⟨l, rfl⟩ : ∃ l : Nat, x = (l : Int) := ⟨x.toNat, by omega⟩
    refine ar_callV0 (M' := mX6_reckonAll) (As := [_]) (ls' := [Va _, Vr _, Vu]) 17 rfl d_X6_looksAt_14 ml_X6_254 mt_X6_reckonAll (by assumption) rfl (Nat.le_of_ble_eq_true rfl) rfl (Nat.le_of_ble_eq_true rfl) (by omega) ?_
    refine sp_X6_reckonNow h (by omega) (fun σ1 f1 h1 hv => ?_)
    have hS1 := h1.1
    have hvl := hv l (by omega)
    have k625 := hS1.k625
    have r0 := hS1.r0
    have k626 := hS1.k626
    have r32 := hS1.r32
    have k651 := hS1.k651
    refine ar_aload_n 18 rfl d_X6_looksAt_17 rfl ?_
    refine ar_getA 21 rfl d_X6_looksAt_18 fl_X6_86 rfl (by assumption) (by assumption) ?_
    refine ar_iload_n 22 rfl d_X6_looksAt_21 rfl ?_
    refine ar_ilv (y := ((sF C.1 l : Nat) : Int)) 23 rfl d_X6_looksAt_22 (by assumption) (by omega) (by rw [Int.toNat_natCast]; exact hvl.2) ?_
    refine WA.ret (some (Vi _)) ⟨d_X6_looksAt_23, rfl, Or.inl rfl⟩ ?_
    unfold losF at hQ
    rw [if_neg (fun h => h g1), Int.toNat_natCast] at hQ
    exact hQ σ1 f1.fi h1
  · refine ar_if_ne 9 7 rfl rfl d_X6_looksAt_4 (by omega) (fun h => absurd h (by decide)) (fun g4 => ?_)
    refine ar_iconst 8 rfl d_X6_looksAt_7 ?_
    refine WA.ret (some (Vi _)) ⟨d_X6_looksAt_8, rfl, Or.inl rfl⟩ ?_
    unfold losF at hQ
    rw [if_pos g1] at hQ
    exact hQ σ FrI.rf h
theorem sp_X6_allAlike {q : Nat} {M : Mem} (h : RepM C σ) (hv : ∀ l, l < 6 → hI σ 650 l = vF C.1 l) (hM : C.1.2.1[q]? = some M) (hdp : 1 ≤ d) (hQ1 : alF C.1 (mLk M) = true → Q (some (Vi 1)) σ) (hQ0 : alF C.1 (mLk M) = false → Q (some (Vi 0)) σ) : WA G d k n mX6_allAlike 0 [Va 625, Vi (q : Int), Vu, Vu, Vu, Vu] [] σ Q := by
  obtain ⟨hS, hn, hh, hk9, hp9⟩ := id h
  have hb := hn.2.1.bd
  have hq := (List.getElem?_eq_some_iff.mp hM).1
  have hb1 := hb.1
  have hMm := List.mem_of_getElem? hM
  have hlen := hb.2.1 M hMm
  have hWM := hn.2.1.2.2.2.2.2.2.1 M hMm
  have hWl := hWM.2.2.2.2.2.2
  obtain ⟨m0, m1, m2, m3, m4, m5, m6⟩ := hn.1.2.2.2.2.2 q M hM
  have k625 := hS.k625
  have r0 := hS.r0
  have k626 := hS.k626
  have r31 := hS.r31
  have k650 := hS.k650
  have stop0 : alF C.1 (mLk M) = false → ∀ (i : Nat) (x4 x5 : AV), i ≤ (mLk M).length → WA G d k n mX6_allAlike 4 [Va 625, Vi (q : Int), Vi 0, Vi (i : Int), x4, x5] [] σ Q := by
    intro hal i x4 x5 hi
    refine ar_iload_n 5 rfl d_X6_allAlike_4 rfl ?_
    refine ar_aload_n 6 rfl d_X6_allAlike_5 rfl ?_
    refine ar_getA 9 rfl d_X6_allAlike_6 fl_X6_7 rfl (by assumption) (by assumption) ?_
    refine ar_iload_n 10 rfl d_X6_allAlike_9 rfl ?_
    refine ar_callS0 (M' := mX6_memoryAt) (As := [_]) (ls' := [Vi _]) 13 rfl d_X6_allAlike_10 ml_X6_147 mt_X6_memoryAt rfl (Nat.le_of_ble_eq_true rfl) rfl (Nat.le_of_ble_eq_true rfl) (by omega) ?_
    refine sp_X6_memoryAt (by omega) ?_
    refine ar_iconst 14 rfl d_X6_allAlike_13 ?_
    refine ar_iadd 15 rfl d_X6_allAlike_14 ?_
    refine ar_top (y := ((816 + 40 * q + 3 : Nat) : Int)) (by omega) ?_
    refine ar_ilv (y := ((mLk M).length : Int)) 16 rfl d_X6_allAlike_15 (by assumption) (by omega) (by rw [Int.toNat_natCast]; exact m3) ?_
    refine ar_icmp_ge 101 19 rfl rfl d_X6_allAlike_16 (by omega) (by omega) (fun g16 => ?_) (fun g16 => ?_)
    · refine ar_iload_n 102 rfl d_X6_allAlike_101 rfl ?_
      refine WA.ret (some (Vi _)) ⟨d_X6_allAlike_102, rfl, Or.inr ⟨rfl, (Or.inl rfl)⟩⟩ ?_
      exact hQ0 hal
    · refine ar_iload_n 20 rfl d_X6_allAlike_19 rfl ?_
      refine ar_if_eq 101 23 rfl rfl d_X6_allAlike_20 (by omega) (fun g20 => ?_) (fun h => absurd rfl h)
      refine ar_iload_n 102 rfl d_X6_allAlike_101 rfl ?_
      refine WA.ret (some (Vi _)) ⟨d_X6_allAlike_102, rfl, Or.inr ⟨rfl, (Or.inl rfl)⟩⟩ ?_
      exact hQ0 hal
  have loop : ∀ (r i : Nat) (x4 x5 : AV), (mLk M).length - i = r → i ≤ (mLk M).length → (∀ j x, j < i → (mLk M)[j]? = some x → x.2 = vlF C.1.1 (vF C.1) x.1) → WA G d k n mX6_allAlike 4 [Va 625, Vi (q : Int), Vi 1, Vi (i : Int), x4, x5] [] σ Q := by
    intro r
    induction r using Nat.strongRecOn with
    | ind r ih =>
    intro i x4 x5 hr9 hi hj
    refine ar_iload_n 5 rfl d_X6_allAlike_4 rfl ?_
    refine ar_aload_n 6 rfl d_X6_allAlike_5 rfl ?_
    refine ar_getA 9 rfl d_X6_allAlike_6 fl_X6_7 rfl (by assumption) (by assumption) ?_
    refine ar_iload_n 10 rfl d_X6_allAlike_9 rfl ?_
    refine ar_callS0 (M' := mX6_memoryAt) (As := [_]) (ls' := [Vi _]) 13 rfl d_X6_allAlike_10 ml_X6_147 mt_X6_memoryAt rfl (Nat.le_of_ble_eq_true rfl) rfl (Nat.le_of_ble_eq_true rfl) (by omega) ?_
    refine sp_X6_memoryAt (by omega) ?_
    refine ar_iconst 14 rfl d_X6_allAlike_13 ?_
    refine ar_iadd 15 rfl d_X6_allAlike_14 ?_
    refine ar_top (y := ((816 + 40 * q + 3 : Nat) : Int)) (by omega) ?_
    refine ar_ilv (y := ((mLk M).length : Int)) 16 rfl d_X6_allAlike_15 (by assumption) (by omega) (by rw [Int.toNat_natCast]; exact m3) ?_
    refine ar_icmp_ge 101 19 rfl rfl d_X6_allAlike_16 (by omega) (by omega) (fun g16 => ?_) (fun g16 => ?_)
    · refine ar_iload_n 102 rfl d_X6_allAlike_101 rfl ?_
      refine WA.ret (some (Vi _)) ⟨d_X6_allAlike_102, rfl, Or.inr ⟨rfl, (Or.inr rfl)⟩⟩ ?_
      refine hQ1 ?_
      unfold alF
      rw [List.all_eq_true]
      intro x hx
      obtain ⟨j, hj2⟩ := List.getElem?_of_mem hx
      have h9 := hj j x (by have := (List.getElem?_eq_some_iff.mp hj2).1; omega) hj2
      simpa using h9
    · have hlt : i < (mLk M).length := by omega
      obtain ⟨x, hx⟩ : ∃ x, (mLk M)[i]? = some x := ⟨_, List.getElem?_eq_getElem hlt⟩
      have hxx := m6 i x hx
      have hxm := List.mem_of_getElem? hx
      have hxw := hWl.1 x hxm
      have hvi : i32 (vlF C.1.1 (vF C.1) x.1) := by
        have h9 := (vlF_b hn.2.1 (Nat.le_of_lt (show (mLoaf M).toNat < 6 by have h1 := hWM.1; have h2 := hWM.2.1; omega)) hxw.1).1
        constructor <;> omega
      have hki : i32 x.1 := by
        have h1 := hWM.1
        have h2 := hWM.2.1
        rcases hxw.1 with e | e <;> constructor <;> omega
      have go70 : ∀ (x5 : AV), WA G d k n mX6_allAlike 70 [Va 625, Vi (q : Int), Vi 1, Vi (i : Int), Vi x.1, Vi (vlF C.1.1 (vF C.1) x.1)] [] σ Q := by
        intro x5
        refine ar_iload 72 rfl d_X6_allAlike_70 rfl ?_
        refine ar_aload_n 73 rfl d_X6_allAlike_72 rfl ?_
        refine ar_getA 76 rfl d_X6_allAlike_73 fl_X6_7 rfl (by assumption) (by assumption) ?_
        refine ar_iload_n 77 rfl d_X6_allAlike_76 rfl ?_
        refine ar_callS0 (M' := mX6_memoryAt) (As := [_]) (ls' := [Vi _]) 80 rfl d_X6_allAlike_77 ml_X6_147 mt_X6_memoryAt rfl (Nat.le_of_ble_eq_true rfl) rfl (Nat.le_of_ble_eq_true rfl) (by omega) ?_
        refine sp_X6_memoryAt (by omega) ?_
        refine ar_bipush 82 rfl d_X6_allAlike_80 rfl ?_
        refine ar_iadd 83 rfl d_X6_allAlike_82 ?_
        refine ar_iload_n 84 rfl d_X6_allAlike_83 rfl ?_
        refine ar_iadd 85 rfl d_X6_allAlike_84 ?_
        refine ar_top (y := ((816 + 40 * q + 23 + i : Nat) : Int)) (by omega) ?_
        refine ar_ilv (y := x.2) 86 rfl d_X6_allAlike_85 (by assumption) (by omega) (by rw [Int.toNat_natCast]; exact hxx.2) ?_
        refine ar_icmp_ne 93 89 rfl rfl d_X6_allAlike_86 (by first | exact hvi | (constructor <;> omega)) (by first | exact hvi | (constructor <;> omega)) (fun g86 => ?_) (fun g86 => ?_)
        · refine ar_iconst 94 rfl d_X6_allAlike_93 ?_
          refine ar_ist_2 95 rfl d_X6_allAlike_94 rfl (by intro _ h; cases h) ?_
          refine ar_inc_3 (y := ((i + 1 : Nat) : Int)) 98 rfl d_X6_allAlike_95 rfl (by intro _ h; cases h) (by omega) ?_
          refine ar_goto 4 rfl d_X6_allAlike_98 ?_
          refine stop0 ?_ (i + 1) _ _ (by omega)
          unfold alF
          rw [List.all_eq_false]
          refine ⟨x, hxm, ?_⟩
          simpa using fun e : x.2 = _ => g86 e.symm
        · refine ar_iconst 90 rfl d_X6_allAlike_89 ?_
          refine ar_goto 94 rfl d_X6_allAlike_90 ?_
          refine ar_ist_2 95 rfl d_X6_allAlike_94 rfl (by intro _ h; cases h) ?_
          refine ar_inc_3 (y := ((i + 1 : Nat) : Int)) 98 rfl d_X6_allAlike_95 rfl (by intro _ h; cases h) (by omega) ?_
          refine ar_goto 4 rfl d_X6_allAlike_98 ?_
          exact ih ((mLk M).length - (i + 1)) (by omega) (i + 1) _ _ rfl (by omega) (fun j y hj2 hj3 => by
            by_cases e : j = i
            · subst e
              rw [hx] at hj3
              cases hj3
              exact g86.symm
            · exact hj j y (by omega) hj3)
      refine ar_iload_n 20 rfl d_X6_allAlike_19 rfl ?_
      refine ar_if_eq 101 23 rfl rfl d_X6_allAlike_20 (by omega) (fun h => absurd h (by decide)) (fun g20 => ?_)
      refine ar_aload_n 24 rfl d_X6_allAlike_23 rfl ?_
      refine ar_getA 27 rfl d_X6_allAlike_24 fl_X6_7 rfl (by assumption) (by assumption) ?_
      refine ar_iload_n 28 rfl d_X6_allAlike_27 rfl ?_
      refine ar_callS0 (M' := mX6_memoryAt) (As := [_]) (ls' := [Vi _]) 31 rfl d_X6_allAlike_28 ml_X6_147 mt_X6_memoryAt rfl (Nat.le_of_ble_eq_true rfl) rfl (Nat.le_of_ble_eq_true rfl) (by omega) ?_
      refine sp_X6_memoryAt (by omega) ?_
      refine ar_bipush 33 rfl d_X6_allAlike_31 rfl ?_
      refine ar_iadd 34 rfl d_X6_allAlike_33 ?_
      refine ar_iload_n 35 rfl d_X6_allAlike_34 rfl ?_
      refine ar_iadd 36 rfl d_X6_allAlike_35 ?_
      refine ar_top (y := ((816 + 40 * q + 6 + i : Nat) : Int)) (by omega) ?_
      refine ar_ilv (y := x.1) 37 rfl d_X6_allAlike_36 (by assumption) (by omega) (by rw [Int.toNat_natCast]; exact hxx.1) ?_
      refine ar_ist_4 39 rfl d_X6_allAlike_37 rfl (by intro _ h; cases h) ?_
      refine ar_iload 41 rfl d_X6_allAlike_39 rfl ?_
      refine ar_bipush 43 rfl d_X6_allAlike_41 rfl ?_
      refine ar_icmp_lt 59 46 rfl rfl d_X6_allAlike_43 (by omega) (by omega) (fun g43 => ?_) (fun g43 => ?_)
      · obtain ⟨c, hc⟩ : ∃ c : Nat, x.1 = (c : Int) := ⟨x.1.toNat, by rcases hxw.1 with e | e <;> omega⟩
        have hc12 : c < 12 := by rcases hxw.1 with e | e <;> omega
        have hve : vlF C.1.1 (vF C.1) x.1 = sv C.1.1 (c : Int) := by
          unfold vlF
          rw [if_neg (by omega), hc]
        refine ar_aload_n 60 rfl d_X6_allAlike_59 rfl ?_
        refine ar_getA 63 rfl d_X6_allAlike_60 fl_X6_7 rfl (by assumption) (by assumption) ?_
        refine ar_iload 65 rfl d_X6_allAlike_63 rfl ?_
        refine ar_top (y := (c : Int)) hc ?_
        refine ar_callS0 (M' := mX6_valueOfShelf) (As := [_, _]) (ls' := [Vr _, Vi _]) 68 rfl d_X6_allAlike_65 ml_X6_172 mt_X6_valueOfShelf rfl (Nat.le_of_ble_eq_true rfl) rfl (Nat.le_of_ble_eq_true rfl) (by omega) ?_
        refine sp_X6_valueOfShelf k626 (by omega) hc12 (hn.1.1 _ (by omega)) (hn.1.1 _ (by omega)) (hn.2.1.2.2.2.1 c hc12) ?_
        refine ar_top hve.symm ?_
        refine ar_ist_5 70 rfl d_X6_allAlike_68 rfl (by intro _ h; cases h) ?_
        exact go70 Vu
      · obtain ⟨c, hc⟩ : ∃ c : Nat, x.1 = 20 + (c : Int) := ⟨(x.1 - 20).toNat, by omega⟩
        have hc6 : c < 6 := by
          have h1 := hWM.1
          have h2 := hWM.2.1
          rcases hxw.1 with e | e <;> omega
        have hve : vlF C.1.1 (vF C.1) x.1 = vF C.1 c := by
          unfold vlF
          rw [if_pos (by omega), show (x.1 - 20).toNat = c by omega]
        refine ar_aload_n 47 rfl d_X6_allAlike_46 rfl ?_
        refine ar_getA 50 rfl d_X6_allAlike_47 fl_X6_83 rfl (by assumption) (by assumption) ?_
        refine ar_iload 52 rfl d_X6_allAlike_50 rfl ?_
        refine ar_bipush 54 rfl d_X6_allAlike_52 rfl ?_
        refine ar_isub 55 rfl d_X6_allAlike_54 ?_
        refine ar_top (y := (c : Int)) (by omega) ?_
        refine ar_ilv (y := (vlF C.1.1 (vF C.1) x.1)) 56 rfl d_X6_allAlike_55 (by assumption) (by omega) (by rw [Int.toNat_natCast, hve]; exact hv c hc6) ?_
        refine ar_goto 68 rfl d_X6_allAlike_56 ?_
        refine ar_ist_5 70 rfl d_X6_allAlike_68 rfl (by intro _ h; cases h) ?_
        exact go70 Vu
  refine ar_iconst 1 rfl d_X6_allAlike_0 ?_
  refine ar_ist_2 2 rfl d_X6_allAlike_1 rfl (by intro _ h; cases h) ?_
  refine ar_iconst 3 rfl d_X6_allAlike_2 ?_
  refine ar_ist_3 4 rfl d_X6_allAlike_3 rfl (by intro _ h; cases h) ?_
  exact loop _ 0 _ _ rfl (by omega) (fun j x h => absurd h (by omega))
theorem sp_X6_fits {x : Int} (h : RepM C σ) (hx : i32 x) (hdp : 40 ≤ d) (hQ : ∀ σ', FrI 625 652 σ σ' → RepM C σ' → Q (some (Vi (fitQ x C))) σ') : WA G d k n mX6_fits 0 [Va 625, Vi x, Vu] [] σ Q := by
  have hS := h.1
  have k625 := hS.k625
  have r0 := hS.r0
  have k626 := hS.k626
  refine ar_iload_n 1 rfl d_X6_fits_0 rfl ?_
  refine ar_callS0 (M' := mX6_isLoaf) (As := [_]) (ls' := [Vi _]) 4 rfl d_X6_fits_1 ml_X6_234 mt_X6_isLoaf rfl (Nat.le_of_ble_eq_true rfl) rfl (Nat.le_of_ble_eq_true rfl) (by omega) ?_
  refine sp_X6_isLoaf hx (by omega) (fun g1 => ?_) (fun g1 => ?_)
  · refine ar_if_ne 9 7 rfl rfl d_X6_fits_4 (by omega) (fun g4 => ?_) (fun h => absurd h (by decide))
    refine ar_aload_n 10 rfl d_X6_fits_9 rfl ?_
    refine ar_aload_n 11 rfl d_X6_fits_10 rfl ?_
    refine ar_getA 14 rfl d_X6_fits_11 fl_X6_7 rfl (by assumption) (by assumption) ?_
    refine ar_callV0 (M' := mX6_reckonAll) (As := [_]) (ls' := [Va _, Vr _, Vu]) 17 rfl d_X6_fits_14 ml_X6_254 mt_X6_reckonAll (by assumption) rfl (Nat.le_of_ble_eq_true rfl) rfl (Nat.le_of_ble_eq_true rfl) (by omega) ?_
    refine sp_X6_reckonNow h (by omega) (fun σ1 f1 h1 hv => ?_)
    obtain ⟨l, rfl⟩ : ∃ l : Nat, x = (l : Int) := ⟨x.toNat, by omega⟩
    unfold fitQ at hQ
    rw [if_neg (fun h => h g1), Int.toNat_natCast] at hQ
    obtain ⟨hS1, hn1, hh1, hk1, hp1⟩ := id h1
    have h814 := hn1.1.2.2.2.1
    have hb1 := hn1.2.1.bd.1
    have k625 := hS1.k625
    have r0 := hS1.r0
    have k626 := hS1.k626
    have loop : ∀ (r i : Nat), C.1.2.1.length - i = r → i ≤ C.1.2.1.length → (∀ j M, j < i → C.1.2.1[j]? = some M → (isOf (l : Int) M && alF C.1 (mLk M)) = false) → WA G d k n mX6_fits 19 [Va 625, Vi (l : Int), Vi (i : Int)] [] σ1 Q := by
      intro r
      induction r using Nat.strongRecOn with
      | ind r ih =>
      intro i hr9 hi hj
      have next : ∀ M, C.1.2.1[i]? = some M → (isOf (l : Int) M && alF C.1 (mLk M)) = false → WA G d k n mX6_fits 56 [Va 625, Vi (l : Int), Vi (i : Int)] [] σ1 Q := by
        intro M hM hno
        have hlt := (List.getElem?_eq_some_iff.mp hM).1
        refine ar_inc_2 (y := ((i + 1 : Nat) : Int)) 59 rfl d_X6_fits_56 rfl (by intro _ h; cases h) (by omega) ?_
        refine ar_goto 19 rfl d_X6_fits_59 ?_
        exact ih (C.1.2.1.length - (i + 1)) (by omega) (i + 1) rfl (by omega) (fun j M' hj2 hj3 => by
          by_cases e : j = i
          · subst e
            rw [hM] at hj3
            cases hj3
            exact hno
          · exact hj j M' (by omega) hj3)
      refine ar_iload_n 20 rfl d_X6_fits_19 rfl ?_
      refine ar_aload_n 21 rfl d_X6_fits_20 rfl ?_
      refine ar_getA 24 rfl d_X6_fits_21 fl_X6_7 rfl (by assumption) (by assumption) ?_
      refine ar_sipush 27 rfl d_X6_fits_24 rfl ?_
      refine ar_ilv (y := (C.1.2.1.length : Int)) 28 rfl d_X6_fits_27 (by assumption) (by omega) h814 ?_
      refine ar_icmp_ge 62 31 rfl rfl d_X6_fits_28 (by omega) (by omega) (fun g28 => ?_) (fun g28 => ?_)
      · refine ar_bipush 64 rfl d_X6_fits_62 rfl ?_
        refine WA.ret (some (Vi _)) ⟨d_X6_fits_64, rfl, Or.inl rfl⟩ ?_
        have hno : fitP C.1 l = none := by
          unfold fitP
          rw [List.findIdx?_eq_none_iff]
          intro M hM
          obtain ⟨j, hj2⟩ := List.getElem?_of_mem hM
          exact hj j M (by have := (List.getElem?_eq_some_iff.mp hj2).1; omega) hj2
        rw [hno] at hQ
        exact hQ σ1 f1.fi h1
      · have hlt : i < C.1.2.1.length := by omega
        obtain ⟨M, hM⟩ : ∃ M, C.1.2.1[i]? = some M := ⟨_, List.getElem?_eq_getElem hlt⟩
        have hWM := hn1.2.1.2.2.2.2.2.2.1 M (List.mem_of_getElem? hM)
        have hl1 := hWM.1
        have hl2 := hWM.2.1
        obtain ⟨m0, m1, m2, m3, m4, m5, m6⟩ := hn1.1.2.2.2.2.2 i M hM
        refine ar_aload_n 32 rfl d_X6_fits_31 rfl ?_
        refine ar_getA 35 rfl d_X6_fits_32 fl_X6_7 rfl (by assumption) (by assumption) ?_
        refine ar_iload_n 36 rfl d_X6_fits_35 rfl ?_
        refine ar_callS0 (M' := mX6_memoryAt) (As := [_]) (ls' := [Vi _]) 39 rfl d_X6_fits_36 ml_X6_147 mt_X6_memoryAt rfl (Nat.le_of_ble_eq_true rfl) rfl (Nat.le_of_ble_eq_true rfl) (by omega) ?_
        refine sp_X6_memoryAt (by omega) ?_
        refine ar_iconst 40 rfl d_X6_fits_39 ?_
        refine ar_iadd 41 rfl d_X6_fits_40 ?_
        refine ar_top (y := ((816 + 40 * i + 1 : Nat) : Int)) (by omega) ?_
        refine ar_ilv (y := (mLoaf M)) 42 rfl d_X6_fits_41 (by assumption) (by omega) (by rw [Int.toNat_natCast]; exact m1) ?_
        refine ar_iload_n 43 rfl d_X6_fits_42 rfl ?_
        refine ar_icmp_ne 56 46 rfl rfl d_X6_fits_43 (by omega) (by omega) (fun g43 => ?_) (fun g43 => ?_)
        · refine next M hM ?_
          have e9 : isOf (l : Int) M = false := by
            unfold isOf
            simpa using g43
          rw [e9]
          rfl
        · have e9 : isOf (l : Int) M = true := by
            unfold isOf
            simpa using g43
          refine ar_aload_n 47 rfl d_X6_fits_46 rfl ?_
          refine ar_iload_n 48 rfl d_X6_fits_47 rfl ?_
          refine ar_callV0 (M' := mX6_allAlike) (As := [_]) (ls' := [Va _, Vi _, Vu, Vu, Vu, Vu]) 51 rfl d_X6_fits_48 ml_X6_257 mt_X6_allAlike (by assumption) rfl (Nat.le_of_ble_eq_true rfl) rfl (Nat.le_of_ble_eq_true rfl) (by omega) ?_
          refine sp_X6_allAlike h1 (fun l hl => (hv l hl).1) hM (by omega) (fun e8 => ?_) (fun e8 => ?_)
          · refine ar_if_eq 56 54 rfl rfl d_X6_fits_51 (by omega) (fun h => absurd h (by decide)) (fun g51 => ?_)
            refine ar_iload_n 55 rfl d_X6_fits_54 rfl ?_
            refine WA.ret (some (Vi _)) ⟨d_X6_fits_55, rfl, Or.inl rfl⟩ ?_
            have hso : fitP C.1 l = some i := by
              unfold fitP
              rw [List.findIdx?_eq_some_iff_getElem]
              refine ⟨hlt, ?_, fun j hj2 => ?_⟩
              · rw [(List.getElem?_eq_some_iff.mp hM).2, e9, e8]
                rfl
              · have h9 := hj j _ hj2 (List.getElem?_eq_getElem (by omega))
                simpa using h9
            rw [hso] at hQ
            exact hQ σ1 f1.fi h1
          · refine ar_if_eq 56 54 rfl rfl d_X6_fits_51 (by omega) (fun g51 => ?_) (fun h => absurd h (by decide))
            refine next M hM ?_
            rw [e8, Bool.and_false]
    refine ar_iconst 18 rfl d_X6_fits_17 ?_
    refine ar_ist_2 19 rfl d_X6_fits_18 rfl (by intro _ h; cases h) ?_
    exact loop _ 0 rfl (by omega) (fun j M h => absurd h (by omega))
  · refine ar_if_ne 9 7 rfl rfl d_X6_fits_4 (by omega) (fun h => absurd h (by decide)) (fun g4 => ?_)
    refine ar_iconst 8 rfl d_X6_fits_7 ?_
    refine WA.ret (some (Vi _)) ⟨d_X6_fits_8, rfl, Or.inl rfl⟩ ?_
    unfold fitQ at hQ
    rw [if_pos g1] at hQ
    exact hQ σ FrI.rf h
theorem RepM.tri {j : Nat} {v : Int} (h : RepM C σ) : RepM C (wI σ 627 j v) := h.go rfl (fun b a1 a2 => hI_off (by omega)) (by rw [hI_off (by omega)]) (by rw [hI_off (by omega)]) (hI_off (by omega))
theorem RsW.num {g : Nat → Int} {S : SS} {p : Nat} {y : Int} (h : RsW g S) (hp : p < 12) (hy : 0 ≤ y ∧ y < 100) : RsW (uf g (2 + p) y) (uf S.1 (2 + p) y, S.2) := ⟨h.1.upd h.2.1.bd.2.2 (by omega), h.2.1.num hp hy, h.2.2⟩
set_option maxHeartbeats 4000000 in
theorem sp_X6_changes {x y : Int} (h : RepM C σ) (hx : i32 x) (hy : i32 y) (hdp : 40 ≤ d) (hQ : ∀ σ', FrI 625 652 σ σ' → RepM C σ' → Q (some (Vi (chaF x y C))) σ') : WA G d k n mX6_changes 0 [Va 625, Vi x, Vi y, Vu, Vu, Vu] [] σ Q := by
  have hS := h.1
  unfold chaF at hQ
  have k625 := hS.k625
  have r0 := hS.r0
  have k626 := hS.k626
  have r1 := hS.r1
  have k627 := hS.k627
  have r31 := hS.r31
  have k650 := hS.k650
  refine ar_iload_n 1 rfl d_X6_changes_0 rfl ?_
  refine ar_callS0 (M' := mX6_isShelf) (As := [_]) (ls' := [Vi _]) 4 rfl d_X6_changes_1 ml_X6_228 mt_X6_isShelf rfl (Nat.le_of_ble_eq_true rfl) rfl (Nat.le_of_ble_eq_true rfl) (by omega) ?_
  refine sp_X6_isShelf hx (by omega) (fun g1 => ?_) (fun g1 => ?_)
  · refine ar_if_ne 9 7 rfl rfl d_X6_changes_4 (by omega) (fun g4 => ?_) (fun h => absurd h (by decide))
    refine ar_iload_n 10 rfl d_X6_changes_9 rfl ?_
    refine ar_i2l 11 rfl d_X6_changes_10 (by omega) ?_
    refine ar_lconst 0 12 rfl d_X6_changes_11 rfl ?_
    refine ar_ldc2 99 15 rfl d_X6_changes_12 lc_X6_232 rfl ?_
    refine ar_callS0 (M' := mX6_in) (As := [_, _, _]) (ls' := [Vl _, Vu, Vl _, Vu, Vl _, Vu]) 18 rfl d_X6_changes_15 ml_X6_91 mt_X6_in rfl (Nat.le_of_ble_eq_true rfl) rfl (Nat.le_of_ble_eq_true rfl) (by omega) ?_
    refine sp_X6_in (by constructor <;> omega) (by constructor <;> omega) (by constructor <;> omega) (fun g2 => ?_) (fun g2 => ?_)
    · refine ar_if_ne 24 21 rfl rfl d_X6_changes_18 (by omega) (fun g18 => ?_) (fun h => absurd h (by decide))
      rw [if_neg (fun h => h g1), if_neg (fun h => h (by omega))] at hQ
      obtain ⟨p, rfl⟩ : ∃ p : Nat, x = (p : Int) := ⟨x.toNat, by omega⟩
      have hp : p < 12 := by omega
      rw [Int.toNat_natCast] at hQ
      refine ar_aload_n 25 rfl d_X6_changes_24 rfl ?_
      refine ar_getA 28 rfl d_X6_changes_25 fl_X6_7 rfl (by assumption) (by assumption) ?_
      refine ar_iconst 29 rfl d_X6_changes_28 ?_
      refine ar_top (y := ((0 : Nat) : Int)) rfl ?_
      refine ar_aload_n 30 rfl d_X6_changes_29 rfl ?_
      refine ar_getA 33 rfl d_X6_changes_30 fl_X6_13 rfl (by assumption) (by assumption) ?_
      refine ar_iconst 34 rfl d_X6_changes_33 ?_
      refine ar_top (y := ((0 : Nat) : Int)) rfl ?_
      refine ar_callS0 (M' := mX6_copyState) (As := [_, _, _, _]) (ls' := [Vr _, Vi _, Vr _, Vi _, Vu]) 37 rfl d_X6_changes_34 ml_X6_219 mt_X6_copyState rfl (Nat.le_of_ble_eq_true rfl) rfl (Nat.le_of_ble_eq_true rfl) (by omega) ?_
      refine sp_X6_copyState (sp := 0) (dp := 0) k626 k627 (by omega) (by omega) (by omega) (by omega) ?_
      have hg : ∀ j, j < 1496 → hI (cI σ 626 0 627 0 1496) 627 j = hI σ 626 j := fun j hj => by
        rw [hI_c, if_pos (by omega)]
        exact congrArg _ (by omega)
      have hgo : ∀ b, b ≠ 627 → hI (cI σ 626 0 627 0 1496) b = hI σ b := fun b hb => by
        funext j
        rw [hI_c, if_neg (fun h => hb h.1)]
      have hg2 : (cI σ 626 0 627 0 1496).2 = σ.2 := rfl
      have hfi1 : FrI 625 652 σ (cI σ 626 0 627 0 1496) := FrI.c (by omega) (by omega)
      generalize cI σ 626 0 627 0 1496 = σ1 at hg hgo hg2 hfi1
      have h1 : RepM C σ1 := h.go hg2 (fun b a1 a2 => hgo b (by omega)) (by rw [hgo _ (by omega)]) (by rw [hgo _ (by omega)]) (hgo _ (by omega))
      have ht1 : RsW (hI σ1 627) C.1 := RsW.cg h.2.1 hg
      have hS1 := h1.1
      have k625 := hS1.k625
      have r0 := hS1.r0
      have k626 := hS1.k626
      have r1 := hS1.r1
      have k627 := hS1.k627
      have r31 := hS1.r31
      have k650 := hS1.k650
      refine ar_aload_n 38 rfl d_X6_changes_37 rfl ?_
      refine ar_getA 41 rfl d_X6_changes_38 fl_X6_13 rfl (by assumption) (by assumption) ?_
      refine ar_iconst 42 rfl d_X6_changes_41 ?_
      refine ar_iload_n 43 rfl d_X6_changes_42 rfl ?_
      refine ar_iadd 44 rfl d_X6_changes_43 ?_
      refine ar_top (y := ((2 + p : Nat) : Int)) (by omega) ?_
      refine ar_iload_n 45 rfl d_X6_changes_44 rfl ?_
      refine ar_iasN (2 + p) 46 rfl d_X6_changes_45 (by assumption) (by omega) (by omega) ?_
      have h2 : RepM C (wI σ1 627 (2 + p) y) := h1.tri
      have ht2 : RsW (hI (wI σ1 627 (2 + p) y) 627) (uf C.1.1 (2 + p) y, C.1.2) := by
        rw [hI_row]
        exact ht1.num hp (by omega)
      have hfi2 : FrI 625 652 σ (wI σ1 627 (2 + p) y) := hfi1.tr (FrI.w (by omega) (by omega))
      generalize wI σ1 627 (2 + p) y = σ2 at h2 ht2 hfi2
      generalize (uf C.1.1 (2 + p) y, C.1.2) = S' at ht2 hQ
      have loop : ∀ r i : Nat, ∀ (σi : Sg) (x5 : AV), 6 - i = r → i ≤ 6 → RepM C σi → RsW (hI σi 627) S' → FrI 625 652 σ σi → WA G d k n mX6_changes 51 [Va 625, Vi (p : Int), Vi y, Vi (lset (fun l => decide (vF C.1 l ≠ vF S' l)) i : Int), Vi (i : Int), x5] [] σi Q := by
        intro r
        induction r using Nat.strongRecOn with
        | ind r ih =>
        intro i σi x5 hr hi hRi hti hfi
        have hSi := hRi.1
        have k625 := hSi.k625
        have r0 := hSi.r0
        have k626 := hSi.k626
        have r1 := hSi.r1
        have k627 := hSi.k627
        have r31 := hSi.r31
        have k650 := hSi.k650
        refine ar_iload 53 rfl d_X6_changes_51 rfl ?_
        refine ar_bipush 55 rfl d_X6_changes_53 rfl ?_
        refine ar_icmp_ge 112 58 rfl rfl d_X6_changes_55 (by omega) (by omega) (fun g55 => ?_) (fun g55 => ?_)
        · refine ar_iload_n 113 rfl d_X6_changes_112 rfl ?_
          refine WA.ret (some (Vi _)) ⟨d_X6_changes_113, rfl, Or.inl rfl⟩ ?_
          have hi6 : i = 6 := by omega
          subst hi6
          exact hQ σi hfi hRi
        · refine ar_aload_n 59 rfl d_X6_changes_58 rfl ?_
          refine ar_aload_n 60 rfl d_X6_changes_59 rfl ?_
          refine ar_getA 63 rfl d_X6_changes_60 fl_X6_7 rfl (by assumption) (by assumption) ?_
          refine ar_callV0 (M' := mX6_reckonAll) (As := [_]) (ls' := [Va _, Vr _, Vu]) 66 rfl d_X6_changes_63 ml_X6_254 mt_X6_reckonAll (by assumption) rfl (Nat.le_of_ble_eq_true rfl) rfl (Nat.le_of_ble_eq_true rfl) (by omega) ?_
          have hi6 : i < 6 := by omega
          refine sp_X6_reckonNow hRi (by omega) (fun σ3 f3 h3 hv3 => ?_)
          have hv3i := (hv3 i hi6).1
          have ht3 : RsW (hI σ3 627) S' := by rw [f3.2 627 (by omega) (by omega) (by omega) (by omega)]; exact hti
          have hS3 := h3.1
          have k625 := hS3.k625
          have r0 := hS3.r0
          have k626 := hS3.k626
          have r1 := hS3.r1
          have k627 := hS3.k627
          have r31 := hS3.r31
          have k650 := hS3.k650
          refine ar_aload_n 67 rfl d_X6_changes_66 rfl ?_
          refine ar_getA 70 rfl d_X6_changes_67 fl_X6_83 rfl (by assumption) (by assumption) ?_
          refine ar_iload 72 rfl d_X6_changes_70 rfl ?_
          refine ar_ilv (y := (vF C.1 i)) 73 rfl d_X6_changes_72 (by assumption) (by omega) (by rw [Int.toNat_natCast]; exact hv3i) ?_
          refine ar_ist_5 75 rfl d_X6_changes_73 rfl (by intro _ h; cases h) ?_
          refine ar_aload_n 76 rfl d_X6_changes_75 rfl ?_
          refine ar_aload_n 77 rfl d_X6_changes_76 rfl ?_
          refine ar_getA 80 rfl d_X6_changes_77 fl_X6_13 rfl (by assumption) (by assumption) ?_
          refine ar_callV0 (M' := mX6_reckonAll) (As := [_]) (ls' := [Va _, Vr _, Vu]) 83 rfl d_X6_changes_80 ml_X6_254 mt_X6_reckonAll (by assumption) rfl (Nat.le_of_ble_eq_true rfl) rfl (Nat.le_of_ble_eq_true rfl) (by omega) ?_
          refine sp_X6_reckonAll (Or.inr rfl) ht3.2.1 ht3.2.2 hS3 ht3.1 (by omega) (fun σ4 e1 e2 e3 => ?_)
          have f4 : FrR σ3 σ4 := ⟨e1, e2⟩
          have h4 := h3.fr f4
          have ht4 : RsW (hI σ4 627) S' := by rw [f4.2 627 (by omega) (by omega) (by omega) (by omega)]; exact ht3
          have hv4i := (e3 i hi6).1
          have hv1 := (fr_bd h.2.1.2.1 i hi6).1
          have hv2 := (fr_bd ht3.2.1 i hi6).1
          have hlt := lset_lt (fun l => decide (vF C.1 l ≠ vF S' l)) i (by omega)
          have hS4 := h4.1
          have k625 := hS4.k625
          have r0 := hS4.r0
          have k626 := hS4.k626
          have r1 := hS4.r1
          have k627 := hS4.k627
          have r31 := hS4.r31
          have k650 := hS4.k650
          have h105 : WA G d k n mX6_changes 105 [Va 625, Vi (p : Int), Vi y, Vi (lset (fun l => decide (vF C.1 l ≠ vF S' l)) i : Int), Vi (i : Int), Vi (vF C.1 i)] [Vi (lset (fun l => decide (vF C.1 l ≠ vF S' l)) (i + 1) : Int)] σ4 Q := by
            refine ar_ist_3 106 rfl d_X6_changes_105 rfl (by intro _ h; cases h) ?_
            refine ar_inc_4 (y := ((i + 1 : Nat) : Int)) 109 rfl d_X6_changes_106 rfl (by intro _ h; cases h) (by omega) ?_
            refine ar_goto 51 rfl d_X6_changes_109 ?_
            exact ih (6 - (i + 1)) (by omega) (i + 1) σ4 _ rfl (by omega) h4 ht4 (hfi.tr (f3.fi.tr f4.fi))
          refine ar_iload_n 84 rfl d_X6_changes_83 rfl ?_
          refine ar_aload_n 85 rfl d_X6_changes_84 rfl ?_
          refine ar_getA 88 rfl d_X6_changes_85 fl_X6_83 rfl (by assumption) (by assumption) ?_
          refine ar_iload 90 rfl d_X6_changes_88 rfl ?_
          refine ar_ilv (y := (vF S' i)) 91 rfl d_X6_changes_90 (by assumption) (by omega) (by rw [Int.toNat_natCast]; exact hv4i) ?_
          refine ar_iload 93 rfl d_X6_changes_91 rfl ?_
          refine ar_icmp_eq 103 96 rfl rfl d_X6_changes_93 (by omega) (by omega) (fun g93 => ?_) (fun g93 => ?_)
          · refine ar_iconst 104 rfl d_X6_changes_103 ?_
            refine ar_ior 105 rfl d_X6_changes_104 ?_
            refine ar_top (y := (lset (fun l => decide (vF C.1 l ≠ vF S' l)) (i + 1) : Int)) ?_ ?_
            · rw [lset_n (fun l => decide (vF C.1 l ≠ vF S' l)) i (by simp [g93])]
              exact (iOr_n (b := 0) (by omega) (by omega)).trans (by rw [Nat.or_zero])
            exact h105
          · refine ar_iconst 97 rfl d_X6_changes_96 ?_
            refine ar_iload 99 rfl d_X6_changes_97 rfl ?_
            refine ar_ishl 100 rfl d_X6_changes_99 ?_
            refine ar_goto 104 rfl d_X6_changes_100 ?_
            refine ar_ior 105 rfl d_X6_changes_104 ?_
            refine ar_top (lset_s (fun l => decide (vF C.1 l ≠ vF S' l)) i (by omega) (by simp [Ne.symm g93])) ?_
            exact h105
      refine ar_iconst 47 rfl d_X6_changes_46 ?_
      refine ar_ist_3 48 rfl d_X6_changes_47 rfl (by intro _ h; cases h) ?_
      refine ar_iconst 49 rfl d_X6_changes_48 ?_
      refine ar_ist_4 51 rfl d_X6_changes_49 rfl (by intro _ h; cases h) ?_
      exact loop 6 0 σ2 _ rfl (by omega) h2 ht2 hfi2
    · refine ar_if_ne 24 21 rfl rfl d_X6_changes_18 (by omega) (fun h => absurd h (by decide)) (fun g18 => ?_)
      refine ar_bipush 23 rfl d_X6_changes_21 rfl ?_
      refine WA.ret (some (Vi _)) ⟨d_X6_changes_23, rfl, Or.inl rfl⟩ ?_
      rw [if_neg (fun h => h g1), if_pos (by omega)] at hQ
      exact hQ σ FrI.rf h
  · refine ar_if_ne 9 7 rfl rfl d_X6_changes_4 (by omega) (fun h => absurd h (by decide)) (fun g4 => ?_)
    refine ar_iconst 8 rfl d_X6_changes_7 ?_
    refine WA.ret (some (Vi _)) ⟨d_X6_changes_8, rfl, Or.inl rfl⟩ ?_
    rw [if_pos g1] at hQ
    exact hQ σ FrI.rf h
set_option maxHeartbeats 4000000 in
theorem sp_X6_numberFor {x y z : Int} (h : RepM C σ) (hx : i32 x) (hy : i32 y) (hzz : i32 z) (hdp : 40 ≤ d) (hQ : ∀ σ', FrI 625 652 σ σ' → RepM C σ' → Q (some (Vi (numF x y z C))) σ') : WA G d k n mX6_numberFor 0 [Va 625, Vi x, Vi y, Vi z, Vu] [] σ Q := by
  have hS := h.1
  unfold numF at hQ
  have k625 := hS.k625
  have r0 := hS.r0
  have k626 := hS.k626
  have r1 := hS.r1
  have k627 := hS.k627
  have r31 := hS.r31
  have k650 := hS.k650
  refine ar_iload_n 1 rfl d_X6_numberFor_0 rfl ?_
  refine ar_callS0 (M' := mX6_isShelf) (As := [_]) (ls' := [Vi _]) 4 rfl d_X6_numberFor_1 ml_X6_228 mt_X6_isShelf rfl (Nat.le_of_ble_eq_true rfl) rfl (Nat.le_of_ble_eq_true rfl) (by omega) ?_
  refine sp_X6_isShelf hx (by omega) (fun g1 => ?_) (fun g1 => ?_)
  · refine ar_if_eq 14 7 rfl rfl d_X6_numberFor_4 (by omega) (fun h => absurd h (by decide)) (fun g4 => ?_)
    refine ar_iload_n 8 rfl d_X6_numberFor_7 rfl ?_
    refine ar_callS0 (M' := mX6_isLoaf) (As := [_]) (ls' := [Vi _]) 11 rfl d_X6_numberFor_8 ml_X6_234 mt_X6_isLoaf rfl (Nat.le_of_ble_eq_true rfl) rfl (Nat.le_of_ble_eq_true rfl) (by omega) ?_
    refine sp_X6_isLoaf hy (by omega) (fun g8 => ?_) (fun g8 => ?_)
    · refine ar_if_ne 16 14 rfl rfl d_X6_numberFor_11 (by omega) (fun g11 => ?_) (fun h => absurd h (by decide))
      refine ar_iload_n 17 rfl d_X6_numberFor_16 rfl ?_
      refine ar_i2l 18 rfl d_X6_numberFor_17 (by omega) ?_
      refine ar_lconst 0 19 rfl d_X6_numberFor_18 rfl ?_
      refine ar_ldc2 100 22 rfl d_X6_numberFor_19 lc_X6_260 rfl ?_
      refine ar_callS0 (M' := mX6_in) (As := [_, _, _]) (ls' := [Vl _, Vu, Vl _, Vu, Vl _, Vu]) 25 rfl d_X6_numberFor_22 ml_X6_91 mt_X6_in rfl (Nat.le_of_ble_eq_true rfl) rfl (Nat.le_of_ble_eq_true rfl) (by omega) ?_
      refine sp_X6_in (by constructor <;> omega) (by constructor <;> omega) (by constructor <;> omega) (fun g2 => ?_) (fun g2 => ?_)
      · refine ar_if_ne 31 28 rfl rfl d_X6_numberFor_25 (by omega) (fun g25 => ?_) (fun h => absurd h (by decide))
        rw [if_neg (fun h => h ⟨g1, g8⟩), if_neg (fun h => h (by omega))] at hQ
        obtain ⟨p, rfl⟩ : ∃ p : Nat, x = (p : Int) := ⟨x.toNat, by omega⟩
        obtain ⟨l, rfl⟩ : ∃ l : Nat, y = (l : Int) := ⟨y.toNat, by omega⟩
        have hp : p < 12 := by omega
        have hl : l < 6 := by omega
        rw [Int.toNat_natCast, Int.toNat_natCast] at hQ
        refine ar_aload_n 32 rfl d_X6_numberFor_31 rfl ?_
        refine ar_getA 35 rfl d_X6_numberFor_32 fl_X6_7 rfl (by assumption) (by assumption) ?_
        refine ar_iconst 36 rfl d_X6_numberFor_35 ?_
        refine ar_top (y := ((0 : Nat) : Int)) rfl ?_
        refine ar_aload_n 37 rfl d_X6_numberFor_36 rfl ?_
        refine ar_getA 40 rfl d_X6_numberFor_37 fl_X6_13 rfl (by assumption) (by assumption) ?_
        refine ar_iconst 41 rfl d_X6_numberFor_40 ?_
        refine ar_top (y := ((0 : Nat) : Int)) rfl ?_
        refine ar_callS0 (M' := mX6_copyState) (As := [_, _, _, _]) (ls' := [Vr _, Vi _, Vr _, Vi _, Vu]) 44 rfl d_X6_numberFor_41 ml_X6_219 mt_X6_copyState rfl (Nat.le_of_ble_eq_true rfl) rfl (Nat.le_of_ble_eq_true rfl) (by omega) ?_
        refine sp_X6_copyState (sp := 0) (dp := 0) k626 k627 (by omega) (by omega) (by omega) (by omega) ?_
        have hg : ∀ j, j < 1496 → hI (cI σ 626 0 627 0 1496) 627 j = hI σ 626 j := fun j hj => by
          rw [hI_c, if_pos (by omega)]
          exact congrArg _ (by omega)
        have hgo : ∀ b, b ≠ 627 → hI (cI σ 626 0 627 0 1496) b = hI σ b := fun b hb => by
          funext j
          rw [hI_c, if_neg (fun h => hb h.1)]
        have hg2 : (cI σ 626 0 627 0 1496).2 = σ.2 := rfl
        have hfi1 : FrI 625 652 σ (cI σ 626 0 627 0 1496) := FrI.c (by omega) (by omega)
        generalize cI σ 626 0 627 0 1496 = σ1 at hg hgo hg2 hfi1
        have h1 : RepM C σ1 := h.go hg2 (fun b a1 a2 => hgo b (by omega)) (by rw [hgo _ (by omega)]) (by rw [hgo _ (by omega)]) (hgo _ (by omega))
        have ht1 : RsW (hI σ1 627) C.1 := RsW.cg h.2.1 hg
        have hS1 := h1.1
        have loop : ∀ r i : Nat, ∀ (σi : Sg) (g : Nat → Int), 100 - i = r → i ≤ 100 → RepM C σi → RsW (hI σi 627) (g, C.1.2) → (∀ v, uf g (2 + p) v = uf C.1.1 (2 + p) v) → FrI 625 652 σ σi → (∀ σ', FrI 625 652 σ σ' → RepM C σ' → Q (some (Vi (nfG (fun v => vF (uf C.1.1 (2 + p) (v : Int), C.1.2) l == z) (100 - i) i))) σ') → WA G d k n mX6_numberFor 47 [Va 625, Vi (p : Int), Vi (l : Int), Vi z, Vi (i : Int)] [] σi Q := by
          intro r
          induction r using Nat.strongRecOn with
          | ind r ih =>
          intro i σi g hr hi hRi hti hgg hfi hQi
          have hSi := hRi.1
          have k625 := hSi.k625
          have r0 := hSi.r0
          have k626 := hSi.k626
          have r1 := hSi.r1
          have k627 := hSi.k627
          have r31 := hSi.r31
          have k650 := hSi.k650
          refine ar_iload 49 rfl d_X6_numberFor_47 rfl ?_
          refine ar_bipush 51 rfl d_X6_numberFor_49 rfl ?_
          refine ar_icmp_gt 91 54 rfl rfl d_X6_numberFor_51 (by omega) (by omega) (fun g51 => ?_) (fun g51 => ?_)
          · refine ar_bipush 93 rfl d_X6_numberFor_91 rfl ?_
            refine WA.ret (some (Vi _)) ⟨d_X6_numberFor_93, rfl, Or.inl rfl⟩ ?_
            have hi6 : i = 100 := by omega
            subst hi6
            exact hQi σi hfi hRi
          · have hi1 : i < 100 := by omega
            rw [show 100 - i = (100 - (i + 1)) + 1 by omega, nfG] at hQi
            refine ar_aload_n 55 rfl d_X6_numberFor_54 rfl ?_
            refine ar_getA 58 rfl d_X6_numberFor_55 fl_X6_13 rfl (by assumption) (by assumption) ?_
            refine ar_iconst 59 rfl d_X6_numberFor_58 ?_
            refine ar_iload_n 60 rfl d_X6_numberFor_59 rfl ?_
            refine ar_iadd 61 rfl d_X6_numberFor_60 ?_
            refine ar_top (y := ((2 + p : Nat) : Int)) (by omega) ?_
            refine ar_iload 63 rfl d_X6_numberFor_61 rfl ?_
            refine ar_iasN (2 + p) 64 rfl d_X6_numberFor_63 (by assumption) (by omega) (by omega) ?_
            have h2 : RepM C (wI σi 627 (2 + p) (i : Int)) := hRi.tri
            have ht2 : RsW (hI (wI σi 627 (2 + p) (i : Int)) 627) (uf C.1.1 (2 + p) (i : Int), C.1.2) := by
              rw [hI_row, ← hgg]
              exact hti.num hp (by omega)
            have hfi2 : FrI 625 652 σ (wI σi 627 (2 + p) (i : Int)) := hfi.tr (FrI.w (by omega) (by omega))
            generalize wI σi 627 (2 + p) (i : Int) = σ2 at h2 ht2 hfi2
            have hS2 := h2.1
            have k625 := hS2.k625
            have r0 := hS2.r0
            have k626 := hS2.k626
            have r1 := hS2.r1
            have k627 := hS2.k627
            have r31 := hS2.r31
            have k650 := hS2.k650
            refine ar_aload_n 65 rfl d_X6_numberFor_64 rfl ?_
            refine ar_aload_n 66 rfl d_X6_numberFor_65 rfl ?_
            refine ar_getA 69 rfl d_X6_numberFor_66 fl_X6_13 rfl (by assumption) (by assumption) ?_
            refine ar_callV0 (M' := mX6_reckonAll) (As := [_]) (ls' := [Va _, Vr _, Vu]) 72 rfl d_X6_numberFor_69 ml_X6_254 mt_X6_reckonAll (by assumption) rfl (Nat.le_of_ble_eq_true rfl) rfl (Nat.le_of_ble_eq_true rfl) (by omega) ?_
            refine sp_X6_reckonAll (Or.inr rfl) ht2.2.1 ht2.2.2 hS2 ht2.1 (by omega) (fun σ4 e1 e2 e3 => ?_)
            have f4 : FrR σ2 σ4 := ⟨e1, e2⟩
            have h4 := h2.fr f4
            have ht4 : RsW (hI σ4 627) (uf C.1.1 (2 + p) (i : Int), C.1.2) := by rw [f4.2 627 (by omega) (by omega) (by omega) (by omega)]; exact ht2
            have hv4 := (e3 l hl).1
            have hv2 := (fr_bd ht2.2.1 l hl).1
            have hS4 := h4.1
            have k625 := hS4.k625
            have r0 := hS4.r0
            have k626 := hS4.k626
            have r1 := hS4.r1
            have k627 := hS4.k627
            have r31 := hS4.r31
            have k650 := hS4.k650
            refine ar_aload_n 73 rfl d_X6_numberFor_72 rfl ?_
            refine ar_getA 76 rfl d_X6_numberFor_73 fl_X6_83 rfl (by assumption) (by assumption) ?_
            refine ar_iload_n 77 rfl d_X6_numberFor_76 rfl ?_
            refine ar_ilv (y := (vF (uf C.1.1 (2 + p) (i : Int), C.1.2) l)) 78 rfl d_X6_numberFor_77 (by assumption) (by omega) (by rw [Int.toNat_natCast]; exact hv4) ?_
            refine ar_iload_n 79 rfl d_X6_numberFor_78 rfl ?_
            refine ar_icmp_ne 85 82 rfl rfl d_X6_numberFor_79 (by omega) (by omega) (fun g79 => ?_) (fun g79 => ?_)
            · refine ar_inc_4 (y := ((i + 1 : Nat) : Int)) 88 rfl d_X6_numberFor_85 rfl (by intro _ h; cases h) (by omega) ?_
              refine ar_goto 47 rfl d_X6_numberFor_88 ?_
              rw [if_neg (by simp [g79])] at hQi
              exact ih (100 - (i + 1)) (by omega) (i + 1) σ4 _ rfl (by omega) h4 ht4 (fun v => uf_uf _ _ _ _) (hfi2.tr f4.fi) hQi
            · refine ar_iload 84 rfl d_X6_numberFor_82 rfl ?_
              refine WA.ret (some (Vi _)) ⟨d_X6_numberFor_84, rfl, Or.inl rfl⟩ ?_
              rw [if_pos (by simp [g79])] at hQi
              exact hQi σ4 (hfi2.tr f4.fi) h4
        refine ar_iconst 45 rfl d_X6_numberFor_44 ?_
        refine ar_ist_4 47 rfl d_X6_numberFor_45 rfl (by intro _ h; cases h) ?_
        exact loop 100 0 σ1 C.1.1 rfl (by omega) h1 ht1 (fun _ => rfl) hfi1 hQ
      · refine ar_if_ne 31 28 rfl rfl d_X6_numberFor_25 (by omega) (fun h => absurd h (by decide)) (fun g25 => ?_)
        refine ar_bipush 30 rfl d_X6_numberFor_28 rfl ?_
        refine WA.ret (some (Vi _)) ⟨d_X6_numberFor_30, rfl, Or.inl rfl⟩ ?_
        rw [if_neg (fun h => h ⟨g1, g8⟩), if_pos (by omega)] at hQ
        exact hQ σ FrI.rf h
    · refine ar_if_ne 16 14 rfl rfl d_X6_numberFor_11 (by omega) (fun h => absurd h (by decide)) (fun g11 => ?_)
      refine ar_iconst 15 rfl d_X6_numberFor_14 ?_
      refine WA.ret (some (Vi _)) ⟨d_X6_numberFor_15, rfl, Or.inl rfl⟩ ?_
      rw [if_pos (fun h => g8 h.2)] at hQ
      exact hQ σ FrI.rf h
  · refine ar_if_eq 14 7 rfl rfl d_X6_numberFor_4 (by omega) (fun g4 => ?_) (fun h => absurd h (by decide))
    refine ar_iconst 15 rfl d_X6_numberFor_14 ?_
    refine WA.ret (some (Vi _)) ⟨d_X6_numberFor_15, rfl, Or.inl rfl⟩ ?_
    rw [if_pos (fun h => g1 h.1)] at hQ
    exact hQ σ FrI.rf h
theorem sp_X6_stepsFor {x : Int} (h : RepM C σ) (hx : i32 x) (hz : C.1.1 815 + 1889568 ≤ 2147483647) (hdp : 40 ≤ d) (hQ : ∀ σ', FrI 625 652 σ σ' → RepM C σ' → Q (some (Vi (steF x C))) σ') : WA G d k n mX6_stepsFor 0 [Va 625, Vi x] [] σ Q := by
  have hS := h.1
  unfold steF at hQ
  have k625 := hS.k625
  have r0 := hS.r0
  have k626 := hS.k626
  have r1 := hS.r1
  have k627 := hS.k627
  refine ar_iload_n 1 rfl d_X6_stepsFor_0 rfl ?_
  refine ar_callS0 (M' := mX6_isLoaf) (As := [_]) (ls' := [Vi _]) 4 rfl d_X6_stepsFor_1 ml_X6_234 mt_X6_isLoaf rfl (Nat.le_of_ble_eq_true rfl) rfl (Nat.le_of_ble_eq_true rfl) (by omega) ?_
  refine sp_X6_isLoaf hx (by omega) (fun g1 => ?_) (fun g1 => ?_)
  · refine ar_if_ne 9 7 rfl rfl d_X6_stepsFor_4 (by omega) (fun g4 => ?_) (fun h => absurd h (by decide))
    rw [if_neg (fun h => h g1)] at hQ
    obtain ⟨l, rfl⟩ : ∃ l : Nat, x = (l : Int) := ⟨x.toNat, by omega⟩
    have hl : l < 6 := by omega
    refine ar_aload_n 10 rfl d_X6_stepsFor_9 rfl ?_
    refine ar_getA 13 rfl d_X6_stepsFor_10 fl_X6_7 rfl (by assumption) (by assumption) ?_
    refine ar_iconst 14 rfl d_X6_stepsFor_13 ?_
    refine ar_top (y := ((0 : Nat) : Int)) rfl ?_
    refine ar_aload_n 15 rfl d_X6_stepsFor_14 rfl ?_
    refine ar_getA 18 rfl d_X6_stepsFor_15 fl_X6_13 rfl (by assumption) (by assumption) ?_
    refine ar_iconst 19 rfl d_X6_stepsFor_18 ?_
    refine ar_top (y := ((0 : Nat) : Int)) rfl ?_
    refine ar_callS0 (M' := mX6_copyState) (As := [_, _, _, _]) (ls' := [Vr _, Vi _, Vr _, Vi _, Vu]) 22 rfl d_X6_stepsFor_19 ml_X6_219 mt_X6_copyState rfl (Nat.le_of_ble_eq_true rfl) rfl (Nat.le_of_ble_eq_true rfl) (by omega) ?_
    refine sp_X6_copyState (sp := 0) (dp := 0) k626 k627 (by omega) (by omega) (by omega) (by omega) ?_
    have hg : ∀ j, j < 1496 → hI (cI σ 626 0 627 0 1496) 627 j = hI σ 626 j := fun j hj => by
      rw [hI_c, if_pos (by omega)]
      exact congrArg _ (by omega)
    have hgo : ∀ b, b ≠ 627 → hI (cI σ 626 0 627 0 1496) b = hI σ b := fun b hb => by
      funext j
      rw [hI_c, if_neg (fun h => hb h.1)]
    have hg2 : (cI σ 626 0 627 0 1496).2 = σ.2 := rfl
    have hfi1 : FrI 625 652 σ (cI σ 626 0 627 0 1496) := FrI.c (by omega) (by omega)
    generalize cI σ 626 0 627 0 1496 = σ1 at hg hgo hg2 hfi1
    have h1 : RepM C σ1 := h.go hg2 (fun b a1 a2 => hgo b (by omega)) (by rw [hgo _ (by omega)]) (by rw [hgo _ (by omega)]) (hgo _ (by omega))
    have ht1 : RsW (hI σ1 627) C.1 := RsW.cg h.2.1 hg
    have hS1 := h1.1
    have k625 := hS1.k625
    have r0 := hS1.r0
    have k626 := hS1.k626
    have r1 := hS1.r1
    have k627 := hS1.k627
    refine ar_aload_n 23 rfl d_X6_stepsFor_22 rfl ?_
    refine ar_aload_n 24 rfl d_X6_stepsFor_23 rfl ?_
    refine ar_getA 27 rfl d_X6_stepsFor_24 fl_X6_13 rfl (by assumption) (by assumption) ?_
    refine ar_iload_n 28 rfl d_X6_stepsFor_27 rfl ?_
    refine ar_callV0 (M' := mX6_askOn) (As := [_, _]) (ls' := [Va _, Vr _, Vi _, Vu, Vu, Vu]) 31 rfl d_X6_stepsFor_28 ml_X6_237 mt_X6_askOn (by assumption) rfl (Nat.le_of_ble_eq_true rfl) rfl (Nat.le_of_ble_eq_true rfl) (by omega) ?_
    refine sp_X6_askOn (Or.inr rfl) hS1 ht1.1 ht1.2.1 ht1.2.2 hl hz (by omega) (fun σ2 f2 hr2 => ?_)
    have h2 : RepM C σ2 := h1.go f2.1 (fun b a1 a2 => f2.2.1 b (by omega) (by omega) (by omega) (by omega)) (f2.2.2.1 3 (by omega) (by omega)) (f2.2.2.1 7 (by omega) (by omega)) (f2.2.1 626 (by omega) (by omega) (by omega) (by omega))
    have hv1 := hr2.2.2.1 812 (by omega) (by omega)
    have hv2 := h2.2.1.1.2.2.1 812 (by omega) (by omega)
    have hS2 := h2.1
    have k625 := hS2.k625
    have r0 := hS2.r0
    have k626 := hS2.k626
    have r1 := hS2.r1
    have k627 := hS2.k627
    refine ar_pop 32 rfl d_X6_stepsFor_31 (fun _ => rfl) ?_
    refine ar_aload_n 33 rfl d_X6_stepsFor_32 rfl ?_
    refine ar_getA 36 rfl d_X6_stepsFor_33 fl_X6_13 rfl (by assumption) (by assumption) ?_
    refine ar_sipush 39 rfl d_X6_stepsFor_36 rfl ?_
    refine ar_ilv (y := ((askF 6 (l : Int) C.1).1.1 812)) 40 rfl d_X6_stepsFor_39 (by assumption) (by omega) hv1 ?_
    refine ar_aload_n 41 rfl d_X6_stepsFor_40 rfl ?_
    refine ar_getA 44 rfl d_X6_stepsFor_41 fl_X6_7 rfl (by assumption) (by assumption) ?_
    refine ar_sipush 47 rfl d_X6_stepsFor_44 rfl ?_
    refine ar_ilv (y := (C.1.1 812)) 48 rfl d_X6_stepsFor_47 (by assumption) (by omega) hv2 ?_
    refine ar_isub 49 rfl d_X6_stepsFor_48 ?_
    refine WA.ret (some (Vi _)) ⟨d_X6_stepsFor_49, rfl, Or.inl rfl⟩ ?_
    exact hQ σ2 (hfi1.tr (f2.fi (Or.inr rfl))) h2
  · refine ar_if_ne 9 7 rfl rfl d_X6_stepsFor_4 (by omega) (fun h => absurd h (by decide)) (fun g4 => ?_)
    refine ar_iconst 8 rfl d_X6_stepsFor_7 ?_
    refine WA.ret (some (Vi _)) ⟨d_X6_stepsFor_8, rfl, Or.inl rfl⟩ ?_
    rw [if_pos g1] at hQ
    exact hQ σ FrI.rf h
end REF10
