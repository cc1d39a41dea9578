-- ===== the class's what-ifs =====
def freF (x : Int) (C : CS) : Int := if ¬ (0 ≤ x ∧ x < 6) then -1 else vF C.1 x.toNat
def fitQ (x : Int) (C : CS) : Int := if ¬ (0 ≤ x ∧ x < 6) then -1 else match fitP C.1 x.toNat with
  | some p => (p : Int)
  | none => -6
def losF (x : Int) (C : CS) : Int := if ¬ (0 ≤ x ∧ x < 6) then -1 else ((sF C.1 x.toNat : Nat) : Int)
def chaF (x y : Int) (C : CS) : Int := if ¬ (0 ≤ x ∧ x < 12) then -1 else if ¬ (0 ≤ y ∧ y < 100) then -2 else ((lset (fun l => decide (vF C.1 l ≠ vF (uf C.1.1 (2 + x.toNat) y, C.1.2) l)) 6 : Nat) : Int)
def nfG (p : Nat → Bool) : Nat → Nat → Int
  | 0, _ => -6
  | u + 1, i => if p i = true then (i : Int) else nfG p u (i + 1)
def numF (x l r : Int) (C : CS) : Int := if ¬ ((0 ≤ x ∧ x < 12) ∧ (0 ≤ l ∧ l < 6)) then -1 else if ¬ ((0 ≤ r ∧ r < 100) ∨ r = 100) then -2 else nfG (fun v => vF (uf C.1.1 (2 + x.toNat) (v : Int), C.1.2) l.toNat == r) 100 0
def steF (x : Int) (C : CS) : Int := if ¬ (0 ≤ x ∧ x < 6) then -1 else (askF 6 x C.1).1.1 812 - C.1.1 812
theorem ShR.kp {P : Nat → Prop} {σ σ' : Sg} (h : ShR σ) (hk : Kp P σ σ') (h1 : P 156) : ShR σ' := by
  obtain ⟨q1, q2, q3, q4, q5, q6, q7, q8, q9⟩ := h
  refine ⟨?_, ?_, ?_, ?_, ?_, ?_, ?_, ?_, ?_⟩
  iterate 5 (rw [hk.1]; assumption)
  iterate 4 (rw [(hk.2.2 156 h1).2]; assumption)
theorem RepC.z {Φ : Sg} {E : Nat → Nat} {C : CS} {σ σ' : Sg} (h : RepC Φ E C σ) (hB : ShB σ') (hz : FrZ σ σ') : RepC Φ E C σ' := by
  have hr6 := oS_r (h.2.1.1 6 (by omega))
  have hk : Kp (fun b => b < 121 ∨ 156 ≤ b) σ σ' := hz
  exact h.upd ⟨hz.1, hz.2.1, fun b hb => hz.2.2 b (by omega)⟩ hB (h.1.2.2.1.kp hk (by omega)) (h.2.2.2.1.1.kp hk (fun b hb => by omega) hr6.1.2 h.1.2.2.2) h.2.2.2.1.2 (h.2.2.1.2.1.kp hk (fun b hb => by omega)) (h.2.2.1.2.2.kp hk (by omega))
theorem RepC.trl {Φ : Sg} {E : Nat → Nat} {C : CS} {σ σ' : Sg} (h : RepC Φ E C σ) (hf : FrS 63 σ σ') (h63 : ShS σ' 63) (hp63 : PRm σ' 63) : RepC Φ E C σ' := by
  have hr6 := oS_r (h.2.1.1 6 (by omega))
  have hk : Kp (fun b => b < 63 ∨ 63 + 58 ≤ b) σ σ' := hf
  exact h.upd ⟨hf.1, hf.2.1, fun b hb => hf.2.2 b (by omega)⟩ (h.1.2.1.fr hf.1 (fun a _ _ _ => (hf.2.2 a (by omega)).2) (fun j _ => by rw [(hf.2.2 121 (by omega)).2])) (h.1.2.2.1.kp hk (by omega)) (h.2.2.2.1.1.kp hk (fun b hb => by omega) hr6.1.2 h.1.2.2.2) h.2.2.2.1.2 h63 hp63
theorem uf_uf (f : Nat → Int) (i : Nat) (a b : Int) : uf (uf f i a) i b = uf f i b := by
  funext j
  unfold uf
  split <;> rfl
section WHATIF
variable {G : GT} {d k n : Nat} {σ : Sg} {Q : Option AV → Sg → Prop} {Φ : Sg} {E : Nat → Nat} {C : CS}
theorem sp_X5_fresh {x : Int} (h : RepC Φ E C σ) (hx : i32 x) (hdp : 40 ≤ d) (hQ : ∀ σ', sn σ' = sn σ → RepC Φ E C σ' → Q (some (Vi (freF x C))) σ') : WA G d k n mX5_fresh 0 [Va 0, Vi x] [] σ Q := by
  have hk0 := h.1.1.1
  have hr2 : hR σ 0 2 = some (oS (E 6)) := h.2.1.2.2.1
  have hr6 := oS_r (h.2.1.1 6 (by omega))
  have hw := h.2.2.2.1.2
  have hst := h.2.2.2.1.1
  have hks := hst.1.1
  have h121 := h.1.2.1.1
  have hr8 : hR σ 0 8 = some 121 := h.1.1.2.2.2.2.2.2.2.2.2.2.1
  have hr7 : hR σ 0 7 = some 63 := h.1.1.2.2.2.2.2.2.2.2.2.1
  unfold freF at hQ
  refine ar_iload_n 1 rfl d_X5_fresh_0 rfl ?_
  refine ar_callS0 (M' := mX5_isLoaf) (As := [_]) (ls' := [Vi _]) 4 rfl d_X5_fresh_1 ml_X5_79 mt_X5_isLoaf rfl (Nat.le_of_ble_eq_true rfl) rfl (Nat.le_of_ble_eq_true rfl) (by omega) ?_
  refine sp_X5_isLoaf hx (fun g1 => ?_) (fun g1 => ?_)
  · rw [if_neg (fun h => h g1)] at hQ
    obtain ⟨l, rfl⟩ : ∃ l : Nat, x = (l : Int) := ⟨x.toNat, by omega⟩
    have hl : l < 6 := by omega
    rw [Int.toNat_natCast] at hQ
    refine ar_if_eq 22 7 rfl rfl d_X5_fresh_4 (by omega) (fun h => absurd h (by decide)) (fun g4 => ?_)
    refine ar_aload_n 8 rfl d_X5_fresh_7 rfl ?_
    refine ar_getA 11 rfl d_X5_fresh_8 fl_X5_37 rfl (by assumption) (by assumption) ?_
    refine ar_aload_n 12 rfl d_X5_fresh_11 rfl ?_
    refine ar_getA 15 rfl d_X5_fresh_12 fl_X5_16 rfl (by assumption) (by assumption) ?_
    refine ar_iload_n 16 rfl d_X5_fresh_15 rfl ?_
    refine ar_callV0 (M' := mX0_freshResult) (As := [_, _]) (ls' := [Va _, Vr _, Vi _]) 19 rfl d_X5_fresh_16 ml_X5_185 mt_X0_freshResult h121 rfl (Nat.le_of_ble_eq_true rfl) rfl (Nat.le_of_ble_eq_true rfl) (by omega) ?_
    refine sp_X0_freshResult hr6.1 h.1.2.1 hst hw h.1.2.2.2 hl (by omega) (fun σ1 hB1 hz1 => ?_)
    refine ar_goto 23 rfl d_X5_fresh_19 ?_
    refine WA.ret (some (Vi _)) ⟨d_X5_fresh_23, rfl, Or.inl rfl⟩ ?_
    exact hQ σ1 hz1.2.1 (h.z hB1 hz1)
  · refine ar_if_eq 22 7 rfl rfl d_X5_fresh_4 (by omega) (fun g4 => ?_) (fun h => absurd h (by decide))
    refine ar_iconst 23 rfl d_X5_fresh_22 ?_
    refine WA.ret (some (Vi _)) ⟨d_X5_fresh_23, rfl, Or.inl rfl⟩ ?_
    rw [if_pos g1] at hQ
    exact hQ σ rfl h
theorem sp_X5_looksAt {x : Int} (h : RepC Φ E C σ) (hx : i32 x) (hdp : 40 ≤ d) (hQ : ∀ σ', sn σ' = sn σ → RepC Φ E C σ' → Q (some (Vi (losF x C))) σ') : WA G d k n mX5_looksAt 0 [Va 0, Vi x] [] σ Q := by
  have hk0 := h.1.1.1
  have hr2 : hR σ 0 2 = some (oS (E 6)) := h.2.1.2.2.1
  have hr6 := oS_r (h.2.1.1 6 (by omega))
  have hw := h.2.2.2.1.2
  have hst := h.2.2.2.1.1
  have hks := hst.1.1
  have h121 := h.1.2.1.1
  have hr8 : hR σ 0 8 = some 121 := h.1.1.2.2.2.2.2.2.2.2.2.2.1
  have hr7 : hR σ 0 7 = some 63 := h.1.1.2.2.2.2.2.2.2.2.2.1
  unfold losF at hQ
  refine ar_iload_n 1 rfl d_X5_looksAt_0 rfl ?_
  refine ar_callS0 (M' := mX5_isLoaf) (As := [_]) (ls' := [Vi _]) 4 rfl d_X5_looksAt_1 ml_X5_79 mt_X5_isLoaf rfl (Nat.le_of_ble_eq_true rfl) rfl (Nat.le_of_ble_eq_true rfl) (by omega) ?_
  refine sp_X5_isLoaf hx (fun g1 => ?_) (fun g1 => ?_)
  · rw [if_neg (fun h => h g1)] at hQ
    obtain ⟨l, rfl⟩ : ∃ l : Nat, x = (l : Int) := ⟨x.toNat, by omega⟩
    have hl : l < 6 := by omega
    rw [Int.toNat_natCast] at hQ
    refine ar_if_eq 22 7 rfl rfl d_X5_looksAt_4 (by omega) (fun h => absurd h (by decide)) (fun g4 => ?_)
    refine ar_aload_n 8 rfl d_X5_looksAt_7 rfl ?_
    refine ar_getA 11 rfl d_X5_looksAt_8 fl_X5_37 rfl (by assumption) (by assumption) ?_
    refine ar_aload_n 12 rfl d_X5_looksAt_11 rfl ?_
    refine ar_getA 15 rfl d_X5_looksAt_12 fl_X5_16 rfl (by assumption) (by assumption) ?_
    refine ar_iload_n 16 rfl d_X5_looksAt_15 rfl ?_
    refine ar_callV0 (M' := mX0_shelvesOfFresh) (As := [_, _]) (ls' := [Va _, Vr _, Vi _]) 19 rfl d_X5_looksAt_16 ml_X5_192 mt_X0_shelvesOfFresh h121 rfl (Nat.le_of_ble_eq_true rfl) rfl (Nat.le_of_ble_eq_true rfl) (by omega) ?_
    refine sp_X0_shelvesOfFresh hr6.1 h.1.2.1 hst hw h.1.2.2.2 hl (by omega) (fun σ1 hB1 hz1 => ?_)
    refine ar_goto 23 rfl d_X5_looksAt_19 ?_
    refine WA.ret (some (Vi _)) ⟨d_X5_looksAt_23, rfl, Or.inl rfl⟩ ?_
    exact hQ σ1 hz1.2.1 (h.z hB1 hz1)
  · refine ar_if_eq 22 7 rfl rfl d_X5_looksAt_4 (by omega) (fun g4 => ?_) (fun h => absurd h (by decide))
    refine ar_iconst 23 rfl d_X5_looksAt_22 ?_
    refine WA.ret (some (Vi _)) ⟨d_X5_looksAt_23, rfl, Or.inl rfl⟩ ?_
    rw [if_pos g1] at hQ
    exact hQ σ rfl h
set_option maxHeartbeats 4000000 in
theorem sp_X5_fits {x : Int} (h : RepC Φ E C σ) (hx : i32 x) (_ : C.1.1 815 ≤ 2147483647) (hdp : 40 ≤ d) (hQ : ∀ σ', sn σ' = sn σ → RepC Φ E C σ' → Q (some (Vi (fitQ x C))) σ') : WA G d k n mX5_fits 0 [Va 0, Vi x, Vu, Vu] [] σ Q := by
  have hk0 := h.1.1.1
  have hr2 : hR σ 0 2 = some (oS (E 6)) := h.2.1.2.2.1
  have hr6 := oS_r (h.2.1.1 6 (by omega))
  have hw := h.2.2.2.1.2
  have hst := h.2.2.2.1.1
  have hks := hst.1.1
  have h121 := h.1.2.1.1
  have hr8 : hR σ 0 8 = some 121 := h.1.1.2.2.2.2.2.2.2.2.2.2.1
  have hr7 : hR σ 0 7 = some 63 := h.1.1.2.2.2.2.2.2.2.2.2.1
  unfold fitQ at hQ
  refine ar_iload_n 1 rfl d_X5_fits_0 rfl ?_
  refine ar_callS0 (M' := mX5_isLoaf) (As := [_]) (ls' := [Vi _]) 4 rfl d_X5_fits_1 ml_X5_79 mt_X5_isLoaf rfl (Nat.le_of_ble_eq_true rfl) rfl (Nat.le_of_ble_eq_true rfl) (by omega) ?_
  refine sp_X5_isLoaf hx (fun g1 => ?_) (fun g1 => ?_)
  · rw [if_neg (fun h => h g1)] at hQ
    obtain ⟨l, rfl⟩ : ∃ l : Nat, x = (l : Int) := ⟨x.toNat, by omega⟩
    have hl : l < 6 := by omega
    rw [Int.toNat_natCast] at hQ
    have loop : ∀ (r i : Nat) (σi : Sg) (x3 : AV), C.1.2.1.length - i = r → i ≤ C.1.2.1.length → RepC Φ E C σi → sn σi = sn σ → (∀ j M, j < i → C.1.2.1[j]? = some M → (isOf (l : Int) M && alF C.1 (mLk M)) = false) → WA G d k n mX5_fits 11 [Va 0, Vi (l : Int), Vi (i : Int), x3] [] σi Q := by
      intro r
      induction r using Nat.strongRecOn with
      | ind r ih =>
      intro i σi x3 hr9 hi hRi hni hj
      have hk0 := hRi.1.1.1
      have hr2 : hR σi 0 2 = some (oS (E 6)) := hRi.2.1.2.2.1
      have hr8 : hR σi 0 8 = some 121 := hRi.1.1.2.2.2.2.2.2.2.2.2.2.1
      have h121 := hRi.1.2.1.1
      have hsti := hRi.2.2.2.1.1
      obtain ⟨hS, hSf, hSr, hSm⟩ := id hsti
      have hks := hS.1
      have hkm : sk σi (oS (E 6) + 4) = (12, 17) := hS.2.2.2.2.1
      have hrm : hR σi (oS (E 6)) 4 = some (oS (E 6) + 4) := hS.2.2.2.2.2.2.2.2.2.2.1
      have hm5 : hI σi (oS (E 6)) 5 = (C.1.2.1.length : Int) := hSm.2.1
      have hl17 := hSm.1
      have next : ∀ (σ2 : Sg) (y3 : AV) (M : Mem), RepC Φ E C σ2 → sn σ2 = sn σ → C.1.2.1[i]? = some M → (isOf (l : Int) M && alF C.1 (mLk M)) = false → WA G d k n mX5_fits 57 [Va 0, Vi (l : Int), Vi (i : Int), y3] [] σ2 Q := by
        intro σ2 y3 M hR2 hn2 hM hno
        have hlt := (List.getElem?_eq_some_iff.mp hM).1
        refine ar_inc_2 (y := ((i + 1 : Nat) : Int)) 60 rfl d_X5_fits_57 rfl (by intro _ h; cases h) (by omega) ?_
        refine ar_goto 11 rfl d_X5_fits_60 ?_
        exact ih (C.1.2.1.length - (i + 1)) (by omega) (i + 1) σ2 y3 rfl (by omega) hR2 hn2 (fun j M' hj2 hj3 => by
          by_cases e : j = i
          · subst e
            rw [hM] at hj3
            cases hj3
            exact hno
          · exact hj j M' (by omega) hj3)
      refine ar_iload_n 12 rfl d_X5_fits_11 rfl ?_
      refine ar_aload_n 13 rfl d_X5_fits_12 rfl ?_
      refine ar_getA 16 rfl d_X5_fits_13 fl_X5_16 rfl (by assumption) (by assumption) ?_
      refine ar_giv (y := (C.1.2.1.length : Int)) 19 rfl d_X5_fits_16 fl_X5_93 rfl (by assumption) (by assumption) ?_
      refine ar_icmp_ge 63 22 rfl rfl d_X5_fits_19 (by omega) (by omega) (fun g19 => ?_) (fun g19 => ?_)
      · refine ar_bipush 65 rfl d_X5_fits_63 rfl ?_
        refine WA.ret (some (Vi _)) ⟨d_X5_fits_65, rfl, Or.inl rfl⟩ ?_
        have hno : fitP C.1 l = none := by
          unfold fitP
          rw [List.findIdx?_eq_none_iff]
          intro M hM
          obtain ⟨j, hj2⟩ := List.getElem?_of_mem hM
          exact hj j M (by have := (List.getElem?_eq_some_iff.mp hj2).1; omega) hj2
        rw [hno] at hQ
        exact hQ σi hni hRi
      · have hlt : i < C.1.2.1.length := by omega
        obtain ⟨M, hM⟩ : ∃ M, C.1.2.1[i]? = some M := ⟨_, List.getElem?_eq_getElem hlt⟩
        have hWM := hw.2.2.2.2.2.2.1 M (List.mem_of_getElem? hM)
        have hl1 := hWM.1
        have hl2 := hWM.2.1
        obtain ⟨m, hm, hshm, -, -⟩ := hSm.at hS (show i < 17 by omega)
        have hRM := hSm.2.2.2.2 i M m hM hm
        have hkM := hshm.1
        have hm0 : hI σi m 0 = mLoaf M := hRM.1
        refine ar_aload_n 23 rfl d_X5_fits_22 rfl ?_
        refine ar_getA 26 rfl d_X5_fits_23 fl_X5_16 rfl (by assumption) (by assumption) ?_
        refine ar_getA 29 rfl d_X5_fits_26 fl_X5_145 rfl (by assumption) (by assumption) ?_
        refine ar_iload_n 30 rfl d_X5_fits_29 rfl ?_
        refine ar_aalA 31 rfl d_X5_fits_30 (by assumption) (by omega) (by omega) hm ?_
        refine ar_ast_3 32 rfl d_X5_fits_31 rfl (by intro _ h; cases h) ?_
        refine ar_aload_n 33 rfl d_X5_fits_32 rfl ?_
        refine ar_giv (y := mLoaf M) 36 rfl d_X5_fits_33 fl_X5_149 rfl (by assumption) (by assumption) ?_
        refine ar_iload_n 37 rfl d_X5_fits_36 rfl ?_
        refine ar_icmp_ne 57 40 rfl rfl d_X5_fits_37 (by omega) (by omega) (fun g37 => ?_) (fun g37 => ?_)
        · refine next σi _ M hRi hni hM ?_
          have e9 : isOf (l : Int) M = false := by
            unfold isOf
            simpa using g37
          rw [e9]
          rfl
        · have e9 : isOf (l : Int) M = true := by
            unfold isOf
            simpa using g37
          refine ar_aload_n 41 rfl d_X5_fits_40 rfl ?_
          refine ar_getA 44 rfl d_X5_fits_41 fl_X5_37 rfl (by assumption) (by assumption) ?_
          refine ar_aload_n 45 rfl d_X5_fits_44 rfl ?_
          refine ar_getA 48 rfl d_X5_fits_45 fl_X5_16 rfl (by assumption) (by assumption) ?_
          refine ar_aload_n 49 rfl d_X5_fits_48 rfl ?_
          refine ar_callV0 (M' := mX0_wouldFit) (As := [_, _]) (ls' := [Va _, Vr _, Vr _, Vu]) 52 rfl d_X5_fits_49 ml_X5_188 mt_X0_wouldFit h121 rfl (Nat.le_of_ble_eq_true rfl) rfl (Nat.le_of_ble_eq_true rfl) (by omega) ?_
          refine sp_X0_wouldFit hr6.1 hRi.1.2.1 hsti hw hRi.1.2.2.2 hM hm (by omega) (fun σ1 hB1 hz1 => ?_)
          have hR1 : RepC Φ E C σ1 := hRi.z hB1 hz1
          have hn1 : sn σ1 = sn σ := hz1.2.1.trans hni
          by_cases e8 : alF C.1 (mLk M) = true
          · rw [if_pos e8]
            refine ar_if_eq 57 55 rfl rfl d_X5_fits_52 (by omega) (fun h => absurd h (by decide)) (fun g52 => ?_)
            refine ar_iload_n 56 rfl d_X5_fits_55 rfl ?_
            refine WA.ret (some (Vi _)) ⟨d_X5_fits_56, rfl, Or.inl rfl⟩ ?_
            have hso : fitP C.1 l = some i := by
              unfold fitP
              rw [List.findIdx?_eq_some_iff_getElem]
              refine ⟨hlt, ?_, fun j hj2 => ?_⟩
              · rw [(List.getElem?_eq_some_iff.mp hM).2, e9, e8]
                rfl
              · have h9 := hj j _ hj2 (List.getElem?_eq_getElem (by omega))
                simpa using h9
            rw [hso] at hQ
            exact hQ σ1 hn1 hR1
          · rw [if_neg e8]
            refine ar_if_eq 57 55 rfl rfl d_X5_fits_52 (by omega) (fun g52 => ?_) (fun h => absurd h (by decide))
            refine next σ1 _ M hR1 hn1 hM ?_
            have e7 : alF C.1 (mLk M) = false := by simpa using e8
            rw [e7, Bool.and_false]
    refine ar_if_ne 9 7 rfl rfl d_X5_fits_4 (by omega) (fun g4 => ?_) (fun h => absurd h (by decide))
    refine ar_iconst 10 rfl d_X5_fits_9 ?_
    refine ar_ist_2 11 rfl d_X5_fits_10 rfl (by intro _ h; cases h) ?_
    exact loop _ 0 σ Vu rfl (by omega) h rfl (fun j M h => absurd h (by omega))
  · refine ar_if_ne 9 7 rfl rfl d_X5_fits_4 (by omega) (fun h => absurd h (by decide)) (fun g4 => ?_)
    refine ar_iconst 8 rfl d_X5_fits_7 ?_
    refine WA.ret (some (Vi _)) ⟨d_X5_fits_8, rfl, Or.inl rfl⟩ ?_
    rw [if_pos g1] at hQ
    exact hQ σ rfl h
set_option maxHeartbeats 4000000 in
theorem sp_X5_changes {x y : Int} (h : RepC Φ E C σ) (hx : i32 x) (hy : i32 y) (hdp : 40 ≤ d) (hQ : ∀ σ', sn σ' = sn σ → RepC Φ E C σ' → Q (some (Vi (chaF x y C))) σ') : WA G d k n mX5_changes 0 [Va 0, Vi x, Vi y, Vu, Vu] [] σ Q := by
  have hk0 := h.1.1.1
  have hr2 : hR σ 0 2 = some (oS (E 6)) := h.2.1.2.2.1
  have hr6 := oS_r (h.2.1.1 6 (by omega))
  have hw := h.2.2.2.1.2
  have hst := h.2.2.2.1.1
  have hks := hst.1.1
  have h121 := h.1.2.1.1
  have hr8 : hR σ 0 8 = some 121 := h.1.1.2.2.2.2.2.2.2.2.2.2.1
  have hr7 : hR σ 0 7 = some 63 := h.1.1.2.2.2.2.2.2.2.2.2.1
  unfold chaF at hQ
  refine ar_iload_n 1 rfl d_X5_changes_0 rfl ?_
  refine ar_callS0 (M' := mX5_isShelf) (As := [_]) (ls' := [Vi _]) 4 rfl d_X5_changes_1 ml_X5_61 mt_X5_isShelf rfl (Nat.le_of_ble_eq_true rfl) rfl (Nat.le_of_ble_eq_true rfl) (by omega) ?_
  refine sp_X5_isShelf hx (fun g1 => ?_) (fun g1 => ?_)
  · refine ar_if_ne 9 7 rfl rfl d_X5_changes_4 (by omega) (fun g4 => ?_) (fun h => absurd h (by decide))
    refine ar_iload_n 10 rfl d_X5_changes_9 rfl ?_
    refine ar_callS0 (M' := mX5_isNumber) (As := [_]) (ls' := [Vi _]) 13 rfl d_X5_changes_10 ml_X5_65 mt_X5_isNumber rfl (Nat.le_of_ble_eq_true rfl) rfl (Nat.le_of_ble_eq_true rfl) (by omega) ?_
    refine sp_X5_isNumber hy (fun g10 => ?_) (fun g10 => ?_)
    · refine ar_if_ne 19 16 rfl rfl d_X5_changes_13 (by omega) (fun g13 => ?_) (fun h => absurd h (by decide))
      have h63 := h.2.2.1.2.1
      have hp63 := h.2.2.1.2.2
      have hk63 := h63.1
      rw [if_neg (fun h => h g1), if_neg (fun h => h g10)] at hQ
      obtain ⟨p, rfl⟩ : ∃ p : Nat, x = (p : Int) := ⟨x.toNat, by omega⟩
      have hp : p < 12 := by omega
      rw [Int.toNat_natCast] at hQ
      refine ar_aload_n 20 rfl d_X5_changes_19 rfl ?_
      refine ar_getA 23 rfl d_X5_changes_20 fl_X5_31 rfl (by assumption) (by assumption) ?_
      refine ar_aload_n 24 rfl d_X5_changes_23 rfl ?_
      refine ar_getA 27 rfl d_X5_changes_24 fl_X5_16 rfl (by assumption) (by assumption) ?_
      refine ar_callV0 (M' := mX4_copyFrom) (As := [_]) (ls' := [Va _, Vr _, Vu]) 30 rfl d_X5_changes_27 ml_X5_195 mt_X4_copyFrom (by assumption) rfl (Nat.le_of_ble_eq_true rfl) rfl (Nat.le_of_ble_eq_true rfl) (by omega) ?_
      refine sp_X4_copyFrom h63 hp63 hst (by omega) (by omega) hw.lk18 (by omega) (fun σ1 hf1 hst1 => ?_)
      have h1 : RepC Φ E C σ1 := h.trl hf1 hst1.1 hst1.2.2.2.pr
      have hk0 := h1.1.1.1
      have hr7 : hR σ1 0 7 = some 63 := h1.1.1.2.2.2.2.2.2.2.2.2.1
      have hk63 := hst1.1.1
      have hk64 : sk σ1 64 = (10, 12) := hst1.1.2.1
      have hr63 : hR σ1 63 0 = some 64 := hst1.1.2.2.2.2.2.2.2.1
      refine ar_aload_n 31 rfl d_X5_changes_30 rfl ?_
      refine ar_getA 34 rfl d_X5_changes_31 fl_X5_31 rfl (by assumption) (by assumption) ?_
      refine ar_getA 37 rfl d_X5_changes_34 fl_X5_68 rfl (by assumption) (by assumption) ?_
      refine ar_iload_n 38 rfl d_X5_changes_37 rfl ?_
      refine ar_iload_n 39 rfl d_X5_changes_38 rfl ?_
      refine ar_iasN p 40 rfl d_X5_changes_39 (by assumption) (by omega) (by omega) ?_
      have hfi : FrI 63 (63 + 7) σ1 (wI σ1 64 p y) := FrI.w (by omega) (by omega)
      have hst2 : RSt (wI σ1 64 p y) 63 (uf C.1.1 (2 + p) y, C.1.2) := RSt.int hst1 hfi (by rw [hI_w, if_neg (by omega)]) (hst1.2.1.w (by omega)) rfl (by omega)
      have h2 : RepC Φ E C (wI σ1 64 p y) := h1.trl (FrS.i hfi (by omega) (by omega)) hst2.1 hst2.2.2.2.pr
      have hw2 : WFS (uf C.1.1 (2 + p) y, C.1.2) := hw.num hp g10
      have hn2 : sn (wI σ1 64 p y) = sn σ := hf1.2.1
      generalize wI σ1 64 p y = σ2 at hst2 h2 hn2
      generalize (uf C.1.1 (2 + p) y, C.1.2) = S' at hst2 hw2 hQ
      have loop : ∀ r i : Nat, ∀ σi : Sg, 6 - i = r → i ≤ 6 → RepC Φ E C σi → RSt σi 63 S' → sn σi = sn σ → WA G d k n mX5_changes 45 [Va 0, Vi (p : Int), Vi y, Vi (lset (fun l => decide (vF C.1 l ≠ vF S' l)) i : Int), Vi (i : Int)] [] σi Q := by
        intro r
        induction r using Nat.strongRecOn with
        | ind r ih =>
        intro i σi hr hi hRi hti hni
        have hk0 := hRi.1.1.1
        have hr2 : hR σi 0 2 = some (oS (E 6)) := hRi.2.1.2.2.1
        have h121 := hRi.1.2.1.1
        have hr8 : hR σi 0 8 = some 121 := hRi.1.1.2.2.2.2.2.2.2.2.2.2.1
        refine ar_iload 47 rfl d_X5_changes_45 rfl ?_
        refine ar_bipush 49 rfl d_X5_changes_47 rfl ?_
        refine ar_icmp_ge 94 52 rfl rfl d_X5_changes_49 (by omega) (by omega) (fun g49 => ?_) (fun g49 => ?_)
        · refine ar_iload_n 95 rfl d_X5_changes_94 rfl ?_
          refine WA.ret (some (Vi _)) ⟨d_X5_changes_95, rfl, Or.inl rfl⟩ ?_
          have hi6 : i = 6 := by omega
          subst hi6
          exact hQ σi hni hRi
        · refine ar_aload_n 53 rfl d_X5_changes_52 rfl ?_
          refine ar_getA 56 rfl d_X5_changes_53 fl_X5_37 rfl (by assumption) (by assumption) ?_
          refine ar_aload_n 57 rfl d_X5_changes_56 rfl ?_
          refine ar_getA 60 rfl d_X5_changes_57 fl_X5_16 rfl (by assumption) (by assumption) ?_
          refine ar_iload 62 rfl d_X5_changes_60 rfl ?_
          refine ar_callV0 (M' := mX0_freshResult) (As := [_, _]) (ls' := [Va _, Vr _, Vi _]) 65 rfl d_X5_changes_62 ml_X5_185 mt_X0_freshResult h121 rfl (Nat.le_of_ble_eq_true rfl) rfl (Nat.le_of_ble_eq_true rfl) (by omega) ?_
          have hi6 : i < 6 := by omega
          refine sp_X0_freshResult hr6.1 hRi.1.2.1 hRi.2.2.2.1.1 hw hRi.1.2.2.2 hi6 (by omega) (fun σ3 hB3 hz3 => ?_)
          have hR3 : RepC Φ E C σ3 := hRi.z hB3 hz3
          have ht3 : RSt σ3 63 S' := hti.z hz3 (by omega) hRi.1.2.2.2
          have hk0 := hR3.1.1.1
          have h121 := hR3.1.2.1.1
          have hr8 : hR σ3 0 8 = some 121 := hR3.1.1.2.2.2.2.2.2.2.2.2.2.1
          have hr7 : hR σ3 0 7 = some 63 := hR3.1.1.2.2.2.2.2.2.2.2.2.1
          refine ar_aload_n 66 rfl d_X5_changes_65 rfl ?_
          refine ar_getA 69 rfl d_X5_changes_66 fl_X5_37 rfl (by assumption) (by assumption) ?_
          refine ar_aload_n 70 rfl d_X5_changes_69 rfl ?_
          refine ar_getA 73 rfl d_X5_changes_70 fl_X5_31 rfl (by assumption) (by assumption) ?_
          refine ar_iload 75 rfl d_X5_changes_73 rfl ?_
          refine ar_callV0 (M' := mX0_freshResult) (As := [_, _]) (ls' := [Va _, Vr _, Vi _]) 78 rfl d_X5_changes_75 ml_X5_185 mt_X0_freshResult h121 rfl (Nat.le_of_ble_eq_true rfl) rfl (Nat.le_of_ble_eq_true rfl) (by omega) ?_
          refine sp_X0_freshResult (s := 63) (by omega) hR3.1.2.1 ht3 hw2 hR3.1.2.2.2 hi6 (by omega) (fun σ4 hB4 hz4 => ?_)
          have hR4 : RepC Φ E C σ4 := hR3.z hB4 hz4
          have ht4 : RSt σ4 63 S' := ht3.z hz4 (by omega) hR3.1.2.2.2
          have hv1 := (fr_bd hw i hi6).1
          have hv2 := (fr_bd hw2 i hi6).1
          have h88 : WA G d k n mX5_changes 88 [Va 0, Vi (p : Int), Vi y, Vi (lset (fun l => decide (vF C.1 l ≠ vF S' l)) (i + 1) : Int), Vi (i : Int)] [] σ4 Q := by
            refine ar_inc_4 (y := ((i + 1 : Nat) : Int)) 91 rfl d_X5_changes_88 rfl (by intro _ h; cases h) (by omega) ?_
            refine ar_goto 45 rfl d_X5_changes_91 ?_
            exact ih (6 - (i + 1)) (by omega) (i + 1) σ4 rfl (by omega) hR4 ht4 (hz4.2.1.trans (hz3.2.1.trans hni))
          refine ar_icmp_eq 88 81 rfl rfl d_X5_changes_78 (by omega) (by omega) (fun g78 => ?_) (fun g78 => ?_)
          · rw [lset_n (fun l => decide (vF C.1 l ≠ vF S' l)) i (by simp [g78])] at h88
            exact h88
          · refine ar_iload_n 82 rfl d_X5_changes_81 rfl ?_
            refine ar_iconst 83 rfl d_X5_changes_82 ?_
            refine ar_iload 85 rfl d_X5_changes_83 rfl ?_
            refine ar_ishl 86 rfl d_X5_changes_85 ?_
            refine ar_ior 87 rfl d_X5_changes_86 ?_
            refine ar_top (lset_s (fun l => decide (vF C.1 l ≠ vF S' l)) i (by omega) (by simp [g78])) ?_
            refine ar_ist_3 88 rfl d_X5_changes_87 rfl (by intro _ h; cases h) ?_
            exact h88
      refine ar_iconst 41 rfl d_X5_changes_40 ?_
      refine ar_ist_3 42 rfl d_X5_changes_41 rfl (by intro _ h; cases h) ?_
      refine ar_iconst 43 rfl d_X5_changes_42 ?_
      refine ar_ist_4 45 rfl d_X5_changes_43 rfl (by intro _ h; cases h) ?_
      exact loop 6 0 σ2 rfl (by omega) h2 hst2 hn2
    · refine ar_if_ne 19 16 rfl rfl d_X5_changes_13 (by omega) (fun h => absurd h (by decide)) (fun g13 => ?_)
      refine ar_bipush 18 rfl d_X5_changes_16 rfl ?_
      refine WA.ret (some (Vi _)) ⟨d_X5_changes_18, rfl, Or.inl rfl⟩ ?_
      rw [if_neg (fun h => h g1), if_pos g10] at hQ
      exact hQ σ rfl h
  · refine ar_if_ne 9 7 rfl rfl d_X5_changes_4 (by omega) (fun h => absurd h (by decide)) (fun g4 => ?_)
    refine ar_iconst 8 rfl d_X5_changes_7 ?_
    refine WA.ret (some (Vi _)) ⟨d_X5_changes_8, rfl, Or.inl rfl⟩ ?_
    rw [if_pos g1] at hQ
    exact hQ σ rfl h
set_option maxHeartbeats 4000000 in
theorem sp_X5_numberFor {x y z : Int} (h : RepC Φ E C σ) (hx : i32 x) (hy : i32 y) (hzz : i32 z) (hdp : 40 ≤ d) (hQ : ∀ σ', sn σ' = sn σ → RepC Φ E C σ' → Q (some (Vi (numF x y z C))) σ') : WA G d k n mX5_numberFor 0 [Va 0, Vi x, Vi y, Vi z, Vu] [] σ Q := by
  have hk0 := h.1.1.1
  have hr2 : hR σ 0 2 = some (oS (E 6)) := h.2.1.2.2.1
  have hr6 := oS_r (h.2.1.1 6 (by omega))
  have hw := h.2.2.2.1.2
  have hst := h.2.2.2.1.1
  have hks := hst.1.1
  have h121 := h.1.2.1.1
  have hr8 : hR σ 0 8 = some 121 := h.1.1.2.2.2.2.2.2.2.2.2.2.1
  have hr7 : hR σ 0 7 = some 63 := h.1.1.2.2.2.2.2.2.2.2.2.1
  unfold numF at hQ
  have h32 : 0 ≤ x ∧ x < 12 → 0 ≤ y ∧ y < 6 → (0 ≤ z ∧ z < 100) ∨ z = 100 → WA G d k n mX5_numberFor 32 [Va 0, Vi x, Vi y, Vi z, Vu] [] σ Q := by
    intro g1 g8 g17
    rw [if_neg (fun h => h ⟨g1, g8⟩), if_neg (fun h => h g17)] at hQ
    obtain ⟨p, rfl⟩ : ∃ p : Nat, x = (p : Int) := ⟨x.toNat, by omega⟩
    obtain ⟨l, rfl⟩ : ∃ l : Nat, y = (l : Int) := ⟨y.toNat, by omega⟩
    have hp : p < 12 := by omega
    have hl : l < 6 := by omega
    rw [Int.toNat_natCast, Int.toNat_natCast] at hQ
    have h63 := h.2.2.1.2.1
    have hp63 := h.2.2.1.2.2
    have hk63 := h63.1
    have loop : ∀ r i : Nat, ∀ (σi : Sg) (g : Nat → Int), 100 - i = r → i ≤ 100 → RepC Φ E C σi → RSt σi 63 (g, C.1.2) → (∀ v, uf g (2 + p) v = uf C.1.1 (2 + p) v) → sn σi = sn σ → (∀ σ', sn σ' = sn σ → RepC Φ E C σ' → Q (some (Vi (nfG (fun v => vF (uf C.1.1 (2 + p) (v : Int), C.1.2) l == z) (100 - i) i))) σ') → WA G d k n mX5_numberFor 46 [Va 0, Vi (p : Int), Vi (l : Int), Vi z, Vi (i : Int)] [] σi Q := by
      intro r
      induction r using Nat.strongRecOn with
      | ind r ih =>
      intro i σi g hr hi hRi hti hg hni hQi
      have hk0 := hRi.1.1.1
      have hr7 : hR σi 0 7 = some 63 := hRi.1.1.2.2.2.2.2.2.2.2.2.1
      have hk63 := hti.1.1
      have hk64 : sk σi 64 = (10, 12) := hti.1.2.1
      have hr63 : hR σi 63 0 = some 64 := hti.1.2.2.2.2.2.2.2.1
      refine ar_iload 48 rfl d_X5_numberFor_46 rfl ?_
      refine ar_bipush 50 rfl d_X5_numberFor_48 rfl ?_
      refine ar_icmp_ge 89 53 rfl rfl d_X5_numberFor_50 (by omega) (by omega) (fun g50 => ?_) (fun g50 => ?_)
      · refine ar_bipush 91 rfl d_X5_numberFor_89 rfl ?_
        refine WA.ret (some (Vi _)) ⟨d_X5_numberFor_91, rfl, Or.inl rfl⟩ ?_
        have hi6 : i = 100 := by omega
        subst hi6
        exact hQi σi hni hRi
      · have hi1 : i < 100 := by omega
        rw [show 100 - i = (100 - (i + 1)) + 1 by omega, nfG] at hQi
        refine ar_aload_n 54 rfl d_X5_numberFor_53 rfl ?_
        refine ar_getA 57 rfl d_X5_numberFor_54 fl_X5_31 rfl (by assumption) (by assumption) ?_
        refine ar_getA 60 rfl d_X5_numberFor_57 fl_X5_68 rfl (by assumption) (by assumption) ?_
        refine ar_iload_n 61 rfl d_X5_numberFor_60 rfl ?_
        refine ar_iload 63 rfl d_X5_numberFor_61 rfl ?_
        refine ar_iasN p 64 rfl d_X5_numberFor_63 (by assumption) (by omega) (by omega) ?_
        have hfi : FrI 63 (63 + 7) σi (wI σi 64 p (i : Int)) := FrI.w (by omega) (by omega)
        have hst2 : RSt (wI σi 64 p (i : Int)) 63 (uf C.1.1 (2 + p) (i : Int), C.1.2) := by
          rw [← hg]
          exact RSt.int hti hfi (by rw [hI_w, if_neg (by omega)]) (hti.2.1.w (by omega)) rfl (by omega)
        have h2 : RepC Φ E C (wI σi 64 p (i : Int)) := hRi.trl (FrS.i hfi (by omega) (by omega)) hst2.1 hst2.2.2.2.pr
        have hw2 : WFS (uf C.1.1 (2 + p) (i : Int), C.1.2) := hw.num hp (by omega)
        have hn2 : sn (wI σi 64 p (i : Int)) = sn σ := hni
        generalize wI σi 64 p (i : Int) = σ2 at hst2 h2 hn2
        have hk0 := h2.1.1.1
        have h121 := h2.1.2.1.1
        have hr8 : hR σ2 0 8 = some 121 := h2.1.1.2.2.2.2.2.2.2.2.2.2.1
        have hr7 : hR σ2 0 7 = some 63 := h2.1.1.2.2.2.2.2.2.2.2.2.1
        refine ar_aload_n 65 rfl d_X5_numberFor_64 rfl ?_
        refine ar_getA 68 rfl d_X5_numberFor_65 fl_X5_37 rfl (by assumption) (by assumption) ?_
        refine ar_aload_n 69 rfl d_X5_numberFor_68 rfl ?_
        refine ar_getA 72 rfl d_X5_numberFor_69 fl_X5_31 rfl (by assumption) (by assumption) ?_
        refine ar_iload_n 73 rfl d_X5_numberFor_72 rfl ?_
        refine ar_callV0 (M' := mX0_freshResult) (As := [_, _]) (ls' := [Va _, Vr _, Vi _]) 76 rfl d_X5_numberFor_73 ml_X5_185 mt_X0_freshResult h121 rfl (Nat.le_of_ble_eq_true rfl) rfl (Nat.le_of_ble_eq_true rfl) (by omega) ?_
        refine sp_X0_freshResult (s := 63) (by omega) h2.1.2.1 hst2 hw2 h2.1.2.2.2 hl (by omega) (fun σ4 hB4 hz4 => ?_)
        have hR4 : RepC Φ E C σ4 := h2.z hB4 hz4
        have ht4 : RSt σ4 63 (uf C.1.1 (2 + p) (i : Int), C.1.2) := hst2.z hz4 (by omega) h2.1.2.2.2
        have hv2 := (fr_bd hw2 l hl).1
        refine ar_iload_n 77 rfl d_X5_numberFor_76 rfl ?_
        refine ar_icmp_ne 83 80 rfl rfl d_X5_numberFor_77 (by omega) (by omega) (fun g77 => ?_) (fun g77 => ?_)
        · refine ar_inc_4 (y := ((i + 1 : Nat) : Int)) 86 rfl d_X5_numberFor_83 rfl (by intro _ h; cases h) (by omega) ?_
          refine ar_goto 46 rfl d_X5_numberFor_86 ?_
          rw [if_neg (by simp [g77])] at hQi
          exact ih (100 - (i + 1)) (by omega) (i + 1) σ4 _ rfl (by omega) hR4 ht4 (fun v => uf_uf _ _ _ _) (hz4.2.1.trans hn2) hQi
        · refine ar_iload 82 rfl d_X5_numberFor_80 rfl ?_
          refine WA.ret (some (Vi _)) ⟨d_X5_numberFor_82, rfl, Or.inl rfl⟩ ?_
          rw [if_pos (by simp [g77])] at hQi
          exact hQi σ4 (hz4.2.1.trans hn2) hR4
    refine ar_aload_n 33 rfl d_X5_numberFor_32 rfl ?_
    refine ar_getA 36 rfl d_X5_numberFor_33 fl_X5_31 rfl (by assumption) (by assumption) ?_
    refine ar_aload_n 37 rfl d_X5_numberFor_36 rfl ?_
    refine ar_getA 40 rfl d_X5_numberFor_37 fl_X5_16 rfl (by assumption) (by assumption) ?_
    refine ar_callV0 (M' := mX4_copyFrom) (As := [_]) (ls' := [Va _, Vr _, Vu]) 43 rfl d_X5_numberFor_40 ml_X5_195 mt_X4_copyFrom (by assumption) rfl (Nat.le_of_ble_eq_true rfl) rfl (Nat.le_of_ble_eq_true rfl) (by omega) ?_
    refine sp_X4_copyFrom h63 hp63 hst (by omega) (by omega) hw.lk18 (by omega) (fun σ1 hf1 hst1 => ?_)
    have h1 : RepC Φ E C σ1 := h.trl hf1 hst1.1 hst1.2.2.2.pr
    refine ar_iconst 44 rfl d_X5_numberFor_43 ?_
    refine ar_ist_4 46 rfl d_X5_numberFor_44 rfl (by intro _ h; cases h) ?_
    exact loop 100 0 σ1 C.1.1 rfl (by omega) h1 hst1 (fun _ => rfl) hf1.2.1 hQ
  refine ar_iload_n 1 rfl d_X5_numberFor_0 rfl ?_
  refine ar_callS0 (M' := mX5_isShelf) (As := [_]) (ls' := [Vi _]) 4 rfl d_X5_numberFor_1 ml_X5_61 mt_X5_isShelf rfl (Nat.le_of_ble_eq_true rfl) rfl (Nat.le_of_ble_eq_true rfl) (by omega) ?_
  refine sp_X5_isShelf hx (fun g1 => ?_) (fun g1 => ?_)
  · refine ar_if_eq 14 7 rfl rfl d_X5_numberFor_4 (by omega) (fun h => absurd h (by decide)) (fun g4 => ?_)
    refine ar_iload_n 8 rfl d_X5_numberFor_7 rfl ?_
    refine ar_callS0 (M' := mX5_isLoaf) (As := [_]) (ls' := [Vi _]) 11 rfl d_X5_numberFor_8 ml_X5_79 mt_X5_isLoaf rfl (Nat.le_of_ble_eq_true rfl) rfl (Nat.le_of_ble_eq_true rfl) (by omega) ?_
    refine sp_X5_isLoaf hy (fun g8 => ?_) (fun g8 => ?_)
    · refine ar_if_ne 16 14 rfl rfl d_X5_numberFor_11 (by omega) (fun g11 => ?_) (fun h => absurd h (by decide))
      refine ar_iload_n 17 rfl d_X5_numberFor_16 rfl ?_
      refine ar_callS0 (M' := mX5_isNumber) (As := [_]) (ls' := [Vi _]) 20 rfl d_X5_numberFor_17 ml_X5_65 mt_X5_isNumber rfl (Nat.le_of_ble_eq_true rfl) rfl (Nat.le_of_ble_eq_true rfl) (by omega) ?_
      refine sp_X5_isNumber hzz (fun g17 => ?_) (fun g17 => ?_)
      · refine ar_if_ne 32 23 rfl rfl d_X5_numberFor_20 (by omega) (fun g20 => ?_) (fun h => absurd h (by decide))
        exact h32 g1 g8 (Or.inl g17)
      · refine ar_if_ne 32 23 rfl rfl d_X5_numberFor_20 (by omega) (fun h => absurd h (by decide)) (fun g20 => ?_)
        refine ar_iload_n 24 rfl d_X5_numberFor_23 rfl ?_
        refine ar_bipush 26 rfl d_X5_numberFor_24 rfl ?_
        refine ar_icmp_eq 32 29 rfl rfl d_X5_numberFor_26 (by omega) (by omega) (fun g26 => ?_) (fun g26 => ?_)
        · exact h32 g1 g8 (Or.inr g26)
        · refine ar_bipush 31 rfl d_X5_numberFor_29 rfl ?_
          refine WA.ret (some (Vi _)) ⟨d_X5_numberFor_31, rfl, Or.inl rfl⟩ ?_
          rw [if_neg (fun h => h ⟨g1, g8⟩), if_pos (by omega)] at hQ
          exact hQ σ rfl h
    · refine ar_if_ne 16 14 rfl rfl d_X5_numberFor_11 (by omega) (fun h => absurd h (by decide)) (fun g11 => ?_)
      refine ar_iconst 15 rfl d_X5_numberFor_14 ?_
      refine WA.ret (some (Vi _)) ⟨d_X5_numberFor_15, rfl, Or.inl rfl⟩ ?_
      rw [if_pos (fun h => g8 h.2)] at hQ
      exact hQ σ rfl h
  · refine ar_if_eq 14 7 rfl rfl d_X5_numberFor_4 (by omega) (fun g4 => ?_) (fun h => absurd h (by decide))
    refine ar_iconst 15 rfl d_X5_numberFor_14 ?_
    refine WA.ret (some (Vi _)) ⟨d_X5_numberFor_15, rfl, Or.inl rfl⟩ ?_
    rw [if_pos (fun h => g1 h.1)] at hQ
    exact hQ σ rfl h
set_option maxHeartbeats 4000000 in
theorem sp_X5_stepsFor {x : Int} (h : RepC Φ E C σ) (hx : i32 x) (hz : C.1.1 815 + 1889568 ≤ 2147483647) (hdp : 40 ≤ d) (hQ : ∀ σ', sn σ' = sn σ → RepC Φ E C σ' → Q (some (Vi (steF x C))) σ') : WA G d k n mX5_stepsFor 0 [Va 0, Vi x] [] σ Q := by
  have hk0 := h.1.1.1
  have hr2 : hR σ 0 2 = some (oS (E 6)) := h.2.1.2.2.1
  have hr6 := oS_r (h.2.1.1 6 (by omega))
  have hw := h.2.2.2.1.2
  have hst := h.2.2.2.1.1
  have hks := hst.1.1
  have h121 := h.1.2.1.1
  have hr8 : hR σ 0 8 = some 121 := h.1.1.2.2.2.2.2.2.2.2.2.2.1
  have hr7 : hR σ 0 7 = some 63 := h.1.1.2.2.2.2.2.2.2.2.2.1
  unfold steF at hQ
  refine ar_iload_n 1 rfl d_X5_stepsFor_0 rfl ?_
  refine ar_callS0 (M' := mX5_isLoaf) (As := [_]) (ls' := [Vi _]) 4 rfl d_X5_stepsFor_1 ml_X5_79 mt_X5_isLoaf rfl (Nat.le_of_ble_eq_true rfl) rfl (Nat.le_of_ble_eq_true rfl) (by omega) ?_
  refine sp_X5_isLoaf hx (fun g1 => ?_) (fun g1 => ?_)
  · refine ar_if_ne 9 7 rfl rfl d_X5_stepsFor_4 (by omega) (fun g4 => ?_) (fun h => absurd h (by decide))
    have h63 := h.2.2.1.2.1
    have hp63 := h.2.2.1.2.2
    have hk63 := h63.1
    rw [if_neg (fun h => h g1)] at hQ
    obtain ⟨l, rfl⟩ : ∃ l : Nat, x = (l : Int) := ⟨x.toNat, by omega⟩
    have hl : l < 6 := by omega
    have hpw : 18 ^ l ≤ 1889568 := Nat.le_trans (Nat.pow_le_pow_right (by decide) (show l ≤ 5 by omega)) (by decide)
    refine ar_aload_n 10 rfl d_X5_stepsFor_9 rfl ?_
    refine ar_getA 13 rfl d_X5_stepsFor_10 fl_X5_31 rfl (by assumption) (by assumption) ?_
    refine ar_aload_n 14 rfl d_X5_stepsFor_13 rfl ?_
    refine ar_getA 17 rfl d_X5_stepsFor_14 fl_X5_16 rfl (by assumption) (by assumption) ?_
    refine ar_callV0 (M' := mX4_copyFrom) (As := [_]) (ls' := [Va _, Vr _, Vu]) 20 rfl d_X5_stepsFor_17 ml_X5_195 mt_X4_copyFrom (by assumption) rfl (Nat.le_of_ble_eq_true rfl) rfl (Nat.le_of_ble_eq_true rfl) (by omega) ?_
    refine sp_X4_copyFrom h63 hp63 hst (by omega) (by omega) hw.lk18 (by omega) (fun σ1 hf1 hst1 => ?_)
    have h1 : RepC Φ E C σ1 := h.trl hf1 hst1.1 hst1.2.2.2.pr
    have hk0 := h1.1.1.1
    have h121 := h1.1.2.1.1
    have hr8 : hR σ1 0 8 = some 121 := h1.1.1.2.2.2.2.2.2.2.2.2.2.1
    have hr7 : hR σ1 0 7 = some 63 := h1.1.1.2.2.2.2.2.2.2.2.2.1
    refine ar_aload_n 21 rfl d_X5_stepsFor_20 rfl ?_
    refine ar_getA 24 rfl d_X5_stepsFor_21 fl_X5_37 rfl (by assumption) (by assumption) ?_
    refine ar_aload_n 25 rfl d_X5_stepsFor_24 rfl ?_
    refine ar_getA 28 rfl d_X5_stepsFor_25 fl_X5_31 rfl (by assumption) (by assumption) ?_
    refine ar_iload_n 29 rfl d_X5_stepsFor_28 rfl ?_
    refine ar_callV0 (M' := mX0_askedResult) (As := [_, _]) (ls' := [Va _, Vr _, Vi _]) 32 rfl d_X5_stepsFor_29 ml_X5_82 mt_X0_askedResult h121 rfl (Nat.le_of_ble_eq_true rfl) rfl (Nat.le_of_ble_eq_true rfl) (by omega) ?_
    refine sp_X0_askedResult (s := 63) (by omega) h1.1.2.1 hst1 hw h1.1.2.2.2 hl (by omega) (by omega) (fun σ2 hB2 hst2 hw2 hf2 => ?_)
    have hkp : Kp (fun b => ¬ (63 ≤ b ∧ b < 161) ∧ (b < oS (E 6) ∨ oS (E 6) + 58 ≤ b)) σ1 σ2 := ⟨hf2.1, hf2.2.1, fun b hb => hf2.2.2 b (by omega) (by omega)⟩
    have hkq : Kp (fun b => (b < 121 ∨ 156 ≤ b) ∧ (b < 63 ∨ 121 ≤ b)) σ1 σ2 := ⟨hf2.1, hf2.2.1, fun b hb => hf2.2.2 b hb.1 (by omega)⟩
    have h2 : RepC Φ E C σ2 := h1.upd hkp hB2 (h1.1.2.2.1.kp hkq (by omega)) (h1.2.2.2.1.1.kp hkq (fun b hb => by omega) hr6.1.2 h1.1.2.2.2) hw hst2.1 hst2.2.2.2.pr
    have hk0 := h2.1.1.1
    have hr7 : hR σ2 0 7 = some 63 := h2.1.1.2.2.2.2.2.2.2.2.2.1
    have hr2 : hR σ2 0 2 = some (oS (E 6)) := h2.2.1.2.2.1
    have hks := h2.2.2.2.1.1.1.1
    have hk63 := hst2.1.1
    have hv1 := hst2.2.1.2.2.2.2.2.2.1
    have hv2 := h2.2.2.2.1.1.2.1.2.2.2.2.2.2.1
    have hn2 : sn σ2 = sn σ := hf2.2.1.trans hf1.2.1
    refine ar_pop 33 rfl d_X5_stepsFor_32 (fun _ => rfl) ?_
    refine ar_aload_n 34 rfl d_X5_stepsFor_33 rfl ?_
    refine ar_getA 37 rfl d_X5_stepsFor_34 fl_X5_31 rfl (by assumption) (by assumption) ?_
    refine ar_giv (y := ((askF 6 (l : Int) C.1).1.1 812)) 40 rfl d_X5_stepsFor_37 fl_X5_172 rfl (by assumption) hv1 ?_
    refine ar_aload_n 41 rfl d_X5_stepsFor_40 rfl ?_
    refine ar_getA 44 rfl d_X5_stepsFor_41 fl_X5_16 rfl (by assumption) (by assumption) ?_
    refine ar_giv (y := (C.1.1 812)) 47 rfl d_X5_stepsFor_44 fl_X5_172 rfl (by assumption) hv2 ?_
    refine ar_isub 48 rfl d_X5_stepsFor_47 ?_
    refine WA.ret (some (Vi _)) ⟨d_X5_stepsFor_48, rfl, Or.inl rfl⟩ ?_
    exact hQ σ2 hn2 h2
  · refine ar_if_ne 9 7 rfl rfl d_X5_stepsFor_4 (by omega) (fun h => absurd h (by decide)) (fun g4 => ?_)
    refine ar_iconst 8 rfl d_X5_stepsFor_7 ?_
    refine WA.ret (some (Vi _)) ⟨d_X5_stepsFor_8, rfl, Or.inl rfl⟩ ?_
    rw [if_pos g1] at hQ
    exact hQ σ rfl h
end WHATIF
