section CALLS3
variable {G : GT} {d k n : Nat} {σ : Sg} {Q : Option AV → Sg → Prop}
theorem ShX.slot (h : ShX σ) {j : Nat} (hj : j < 2) : hR σ 61 j = some (509 + 58 * j) := by
  rcases (show j = 0 ∨ j = 1 by omega) with e | e
  · rw [e]; exact h.2.2.2.2.2.2.2.2.2.2.2.2.1
  · rw [e]; exact h.2.2.2.2.2.2.2.2.2.2.2.2.2
set_option maxHeartbeats 4000000 in
theorem sp_X5_save {Φ : Sg} {E : Nat → Nat} {C : CS} {x : Int} (h : RepC Φ E C σ) (hx : i32 x) (hdp : 40 ≤ d) (hQ : ∀ E' σ', sn σ' = sn σ → RepC Φ E' (savF x C).1 σ' → Q (some (Vi (savF x C).2)) σ') : WA G d k n mX5_save 0 [Va 0, Vi x] [] σ Q := by
  have hh := h
  obtain ⟨⟨a1, a2, a3, a4⟩, b, c, e, f, g, p⟩ := h
  have hk0 := a1.1
  have hk61 : sk σ 61 = (13, 2) := a1.2.2.2.1
  have hk62 : sk σ 62 = (11, 2) := a1.2.2.2.2.1
  have hr5 : hR σ 0 5 = some 61 := a1.2.2.2.2.2.2.2.1
  have hr6 : hR σ 0 6 = some 62 := a1.2.2.2.2.2.2.2.2.1
  have hr2 : hR σ 0 2 = some (oS (E 6)) := b.2.2.1
  have hE6 := b.1 6 (by omega)
  have hro := oS_r hE6
  refine ar_iload_n 1 rfl d_X5_save_0 rfl ?_
  refine ar_callS0 (M' := mX5_isSlot) (As := [_]) (ls' := [Vi _]) 4 rfl d_X5_save_1 ml_X5_199 mt_X5_isSlot rfl (Nat.le_of_ble_eq_true rfl) rfl (Nat.le_of_ble_eq_true rfl) (by omega) ?_
  refine sp_X5_isSlot hx (fun g1 => ?_) (fun g1 => ?_)
  · refine ar_if_ne 10 7 rfl rfl d_X5_save_4 (by omega) (fun g4 => ?_) (fun h => absurd h (by decide))
    obtain ⟨j, rfl⟩ : ∃ j : Nat, x = (j : Int) := ⟨x.toNat, by omega⟩
    have hj : j < 2 := by omega
    have hsl := a1.slot hj
    obtain ⟨hw1, hw2, hw3⟩ := g.2 j hj
    have hkw := hw1.1
    refine ar_aload_n 11 rfl d_X5_save_10 rfl ?_
    refine ar_getA 14 rfl d_X5_save_11 fl_X5_24 rfl (by assumption) (by assumption) ?_
    refine ar_iload_n 15 rfl d_X5_save_14 rfl ?_
    refine ar_aalA 16 rfl d_X5_save_15 (by assumption) (by omega) (by omega) hsl ?_
    refine ar_aload_n 17 rfl d_X5_save_16 rfl ?_
    refine ar_getA 20 rfl d_X5_save_17 fl_X5_16 rfl (by assumption) (by assumption) ?_
    refine ar_callV0 (M' := mX4_copyFrom) (As := [_]) (ls' := [Va _, Vr _, Vu]) 23 rfl d_X5_save_20 ml_X5_195 mt_X4_copyFrom (by assumption) rfl (Nat.le_of_ble_eq_true rfl) rfl (Nat.le_of_ble_eq_true rfl) (by omega) ?_
    refine sp_X4_copyFrom hw1 hw2 e.1 (by omega) (by omega) e.2.lk18 (by omega) (fun σ1 hf1 hst1 => ?_)
    have hk0 : (sk σ1 0).1 = 6 := by rw [hf1.1]; exact hk0
    have hk62 : sk σ1 62 = (11, 2) := by rw [hf1.1]; exact hk62
    have hr6 : hR σ1 0 6 = some 62 := by rw [(hf1.2.2 0 (by omega)).2]; exact hr6
    have hr2 : hR σ1 0 2 = some (oS (E 6)) := by rw [(hf1.2.2 0 (by omega)).2]; exact hr2
    have hks : (sk σ1 (oS (E 6))).1 = 5 := by rw [hf1.1]; exact e.1.1.1
    have h5 : hI σ1 (oS (E 6)) 5 = (C.1.2.1.length : Int) := by rw [(hf1.2.2 (oS (E 6)) (by omega)).1]; exact e.1.2.2.2.2.1
    have hlen := e.1.2.2.2.1
    refine ar_aload_n 24 rfl d_X5_save_23 rfl ?_
    refine ar_getA 27 rfl d_X5_save_24 fl_X5_27 rfl (by assumption) (by assumption) ?_
    refine ar_iload_n 28 rfl d_X5_save_27 rfl ?_
    refine ar_iconst 29 rfl d_X5_save_28 ?_
    refine ar_bast 30 rfl d_X5_save_29 (by assumption) (by omega) (by omega) ?_
    refine ar_aload_n 31 rfl d_X5_save_30 rfl ?_
    refine ar_getA 34 rfl d_X5_save_31 fl_X5_16 rfl (by assumption) (by assumption) ?_
    refine ar_giv (y := (C.1.2.1.length : Int)) 37 rfl d_X5_save_34 fl_X5_93 rfl (by assumption) (by rw [hI_w, if_neg (by omega)]; exact h5) ?_
    refine WA.ret (some (Vi _)) ⟨d_X5_save_37, rfl, Or.inl rfl⟩ ?_
    unfold savF at hQ
    rw [if_neg (fun h => h g1), Int.toNat_natCast] at hQ
    have hkk : Kp (fun b' => b' ≠ 62 ∧ (b' < 509 + 58 * j ∨ 509 + 58 * j + 58 ≤ b')) σ (wI σ1 62 ((j : Int)).toNat 1) := ⟨hf1.1, hf1.2.1, fun b' hb' => ⟨by
      rw [← (hf1.2.2 b' hb'.2).1]
      funext i
      rw [hI_w, if_neg (by omega)], (hf1.2.2 b' hb'.2).2⟩⟩
    have h62 : ∀ i, hI (wI σ1 62 ((j : Int)).toNat 1) 62 i = if i = j then 1 else hI σ 62 i := by
      intro i
      rw [hI_w, Int.toNat_natCast, (hf1.2.2 62 (by omega)).1]
      by_cases e2 : i = j
      · rw [if_pos ⟨rfl, e2⟩, if_pos e2]
      · rw [if_neg (by omega), if_neg e2]
    have hst2 : RSt (wI σ1 62 ((j : Int)).toNat 1) (509 + 58 * j) C.1 := hst1.kp (P := fun b' => b' ≠ 62) ⟨rfl, rfl, fun b' hb' => ⟨by funext i; rw [hI_w, if_neg (by omega)], rfl⟩⟩ (fun b' hb' => by omega) (by omega) (by have := hf1.2.1; omega)
    generalize wI σ1 62 ((j : Int)).toNat 1 = σ9 at hkk h62 hst2
    have h0 := hkk.2.2 0 (by omega)
    refine hQ E σ9 hkk.2.1 ⟨⟨a1.kp hkk (fun i _ => by rw [h0.2]) (by omega), a2.fr hkk.1 (fun a _ _ _ => (hkk.2.2 a (by omega)).2) (fun i _ => by rw [(hkk.2.2 121 (by omega)).2]), ?_, by rw [hkk.2.1]; exact a4⟩, ⟨b.1, b.2.1, by rw [h0.2]; exact b.2.2.1, by rw [(hkk.2.2 60 (by omega)).2]; exact b.2.2.2⟩, ⟨fun i hi => ?_, c.2.1.kp hkk (fun b' hb' => by omega), c.2.2.kp hkk (by omega)⟩, ⟨e.1.kp hkk (fun b' hb' => by omega) (by omega) a4, e.2⟩, ⟨by rw [h0.1]; exact f.1, f.2.1, fun i S hS => ?_⟩, ⟨g.1.kp hkk (fun b' hb' hb2 => by omega), fun i hi => ?_⟩, p.kp hkk (by rw [h0.1]) (by omega)⟩
    · obtain ⟨q1, q2, q3, q4, q5, q6, q7, q8, q9⟩ := a3
      refine ⟨?_, ?_, ?_, ?_, ?_, ?_, ?_, ?_, ?_⟩
      iterate 5 (rw [hkk.1]; assumption)
      iterate 4 (rw [(hkk.2.2 156 (by omega)).2]; assumption)
    · have hri := oS_r hi
      exact ⟨(c.1 i hi).1.kp hkk (fun b' hb' => by omega), (c.1 i hi).2.kp hkk (by omega)⟩
    · have hi : i < C.2.1.length := (List.getElem?_eq_some_iff.mp hS).1
      have := f.2.1
      have hri := oS_r (b.1 i (by omega))
      exact ⟨(f.2.2 i S hS).1.kp hkk (fun b' hb' => by omega) hri.1.2 a4, (f.2.2 i S hS).2⟩
    · by_cases e2 : i = j
      · subst e2
        refine ⟨hst2.1, hst2.2.2.2.pr, Or.inr ⟨C.1, if_pos rfl, by rw [h62, if_pos rfl], hst2, e.2⟩⟩
      · obtain ⟨u1, u2, u3⟩ := g.2 i hi
        refine ⟨u1.kp hkk (fun b' hb' => by omega), u2.kp hkk (by omega), ?_⟩
        rw [h62, if_neg e2]
        show ((if i = j then some C.1 else C.2.2.1 i) = none ∧ _) ∨ ∃ S, (if i = j then some C.1 else C.2.2.1 i) = some S ∧ _
        rw [if_neg e2]
        rcases u3 with u | ⟨S, u4, u5, u6, u7⟩
        · exact Or.inl u
        · exact Or.inr ⟨S, u4, u5, u6.kp hkk (fun b' hb' => by omega) (by omega) a4, u7⟩
  · refine ar_if_ne 10 7 rfl rfl d_X5_save_4 (by omega) (fun h => absurd h (by decide)) (fun g4 => ?_)
    refine ar_bipush 9 rfl d_X5_save_7 rfl ?_
    refine WA.ret (some (Vi _)) ⟨d_X5_save_9, rfl, Or.inl rfl⟩ ?_
    unfold savF at hQ
    rw [if_pos g1] at hQ
    exact hQ E σ rfl hh
set_option maxHeartbeats 4000000 in
theorem sp_X5_restore {Φ : Sg} {E : Nat → Nat} {C : CS} {x : Int} (h : RepC Φ E C σ) (hx : i32 x) (hdp : 40 ≤ d) (hQ : ∀ E' σ', sn σ' = sn σ → RepC Φ E' (resF x C).1 σ' → Q (some (Vi (resF x C).2)) σ') : WA G d k n mX5_restore 0 [Va 0, Vi x] [] σ Q := by
  have hk0 := h.1.1.1
  have hk62 : sk σ 62 = (11, 2) := h.1.1.2.2.2.2.1
  have hr6 : hR σ 0 6 = some 62 := h.1.1.2.2.2.2.2.2.2.2.1
  refine ar_iload_n 1 rfl d_X5_restore_0 rfl ?_
  refine ar_callS0 (M' := mX5_isSlot) (As := [_]) (ls' := [Vi _]) 4 rfl d_X5_restore_1 ml_X5_199 mt_X5_isSlot rfl (Nat.le_of_ble_eq_true rfl) rfl (Nat.le_of_ble_eq_true rfl) (by omega) ?_
  refine sp_X5_isSlot hx (fun g1 => ?_) (fun g1 => ?_)
  · refine ar_if_ne 10 7 rfl rfl d_X5_restore_4 (by omega) (fun g4 => ?_) (fun h => absurd h (by decide))
    obtain ⟨j, rfl⟩ : ∃ j : Nat, x = (j : Int) := ⟨x.toNat, by omega⟩
    have hj : j < 2 := by omega
    unfold resF at hQ
    rw [if_neg (fun h => h g1), Int.toNat_natCast] at hQ
    have hgj := (h.2.2.2.2.2.1.2 j hj).2.2
    have hb01 : 0 ≤ hI σ 62 ((j : Int)).toNat ∧ hI σ 62 ((j : Int)).toNat ≤ 1 := by
      rw [Int.toNat_natCast]
      rcases hgj with e | ⟨S, e1, e2, e3⟩
      · rw [e.2]; exact ⟨by decide, by decide⟩
      · rw [e2]; exact ⟨by decide, by decide⟩
    refine ar_aload_n 11 rfl d_X5_restore_10 rfl ?_
    refine ar_getA 14 rfl d_X5_restore_11 fl_X5_27 rfl (by assumption) (by assumption) ?_
    refine ar_iload_n 15 rfl d_X5_restore_14 rfl ?_
    refine ar_bald 16 rfl d_X5_restore_15 (by assumption) (by omega) ?_
    refine ar_if_ne 22 19 rfl rfl d_X5_restore_16 (by omega) (fun g16 => ?_) (fun g16 => ?_)
    · obtain ⟨S, hS⟩ : ∃ S, C.2.2.1 j = some S := by
        rcases hgj with e | ⟨S, e1, _⟩
        · rw [Int.toNat_natCast, e.2] at g16
          exact absurd rfl g16
        · exact ⟨S, e1⟩
      rw [hS] at hQ
      simp only [] at hQ
      refine ar_aload_n 23 rfl d_X5_restore_22 rfl ?_
      refine ar_callV0 (M' := mX5_recordChange) (As := []) (ls' := [Va _]) 26 rfl d_X5_restore_23 ml_X5_52 mt_X5_recordChange (by assumption) rfl (Nat.le_of_ble_eq_true rfl) rfl (Nat.le_of_ble_eq_true rfl) (by omega) ?_
      refine sp_X5_recordChange h (by omega) (fun E1 σ1 hs1 h1 => ?_)
      have hk0 := h1.1.1.1
      have hr2 : hR σ1 0 2 = some (oS (E1 6)) := h1.2.1.2.2.1
      have hE6 := h1.2.1.1 6 (by omega)
      have hr6 := oS_r hE6
      have hst1 : RSt σ1 (oS (E1 6)) C.1 := h1.2.2.2.1.1
      have hw1 : WFS C.1 := h1.2.2.2.1.2
      obtain ⟨hS1, hSf1, hSr1, hSm1⟩ := hst1
      have hks := hS1.1
      have hsl := h1.1.1.slot hj
      have hk61 : sk σ1 61 = (13, 2) := h1.1.1.2.2.2.1
      have hr5 : hR σ1 0 5 = some 61 := h1.1.1.2.2.2.2.2.2.2.1
      obtain ⟨u2, u3⟩ : RSt σ1 (509 + 58 * j) S ∧ WFS S := by
        rcases (h1.2.2.2.2.2.1.2 j hj).2.2 with e | ⟨S', e1, _, e3, e4⟩
        · have e1 : C.2.2.1 j = none := e.1
          rw [hS] at e1
          cases e1
        · have e1 : C.2.2.1 j = some S' := e1
          rw [hS] at e1
          cases e1
          exact ⟨e3, e4⟩
      refine ar_aload_n 27 rfl d_X5_restore_26 rfl ?_
      refine ar_getA 30 rfl d_X5_restore_27 fl_X5_16 rfl (by assumption) (by assumption) ?_
      refine ar_aload_n 31 rfl d_X5_restore_30 rfl ?_
      refine ar_getA 34 rfl d_X5_restore_31 fl_X5_24 rfl (by assumption) (by assumption) ?_
      refine ar_iload_n 35 rfl d_X5_restore_34 rfl ?_
      refine ar_aalA 36 rfl d_X5_restore_35 (by assumption) (by omega) (by omega) hsl ?_
      refine ar_callV0 (M' := mX4_copyFrom) (As := [_]) (ls' := [Va _, Vr _, Vu]) 39 rfl d_X5_restore_36 ml_X5_195 mt_X4_copyFrom (by assumption) rfl (Nat.le_of_ble_eq_true rfl) rfl (Nat.le_of_ble_eq_true rfl) (by omega) ?_
      refine sp_X4_copyFrom hS1 hSm1.pr u2 (by omega) hr6.1.2 u3.lk18 (by omega) (fun σ2 hf2 hst2 => ?_)
      have hk0 : (sk σ2 0).1 = 6 := by rw [hf2.1]; exact hk0
      have hr2 : hR σ2 0 2 = some (oS (E1 6)) := by rw [(hf2.2.2 0 (by omega)).2]; exact hr2
      have hks := hst2.1.1
      have h5 := hst2.2.2.2.2.1
      have hlen := hst2.2.2.2.1
      refine ar_aload_n 40 rfl d_X5_restore_39 rfl ?_
      refine ar_getA 43 rfl d_X5_restore_40 fl_X5_16 rfl (by assumption) (by assumption) ?_
      refine ar_giv (y := (S.2.1.length : Int)) 46 rfl d_X5_restore_43 fl_X5_93 rfl (by assumption) h5 ?_
      refine WA.ret (some (Vi _)) ⟨d_X5_restore_46, rfl, Or.inl rfl⟩ ?_
      exact hQ E1 σ2 (hf2.2.1.trans hs1) (h1.st hf2 hst2 u3)
    · refine ar_bipush 21 rfl d_X5_restore_19 rfl ?_
      refine WA.ret (some (Vi _)) ⟨d_X5_restore_21, rfl, Or.inl rfl⟩ ?_
      have hz : C.2.2.1 j = none := by
        rcases hgj with e | ⟨S, e1, e2, e3⟩
        · exact e.1
        · rw [Int.toNat_natCast, e2] at g16
          exact absurd g16 (by decide)
      rw [hz] at hQ
      exact hQ E σ rfl h
  · refine ar_if_ne 10 7 rfl rfl d_X5_restore_4 (by omega) (fun h => absurd h (by decide)) (fun g4 => ?_)
    refine ar_bipush 9 rfl d_X5_restore_7 rfl ?_
    refine WA.ret (some (Vi _)) ⟨d_X5_restore_9, rfl, Or.inl rfl⟩ ?_
    unfold resF at hQ
    rw [if_pos g1] at hQ
    exact hQ E σ rfl h
end CALLS3
