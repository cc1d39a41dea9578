theorem WFS.lk18 {S : SS} (h : WFS S) : ∀ M ∈ S.2.1, (mLk M).length ≤ 18 := by
  intro M hM
  have h1 := h.2.2.2.2.2.2.1 M hM
  have h2 := WFl_len h1.2.2.2.2.2.2
  have h3 := h1.2.1
  have h4 := h1.1
  omega
/-- a change of the state's object alone -/
theorem RepC.st {Φ : Sg} {E : Nat → Nat} {C : CS} {σ σ' : Sg} {S' : SS} (h : RepC Φ E C σ) (hf : FrS (oS (E 6)) σ σ') (hst : RSt σ' (oS (E 6)) S') (hw : WFS S') : RepC Φ E (S', C.2) σ' := by
  have hr := oS_r (h.2.1.1 6 (by omega))
  have hk : Kp (fun b => b < oS (E 6) ∨ oS (E 6) + 58 ≤ b) σ σ' := ⟨hf.1, hf.2.1, fun b hb => hf.2.2 b hb⟩
  refine h.upd ⟨hf.1, hf.2.1, fun b hb => hf.2.2 b hb.2⟩ (h.1.2.1.fr hf.1 (fun a _ _ _ => (hf.2.2 a (by omega)).2) (fun j _ => by rw [(hf.2.2 121 (by omega)).2])) ?_ hst hw (h.2.2.1.2.1.kp hk (fun b hb => by omega)) (h.2.2.1.2.2.kp hk (by omega))
  obtain ⟨q1, q2, q3, q4, q5, q6, q7, q8, q9⟩ := h.1.2.2.1
  refine ⟨?_, ?_, ?_, ?_, ?_, ?_, ?_, ?_, ?_⟩
  iterate 5 (rw [hf.1]; assumption)
  iterate 4 (rw [(hf.2.2 156 (by omega)).2]; assumption)
section REC2
variable {G : GT} {d k n : Nat} {σ : Sg} {Q : Option AV → Sg → Prop}
set_option maxHeartbeats 4000000 in
theorem rec13 {Φ : Sg} {E : Nat → Nat} {C : CS} (h : RepC Φ E C σ) (hl : C.2.1.length ≤ 5) (hdp : 3 ≤ d) (hQ : ∀ σ', sn σ' = sn σ → (∀ b, 156 ≤ b → b < 161 → hI σ' b = hI σ b) → RepC Φ E (C.1, C.2.1 ++ [C.1], C.2.2) σ' → Q none σ') : WA G d k n mX5_recordChange 13 [Va 0] [] σ Q := by
  have hh := h
  obtain ⟨⟨a1, a2, a3, a4⟩, b, c, e, f, g, p⟩ := h
  have hk0 := a1.1
  have hk60 : sk σ 60 = (13, 6) := a1.2.2.1
  have hr3 : hR σ 0 3 = some 60 := a1.2.2.2.2.2.2.1
  have hEl := b.1 C.2.1.length (by omega)
  have hE6 := b.1 6 (by omega)
  have hbl := b.2.2.2 C.2.1.length (by omega)
  have hr2 : hR σ 0 2 = some (oS (E 6)) := b.2.2.1
  have h04 := f.1
  have hkh := (c.1 _ hEl).1.1
  have hd := oS_d (fun e6 => by have := b.2.1 C.2.1.length 6 (by omega) (by omega) e6; omega : E C.2.1.length ≠ E 6)
  have hrl := oS_r hEl
  have hr6 := oS_r hE6
  refine ar_aload_n 14 rfl d_X5_recordChange_13 rfl ?_
  refine ar_getA 17 rfl d_X5_recordChange_14 fl_X5_20 rfl (by assumption) (by assumption) ?_
  refine ar_aload_n 18 rfl d_X5_recordChange_17 rfl ?_
  refine ar_giv (y := (C.2.1.length : Int)) 21 rfl d_X5_recordChange_18 fl_X5_178 rfl (by assumption) h04 ?_
  refine ar_aalA 22 rfl d_X5_recordChange_21 (by assumption) (by omega) (by omega) hbl ?_
  refine ar_aload_n 23 rfl d_X5_recordChange_22 rfl ?_
  refine ar_getA 26 rfl d_X5_recordChange_23 fl_X5_16 rfl (by assumption) (by assumption) ?_
  refine ar_callV0 (M' := mX4_copyFrom) (As := [_]) (ls' := [Va _, Vr _, Vu]) 29 rfl d_X5_recordChange_26 ml_X5_195 mt_X4_copyFrom (by assumption) rfl (Nat.le_of_ble_eq_true rfl) rfl (Nat.le_of_ble_eq_true rfl) (by omega) ?_
  refine sp_X4_copyFrom (c.1 _ hEl).1 (c.1 _ hEl).2 e.1 hd hrl.1.2 e.2.lk18 (by omega) (fun σ1 hf1 hst1 => ?_)
  have hk0 : (sk σ1 0).1 = 6 := by rw [hf1.1]; exact hk0
  have h041 : hI σ1 0 4 = (C.2.1.length : Int) := by rw [(hf1.2.2 0 (by omega)).1]; exact h04
  refine ar_aload_n 30 rfl d_X5_recordChange_29 rfl ?_
  refine ar_dup 31 rfl d_X5_recordChange_30 (fun _ => rfl) ?_
  refine ar_giv (y := (C.2.1.length : Int)) 34 rfl d_X5_recordChange_31 fl_X5_178 rfl (by assumption) h041 ?_
  refine ar_iconst 35 rfl d_X5_recordChange_34 ?_
  refine ar_iadd 36 rfl d_X5_recordChange_35 ?_
  refine ar_top (y := ((C.2.1.length + 1 : Nat) : Int)) (by omega) ?_
  refine ar_putI 39 rfl d_X5_recordChange_36 fl_X5_178 rfl rfl (by assumption) ?_
  refine WA.ret none ⟨d_X5_recordChange_39, rfl, rfl⟩ ?_
  have hi' : ∀ b', b' ≠ 0 → hI (wI σ1 0 4 ((C.2.1.length + 1 : Nat) : Int)) b' = hI σ1 b' := fun b' hb' => by
    funext j
    rw [hI_w, if_neg (by omega)]
  have hi0 : ∀ j, j ≠ 4 → hI (wI σ1 0 4 ((C.2.1.length + 1 : Nat) : Int)) 0 j = hI σ1 0 j := fun j hj => by rw [hI_w, if_neg (by omega)]
  have h044 : hI (wI σ1 0 4 ((C.2.1.length + 1 : Nat) : Int)) 0 4 = ((C.2.1.length + 1 : Nat) : Int) := by rw [hI_w, if_pos ⟨rfl, rfl⟩]
  have hr' : hR (wI σ1 0 4 ((C.2.1.length + 1 : Nat) : Int)) = hR σ1 := rfl
  have hk1 : Kp (fun b' => b' ≠ 0) σ1 (wI σ1 0 4 ((C.2.1.length + 1 : Nat) : Int)) := ⟨rfl, rfl, fun b' hb' => ⟨hi' b' hb', rfl⟩⟩
  have hkk : Kp (fun b' => b' ≠ 0 ∧ (b' < oS (E C.2.1.length) ∨ oS (E C.2.1.length) + 58 ≤ b')) σ (wI σ1 0 4 ((C.2.1.length + 1 : Nat) : Int)) := ⟨hf1.1, hf1.2.1, fun b' hb' => ⟨(hi' b' hb'.1).trans (hf1.2.2 b' hb'.2).1, (hf1.2.2 b' hb'.2).2⟩⟩
  have hst2 := hst1.kp hk1 (fun b' hb' => by omega) hrl.1.2 (by have := hf1.2.1; omega)
  have hr0 : hR (wI σ1 0 4 ((C.2.1.length + 1 : Nat) : Int)) 0 = hR σ 0 := (hf1.2.2 0 (by omega)).2
  have hi01 : hI (wI σ1 0 4 ((C.2.1.length + 1 : Nat) : Int)) 0 1 = hI σ 0 1 := by rw [hi0 1 (by omega), (hf1.2.2 0 (by omega)).1]
  generalize wI σ1 0 4 ((C.2.1.length + 1 : Nat) : Int) = σ9 at hi' hi0 h044 hr' hk1 hkk hst2 hr0 hi01
  have hsk : sk σ9 = sk σ := hkk.1
  refine hQ σ9 hkk.2.1 (fun b' _ _ => (hkk.2.2 b' (by omega)).1) ⟨⟨a1.kp hkk (fun j _ => by rw [hr0]) (by omega), a2.fr hsk (fun a _ _ _ => (hkk.2.2 a (by omega)).2) (fun j _ => by rw [(hkk.2.2 121 (by omega)).2]), ?_, by rw [hkk.2.1]; exact a4⟩, ⟨b.1, b.2.1, by rw [hr0]; exact hr2, by rw [(hkk.2.2 60 (by omega)).2]; exact b.2.2.2⟩, ⟨fun i hi => ?_, c.2.1.kp hkk (fun b' hb' => by omega), c.2.2.kp hkk (by omega)⟩, ⟨e.1.kp hkk (fun b' hb' => by omega) hr6.1.2 a4, e.2⟩, ⟨?_, ?_, fun i S hS => ?_⟩, g.kp hkk (fun b' hb' => by omega) a4, p.kp hkk hi01 (by omega)⟩
  · obtain ⟨q1, q2, q3, q4, q5, q6, q7, q8, q9⟩ := a3
    refine ⟨?_, ?_, ?_, ?_, ?_, ?_, ?_, ?_, ?_⟩
    iterate 5 (rw [hsk]; assumption)
    iterate 4 (rw [(hkk.2.2 156 (by omega)).2]; assumption)
  · by_cases e6 : i = E C.2.1.length
    · rw [e6]
      exact ⟨hst2.1, hst2.2.2.2.pr⟩
    · have hd2 := oS_d e6
      have hri := oS_r hi
      exact ⟨(c.1 i hi).1.kp hkk (fun b' hb' => by omega), (c.1 i hi).2.kp hkk (by omega)⟩
  · rw [h044]
    show _ = (((C.2.1 ++ [C.1]).length : Nat) : Int)
    simp
  · show (C.2.1 ++ [C.1]).length ≤ 6
    simp
    omega
  · have hS : (C.2.1 ++ [C.1])[i]? = some S := hS
    have hi := (List.getElem?_eq_some_iff.mp hS).1
    simp only [List.length_append, List.length_cons, List.length_nil] at hi
    by_cases ei : i = C.2.1.length
    · rw [ei, List.getElem?_append_right (Nat.le_refl _), Nat.sub_self] at hS
      simp only [List.getElem?_cons_zero] at hS
      cases hS
      rw [ei]
      exact ⟨hst2, e.2⟩
    · rw [List.getElem?_append_left (by omega)] at hS
      have h9 := f.2.2 i S hS
      have hri := oS_r (b.1 i (by omega))
      have hd2 := oS_d (fun e6 => by have := b.2.1 i C.2.1.length (by omega) (by omega) e6; omega : E i ≠ E C.2.1.length)
      exact ⟨h9.1.kp hkk (fun b' hb' => by omega) hri.1.2 a4, h9.2⟩
theorem sp_recordChange2 {Φ : Sg} {E : Nat → Nat} {C : CS} (h : RepC Φ E C σ) (hdp : 3 ≤ d) (hQ : ∀ E' σ', sn σ' = sn σ → (∀ b, 156 ≤ b → b < 161 → hI σ' b = hI σ b) → RepC Φ E' (recF C) σ' → Q none σ') : WA G d k n mX5_recordChange 0 [Va 0] [] σ Q := by
  have hk0 := h.1.1.1
  have h04 := h.2.2.2.2.1.1
  have hle := h.2.2.2.2.1.2.1
  unfold recF at hQ
  refine ar_aload_n 1 rfl d_X5_recordChange_0 rfl ?_
  refine ar_giv (y := (C.2.1.length : Int)) 4 rfl d_X5_recordChange_1 fl_X5_178 rfl (by assumption) h04 ?_
  refine ar_bipush 6 rfl d_X5_recordChange_4 rfl ?_
  refine ar_icmp_ne 13 9 rfl rfl d_X5_recordChange_6 (by omega) (by omega) (fun g6 => ?_) (fun g6 => ?_)
  · rw [if_neg (by omega)] at hQ
    exact rec13 h (by omega) (by omega) (fun σ' a a2 b => hQ E σ' a a2 b)
  · refine ar_aload_n 10 rfl d_X5_recordChange_9 rfl ?_
    refine ar_callV0 (M' := mX5_dropOldestChange) (As := []) (ls' := [Va _, Vu, Vu]) 13 rfl d_X5_recordChange_10 ml_X5_202 mt_X5_dropOldestChange (by assumption) rfl (Nat.le_of_ble_eq_true rfl) rfl (Nat.le_of_ble_eq_true rfl) (by omega) ?_
    have hl6 : C.2.1.length = 6 := by omega
    rw [if_pos hl6] at hQ
    refine sp_X5_dropOldestChange h hl6 (fun σ1 hs1 hs2 h1 => ?_)
    exact rec13 h1 (by show (C.2.1.drop 1).length ≤ 5; rw [List.length_drop]; omega) (by omega) (fun σ' a a2 b => hQ _ σ' (a.trans hs1) (fun b' e1 e2 => (a2 b' e1 e2).trans (hs2 b' e1 e2)) b)
theorem sp_X5_recordChange {Φ : Sg} {E : Nat → Nat} {C : CS} (h : RepC Φ E C σ) (hdp : 3 ≤ d) (hQ : ∀ E' σ', sn σ' = sn σ → RepC Φ E' (recF C) σ' → Q none σ') : WA G d k n mX5_recordChange 0 [Va 0] [] σ Q := sp_recordChange2 h hdp (fun E' σ' a _ b => hQ E' σ' a b)
end REC2
