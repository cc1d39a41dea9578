-- ===== the class's object =====
/-- the seven objects that hold the state and its history -/
def oS (i : Nat) : Nat := if i = 0 then 2 else 103 + 58 * i
theorem oS_d {i j : Nat} (h : i ≠ j) : oS i + 58 ≤ oS j ∨ oS j + 58 ≤ oS i := by
  unfold oS
  split <;> split <;> omega
theorem oS_r {i : Nat} (h : i < 7) : ((oS i + 58 ≤ 121 ∨ 156 ≤ oS i) ∧ oS i + 58 ≤ 652) ∧ (oS i + 58 ≤ 60 ∨ (161 ≤ oS i ∧ oS i + 58 ≤ 509)) ∧ 2 ≤ oS i := by
  unfold oS
  split <;> omega
/-- now, history (the oldest first), slots, pad -/
abbrev CS : Type := SS × List SS × (Nat → Option SS) × List Int
def ShX (σ : Sg) : Prop := (sk σ 0).1 = 6 ∧ sk σ 1 = (10, 60) ∧ sk σ 60 = (13, 6) ∧ sk σ 61 = (13, 2) ∧ sk σ 62 = (11, 2) ∧ hR σ 0 0 = some 1 ∧ hR σ 0 3 = some 60 ∧ hR σ 0 5 = some 61 ∧ hR σ 0 6 = some 62 ∧ hR σ 0 7 = some 63 ∧ hR σ 0 8 = some 121 ∧ hR σ 0 9 = some 156 ∧ hR σ 61 0 = some 509 ∧ hR σ 61 1 = some 567
def PE (E : Nat → Nat) (σ : Sg) : Prop := (∀ i, i < 7 → E i < 7) ∧ (∀ i j, i < 7 → j < 7 → E i = E j → i = j) ∧ hR σ 0 2 = some (oS (E 6)) ∧ ∀ i, i < 6 → hR σ 60 i = some (oS (E i))
def OBs (σ : Sg) : Prop := (∀ i, i < 7 → ShS σ (oS i) ∧ PRm σ (oS i)) ∧ ShS σ 63 ∧ PRm σ 63
def HIs (E : Nat → Nat) (H : List SS) (σ : Sg) : Prop := hI σ 0 4 = (H.length : Int) ∧ H.length ≤ 6 ∧ ∀ i S, H[i]? = some S → RSt σ (oS (E i)) S ∧ WFS S
/-- the cells of the reference stay -/
def FrX (Φ σ : Sg) : Prop := ∀ b, 625 ≤ b → b < 652 → sk σ b = sk Φ b ∧ hI σ b = hI Φ b ∧ hR σ b = hR Φ b
def SLs (Φ : Sg) (Z : Nat → Option SS) (σ : Sg) : Prop := FrX Φ σ ∧ ∀ j, j < 2 → ShS σ (509 + 58 * j) ∧ PRm σ (509 + 58 * j) ∧ ((Z j = none ∧ hI σ 62 j = 0) ∨ ∃ S, Z j = some S ∧ hI σ 62 j = 1 ∧ RSt σ (509 + 58 * j) S ∧ WFS S)
def PDs (cs : List Int) (σ : Sg) : Prop := hI σ 0 1 = (cs.length : Int) ∧ cs.length ≤ 60 ∧ ∀ (j : Nat) (x : Int), cs[j]? = some x → hI σ 1 j = x ∧ 33 ≤ x ∧ x ≤ 126
def RepC (Φ : Sg) (E : Nat → Nat) (C : CS) (σ : Sg) : Prop := (ShX σ ∧ ShB σ ∧ ShR σ ∧ 652 ≤ sn σ) ∧ PE E σ ∧ OBs σ ∧ (RSt σ (oS (E 6)) C.1 ∧ WFS C.1) ∧ HIs E C.2.1 σ ∧ SLs Φ C.2.2.1 σ ∧ PDs C.2.2.2 σ
theorem PRm.fr {σ σ' : Sg} {s : Nat} (h : PRm σ s) (e : hR σ' (s + 4) = hR σ (s + 4)) : PRm σ' s := by
  unfold PRm
  rw [e]
  exact h
/-- kept: kinds; the cells of P -/
def Kp (P : Nat → Prop) (σ σ' : Sg) : Prop := sk σ' = sk σ ∧ sn σ' = sn σ ∧ ∀ b, P b → hI σ' b = hI σ b ∧ hR σ' b = hR σ b
theorem RSt.kp {P : Nat → Prop} {σ σ' : Sg} {s : Nat} {S : SS} (h : RSt σ s S) (hk : Kp P σ σ') (h1 : ∀ b, (s ≤ b ∧ b < s + 58) ∨ 652 ≤ b → P b) (hs : s + 58 ≤ 652) (hn : 652 ≤ sn σ) : RSt σ' s S :=
  h.fr (fun b hb _ => ⟨by rw [hk.1], hk.2.2 b (h1 b hb)⟩) (by omega) (by rw [hk.2.1]; exact Nat.le_refl _)
theorem ShS.kp {P : Nat → Prop} {σ σ' : Sg} {s : Nat} (h : ShS σ s) (hk : Kp P σ σ') (h1 : ∀ b, (s ≤ b ∧ b < s + 58) → P b) : ShS σ' s := h.fr hk.1 (fun b hb hb2 => (hk.2.2 b (h1 b (by omega))).2)
theorem PRm.kp {P : Nat → Prop} {σ σ' : Sg} {s : Nat} (h : PRm σ s) (hk : Kp P σ σ') (h1 : P (s + 4)) : PRm σ' s := h.fr (hk.2.2 _ h1).2
theorem ShX.kp {P : Nat → Prop} {σ σ' : Sg} (h : ShX σ) (hk : Kp P σ σ') (h0 : ∀ j, j ≠ 2 → hR σ' 0 j = hR σ 0 j) (h1 : P 61) : ShX σ' := by
  obtain ⟨q1, q2, q3, q4, q5, q6, q7, q8, q9, q10, q11, q12, q13, q14⟩ := h
  refine ⟨?_, ?_, ?_, ?_, ?_, ?_, ?_, ?_, ?_, ?_, ?_, ?_, ?_, ?_⟩
  iterate 5 (rw [hk.1]; assumption)
  iterate 7 (rw [h0 _ (by omega)]; assumption)
  · rw [(hk.2.2 61 h1).2]; assumption
  · rw [(hk.2.2 61 h1).2]; assumption
theorem FrX.kp {P : Nat → Prop} {Φ σ σ' : Sg} (h : FrX Φ σ) (hk : Kp P σ σ') (h1 : ∀ b, 625 ≤ b → b < 652 → P b) : FrX Φ σ' := by
  intro b hb hb2
  have h2 := h b hb hb2
  have h3 := hk.2.2 b (h1 b hb hb2)
  rw [hk.1, h3.1, h3.2]
  exact h2
theorem SLs.kp {P : Nat → Prop} {Φ σ σ' : Sg} {Z : Nat → Option SS} (h : SLs Φ Z σ) (hk : Kp P σ σ') (h1 : ∀ b, 509 ≤ b ∨ b = 62 → P b) (hn : 652 ≤ sn σ) : SLs Φ Z σ' := by
  refine ⟨fun b hb hb2 => ?_, ?_⟩
  · have h2 := h.1 b hb hb2
    have h3 := hk.2.2 b (h1 b (by omega))
    rw [hk.1, h3.1, h3.2]
    exact h2
  intro j hj
  obtain ⟨a, b, c⟩ := h.2 j hj
  refine ⟨a.kp hk (fun b hb => h1 b (by omega)), b.kp hk (h1 _ (by omega)), ?_⟩
  rw [(hk.2.2 62 (h1 62 (by omega))).1]
  rcases c with c | ⟨S, c1, c2, c3, c4⟩
  · exact Or.inl c
  · exact Or.inr ⟨S, c1, c2, c3.kp hk (fun b hb => h1 b (by omega)) (by omega) hn, c4⟩
theorem PDs.kp {P : Nat → Prop} {σ σ' : Sg} {cs : List Int} (h : PDs cs σ) (hk : Kp P σ σ') (h0 : hI σ' 0 1 = hI σ 0 1) (h1 : P 1) : PDs cs σ' := ⟨by rw [h0]; exact h.1, h.2.1, by rw [(hk.2.2 1 h1).1]; exact h.2.2⟩
/-- a change of the state's object, of the trial's, of the baker and of the reader -/
theorem RepC.upd {Φ : Sg} {E : Nat → Nat} {C : CS} {σ σ' : Sg} {S' : SS} (h : RepC Φ E C σ) (hk : Kp (fun b => ¬ (63 ≤ b ∧ b < 161) ∧ (b < oS (E 6) ∨ oS (E 6) + 58 ≤ b)) σ σ') (hB : ShB σ') (hR' : ShR σ') (hst : RSt σ' (oS (E 6)) S') (hw : WFS S') (h63 : ShS σ' 63) (hp63 : PRm σ' 63) : RepC Φ E (S', C.2) σ' := by
  obtain ⟨⟨a1, a2, a3, a4⟩, b, c, e, f, g, p⟩ := h
  have h6 := b.1 6 (by omega)
  have hr := oS_r h6
  have h0 : hI σ' 0 = hI σ 0 ∧ hR σ' 0 = hR σ 0 := hk.2.2 0 (by omega)
  refine ⟨⟨a1.kp hk (fun j _ => by rw [h0.2]) (by omega), hB, hR', by rw [hk.2.1]; exact a4⟩, ⟨b.1, b.2.1, by rw [h0.2]; exact b.2.2.1, by rw [(hk.2.2 60 (by omega)).2]; exact b.2.2.2⟩, ⟨fun i hi => ?_, h63, hp63⟩, ⟨hst, hw⟩, ⟨by rw [h0.1]; exact f.1, f.2.1, fun i S hS => ?_⟩, g.kp hk (fun b hb => by omega) a4, p.kp hk (by rw [h0.1]) (by omega)⟩
  · have hi2 := oS_r hi
    by_cases e6 : i = E 6
    · rw [e6]
      exact ⟨hst.1, hst.2.2.2.pr⟩
    · have hd := oS_d e6
      exact ⟨(c.1 i hi).1.kp hk (fun b hb => by omega), (c.1 i hi).2.kp hk (by omega)⟩
  · have hi : i < C.2.1.length := (List.getElem?_eq_some_iff.mp hS).1
    have hi6 : i < 6 := by have := f.2.1; omega
    have hE := b.1 i (by omega)
    have hi2 := oS_r hE
    have hd := oS_d (fun e6 => by have := b.2.1 i 6 (by omega) (by omega) e6; omega : E i ≠ E 6)
    exact ⟨(f.2.2 i S hS).1.kp hk (fun b hb => by omega) hi2.1.2 a4, (f.2.2 i S hS).2⟩
/-- the change of the state that is recorded -/
def recF (C : CS) : CS := (C.1, (if C.2.1.length = 6 then C.2.1.drop 1 else C.2.1) ++ [C.1], C.2.2)
section REC
variable {G : GT} {d k n : Nat} {σ : Sg} {Q : Option AV → Sg → Prop}
def hsh (σ : Sg) (E : Nat → Nat) (i : Nat) : Sg := (σ.1, fun b j => if b = 60 ∧ j + 1 < i then some (oS (E (j + 1))) else σ.2.1 b j, σ.2.2)
theorem sp_X5_dropOldestChange {Φ : Sg} {E : Nat → Nat} {C : CS} (h : RepC Φ E C σ) (hl : C.2.1.length = 6) (hQ : ∀ σ', sn σ' = sn σ → (∀ b, 156 ≤ b → b < 161 → hI σ' b = hI σ b) → RepC Φ (fun i => if i < 5 then E (i + 1) else if i = 5 then E 0 else E i) (C.1, C.2.1.drop 1, C.2.2) σ' → Q none σ') : WA G d k n mX5_dropOldestChange 0 [Va 0, Vu, Vu] [] σ Q := by
  obtain ⟨⟨a1, a2, a3, a4⟩, b, c, e, f, g, p⟩ := h
  have hk0 := a1.1
  have hk60 : sk σ 60 = (13, 6) := a1.2.2.1
  have hr3 : hR σ 0 3 = some 60 := a1.2.2.2.2.2.2.1
  have hb0 := b.2.2.2 0 (by omega)
  have hks : ∀ i, i < 7 → (sk σ (oS i)).1 = 5 := fun i hi => (c.1 i hi).1.1
  have loop : ∀ r i : Nat, 6 - i = r → 1 ≤ i → i ≤ 6 → WA G d k n mX5_dropOldestChange 9 [Va 0, Va (oS (E 0)), Vi (i : Int)] [] (hsh σ E i) Q := by
    intro r
    induction r using Nat.strongRecOn with
    | ind r ih =>
    intro i hr h1 hi
    have hr3i : hR (hsh σ E i) 0 3 = some 60 := by
      show (if (0 = 60 ∧ 3 + 1 < i) then some (oS (E (3 + 1))) else hR σ 0 3) = _
      rw [if_neg (by omega)]
      exact hr3
    have hki : sk (hsh σ E i) 60 = (13, 6) := hk60
    refine ar_iload_n 10 rfl d_X5_dropOldestChange_9 rfl ?_
    refine ar_bipush 12 rfl d_X5_dropOldestChange_10 rfl ?_
    refine ar_icmp_ge 35 15 rfl rfl d_X5_dropOldestChange_12 (by omega) (by omega) (fun g12 => ?_) (fun g12 => ?_)
    · have hi6 : i = 6 := by omega
      subst hi6
      refine ar_aload_n 36 rfl d_X5_dropOldestChange_35 rfl ?_
      refine ar_getA 39 rfl d_X5_dropOldestChange_36 fl_X5_20 rfl (by assumption) (by assumption) ?_
      refine ar_iconst 40 rfl d_X5_dropOldestChange_39 ?_
      refine ar_aload_n 41 rfl d_X5_dropOldestChange_40 rfl ?_
      refine ar_aasN (kd := 13) 5 42 rfl d_X5_dropOldestChange_41 (by assumption) (by omega) (by omega) (by omega) (hks _ (b.1 0 (by omega))) ?_
      refine ar_aload_n 43 rfl d_X5_dropOldestChange_42 rfl ?_
      refine ar_iconst 44 rfl d_X5_dropOldestChange_43 ?_
      refine ar_putI 47 rfl d_X5_dropOldestChange_44 fl_X5_178 rfl rfl (by assumption) ?_
      refine WA.ret none ⟨d_X5_dropOldestChange_47, rfl, rfl⟩ ?_
      have hh : ∀ (b' j : Nat), hR (wI (wR (hsh σ E 6) 60 5 (some (oS (E 0)))) 0 4 5) b' j = if b' = 60 ∧ j = 5 then some (oS (E 0)) else if b' = 60 ∧ j + 1 < 6 then some (oS (E (j + 1))) else hR σ b' j := fun _ _ => rfl
      have hi' : ∀ b', b' ≠ 0 → hI (wI (wR (hsh σ E 6) 60 5 (some (oS (E 0)))) 0 4 5) b' = hI σ b' := fun b' hb' => by
        funext j
        rw [hI_w, if_neg (by omega)]
        rfl
      have hi0 : ∀ j, j ≠ 4 → hI (wI (wR (hsh σ E 6) 60 5 (some (oS (E 0)))) 0 4 5) 0 j = hI σ 0 j := fun j hj => by
        rw [hI_w, if_neg (by omega)]
        rfl
      have hr' : ∀ b', b' ≠ 60 → hR (wI (wR (hsh σ E 6) 60 5 (some (oS (E 0)))) 0 4 5) b' = hR σ b' := fun b' hb' => by
        funext j
        rw [hh, if_neg (by omega), if_neg (by omega)]
      have h04 : hI (wI (wR (hsh σ E 6) 60 5 (some (oS (E 0)))) 0 4 5) 0 4 = 5 := by rw [hI_w, if_pos ⟨rfl, rfl⟩]
      have hkk : Kp (fun b' => b' ≠ 0 ∧ b' ≠ 60) σ (wI (wR (hsh σ E 6) 60 5 (some (oS (E 0)))) 0 4 5) := ⟨rfl, rfl, fun b' hb' => ⟨hi' b' hb'.1, hr' b' hb'.2⟩⟩
      generalize wI (wR (hsh σ E 6) 60 5 (some (oS (E 0)))) 0 4 5 = σ9 at hh hi' hi0 hr' h04 hkk
      have hsk : sk σ9 = sk σ := hkk.1
      have hE0 := b.1
      have hsn9 : sn σ9 = sn σ := hkk.2.1
      have hrd9 : ∀ b', 156 ≤ b' → b' < 161 → hI σ9 b' = hI σ b' := fun b' _ _ => hi' b' (by omega)
      refine hQ σ9 hsn9 hrd9 ⟨⟨a1.kp hkk (fun j _ => by rw [hr' 0 (by omega)]) (by omega), a2.fr hsk (fun a _ _ _ => hr' a (by omega)) (fun j _ => by rw [hr' 121 (by omega)]), ?_, by rw [hkk.2.1]; exact a4⟩, ⟨fun i hi => ?_, fun i j hi hj hij => ?_, ?_, fun i hi => ?_⟩, ⟨fun i hi => ?_, ?_, ?_⟩, ⟨?_, e.2⟩, ⟨?_, ?_, fun i S hS => ?_⟩, g.kp hkk (fun b' hb' => by omega) a4, p.kp hkk (hi0 1 (by omega)) (by omega)⟩
      · obtain ⟨q1, q2, q3, q4, q5, q6, q7, q8, q9⟩ := a3
        refine ⟨?_, ?_, ?_, ?_, ?_, ?_, ?_, ?_, ?_⟩
        iterate 5 (rw [hsk]; assumption)
        iterate 4 (rw [hr' 156 (by omega)]; assumption)
      · show (if i < 5 then E (i + 1) else if i = 5 then E 0 else E i) < 7
        have q0 := hE0 0 (by omega)
        have q1 := hE0 i hi
        split
        · exact hE0 (i + 1) (by omega)
        · split <;> assumption
      · have hij : (if i < 5 then E (i + 1) else if i = 5 then E 0 else E i) = (if j < 5 then E (j + 1) else if j = 5 then E 0 else E j) := hij
        have key : ∀ i, i < 7 → ∃ i', i' < 7 ∧ (if i < 5 then E (i + 1) else if i = 5 then E 0 else E i) = E i' ∧ i' = (if i < 5 then i + 1 else if i = 5 then 0 else i) := by
          intro i hi
          by_cases c1 : i < 5
          · exact ⟨i + 1, by omega, by rw [if_pos c1], by rw [if_pos c1]⟩
          · by_cases c2 : i = 5
            · exact ⟨0, by omega, by rw [if_neg c1, if_pos c2], by rw [if_neg c1, if_pos c2]⟩
            · exact ⟨i, hi, by rw [if_neg c1, if_neg c2], by rw [if_neg c1, if_neg c2]⟩
        obtain ⟨i', u1, u2, u3⟩ := key i hi
        obtain ⟨j', v1, v2, v3⟩ := key j hj
        rw [u2, v2] at hij
        have h9 := b.2.1 i' j' u1 v1 hij
        rw [u3, v3] at h9
        split at h9 <;> split at h9 <;> (try split at h9) <;> (try split at h9) <;> omega
      · show _ = some (oS (if 6 < 5 then E (6 + 1) else if 6 = 5 then E 0 else E 6))
        rw [hr' 0 (by omega), if_neg (by omega), if_neg (by omega)]
        exact b.2.2.1
      · show _ = some (oS (if i < 5 then E (i + 1) else if i = 5 then E 0 else E i))
        rw [hh]
        by_cases c1 : i = 5
        · rw [if_pos ⟨rfl, c1⟩, if_neg (by omega), if_pos c1]
        · rw [if_neg (by omega), if_pos ⟨rfl, by omega⟩, if_pos (by omega)]
      · have hi2 := oS_r hi
        exact ⟨(c.1 i hi).1.kp hkk (fun b' hb' => by omega), (c.1 i hi).2.kp hkk (by omega)⟩
      · exact c.2.1.kp hkk (fun b' hb' => by omega)
      · exact c.2.2.kp hkk (by omega)
      · show RSt σ9 (oS (if 6 < 5 then E (6 + 1) else if 6 = 5 then E 0 else E 6)) C.1
        rw [if_neg (by omega), if_neg (by omega)]
        have hi2 := oS_r (hE0 6 (by omega))
        exact e.1.kp hkk (fun b' hb' => by omega) hi2.1.2 a4
      · show _ = (((C.2.1.drop 1).length : Nat) : Int)
        rw [h04, List.length_drop]
        omega
      · show (C.2.1.drop 1).length ≤ 6
        rw [List.length_drop]
        omega
      · have hS : (C.2.1.drop 1)[i]? = some S := hS
        have hi := (List.getElem?_eq_some_iff.mp hS).1
        rw [List.length_drop] at hi
        rw [List.getElem?_drop, Nat.add_comm] at hS
        show RSt σ9 (oS (if i < 5 then E (i + 1) else if i = 5 then E 0 else E i)) S ∧ WFS S
        rw [if_pos (by omega)]
        have h9 := f.2.2 (i + 1) S hS
        have hi2 := oS_r (hE0 (i + 1) (by omega))
        exact ⟨h9.1.kp hkk (fun b' hb' => by omega) hi2.1.2 a4, h9.2⟩
    · have hbi : hR (hsh σ E i) 60 i = some (oS (E i)) := by
        show (if (60 = 60 ∧ i + 1 < i) then some (oS (E (i + 1))) else hR σ 60 i) = _
        rw [if_neg (by omega)]
        exact b.2.2.2 i (by omega)
      have hki5 : (sk (hsh σ E i) (oS (E i))).1 = 5 := hks _ (b.1 i (by omega))
      refine ar_aload_n 16 rfl d_X5_dropOldestChange_15 rfl ?_
      refine ar_getA 19 rfl d_X5_dropOldestChange_16 fl_X5_20 rfl (by assumption) (by assumption) ?_
      refine ar_iload_n 20 rfl d_X5_dropOldestChange_19 rfl ?_
      refine ar_iconst 21 rfl d_X5_dropOldestChange_20 ?_
      refine ar_isub 22 rfl d_X5_dropOldestChange_21 ?_
      refine ar_aload_n 23 rfl d_X5_dropOldestChange_22 rfl ?_
      refine ar_getA 26 rfl d_X5_dropOldestChange_23 fl_X5_20 rfl (by assumption) (by assumption) ?_
      refine ar_iload_n 27 rfl d_X5_dropOldestChange_26 rfl ?_
      refine ar_aalA 28 rfl d_X5_dropOldestChange_27 (by assumption) (by omega) (by omega) hbi ?_
      refine ar_aasN (kd := 13) (i - 1) 29 rfl d_X5_dropOldestChange_28 (by assumption) (by omega) (by omega) (by omega) hki5 ?_
      refine ar_inc_2 (y := ((i + 1 : Nat) : Int)) 32 rfl d_X5_dropOldestChange_29 rfl (by intro _ h; cases h) (by omega) ?_
      refine ar_goto 9 rfl d_X5_dropOldestChange_32 ?_
      have hee : wR (hsh σ E i) 60 (i - 1) (some (oS (E i))) = hsh σ E (i + 1) := by
        show ((σ.1, _, σ.2.2) : Sg) = (σ.1, _, σ.2.2)
        refine Prod.ext rfl (Prod.ext ?_ rfl)
        funext b' j
        show (if (b' = 60 ∧ j = i - 1) then some (oS (E i)) else (if b' = 60 ∧ j + 1 < i then some (oS (E (j + 1))) else σ.2.1 b' j)) = (if b' = 60 ∧ j + 1 < i + 1 then some (oS (E (j + 1))) else σ.2.1 b' j)
        by_cases c1 : b' = 60 ∧ j = i - 1
        · rw [if_pos c1, if_pos (by omega), show j + 1 = i by omega]
        · rw [if_neg c1]
          by_cases c2 : b' = 60 ∧ j + 1 < i
          · rw [if_pos c2, if_pos (by omega)]
          · rw [if_neg c2, if_neg (by omega)]
      rw [hee]
      exact ih (6 - (i + 1)) (by omega) (i + 1) rfl (by omega) (by omega)
  have h1e : hsh σ E 1 = σ := by
    show ((σ.1, _, σ.2.2) : Sg) = σ
    refine Prod.ext rfl (Prod.ext ?_ rfl)
    funext b' j
    show (if b' = 60 ∧ j + 1 < 1 then some (oS (E (j + 1))) else σ.2.1 b' j) = _
    rw [if_neg (by omega)]
  have l1 := loop 5 1 rfl (by omega) (by omega)
  rw [h1e] at l1
  refine ar_aload_n 1 rfl d_X5_dropOldestChange_0 rfl ?_
  refine ar_getA 4 rfl d_X5_dropOldestChange_1 fl_X5_20 rfl (by assumption) (by assumption) ?_
  refine ar_iconst 5 rfl d_X5_dropOldestChange_4 ?_
  refine ar_aalA 6 rfl d_X5_dropOldestChange_5 (by assumption) (by omega) (by omega) hb0 ?_
  refine ar_ast_1 7 rfl d_X5_dropOldestChange_6 rfl (by intro _ h; cases h) ?_
  refine ar_iconst 8 rfl d_X5_dropOldestChange_7 ?_
  refine ar_ist_2 9 rfl d_X5_dropOldestChange_8 rfl (by intro _ h; cases h) ?_
  exact l1
end REC
