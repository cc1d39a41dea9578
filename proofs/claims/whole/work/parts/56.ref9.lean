-- ===== the reference's object =====
def RsW (g : Nat → Int) (S : SS) : Prop := Rs g S ∧ WFS S ∧ HtS S
theorem RsW.cg {g g' : Nat → Int} {S : SS} (h : RsW g S) (e : ∀ i, i < 1496 → g' i = g i) : RsW g' S := ⟨h.1.cg h.2.1.bd e, h.2⟩
def RepM (C : CS) (σ : Sg) : Prop := Sh6 σ ∧ RsW (hI σ 626) C.1 ∧ (hI σ 625 3 = (C.2.1.length : Int) ∧ C.2.1.length ≤ 6 ∧ ∀ i S, C.2.1[i]? = some S → RsW (fun j => hI σ 628 (1496 * i + j)) S) ∧ (∀ j, j < 2 → (C.2.2.1 j = none ∧ hI σ 630 j = 0) ∨ ∃ S, C.2.2.1 j = some S ∧ hI σ 630 j = 1 ∧ RsW (fun i => hI σ 629 (1496 * j + i)) S) ∧ (hI σ 625 7 = (C.2.2.2.length : Int) ∧ C.2.2.2.length ≤ 60 ∧ ∀ (j : Nat) (x : Int), C.2.2.2[j]? = some x → hI σ 631 j = x ∧ 33 ≤ x ∧ x ≤ 126)
theorem RepM.now {C : CS} {S' : SS} {σ σ' : Sg} (h : RepM C σ) (e : σ'.2 = σ.2) (h1 : ∀ b, 628 ≤ b → b ≤ 631 → hI σ' b = hI σ b) (h3 : hI σ' 625 3 = hI σ 625 3) (h7 : hI σ' 625 7 = hI σ 625 7) (hr : RsW (hI σ' 626) S') : RepM (S', C.2) σ' := by
  obtain ⟨a1, a2, a3, a4, a5⟩ := h
  refine ⟨a1.e e, hr, ⟨by rw [h3]; exact a3.1, a3.2.1, ?_⟩, ?_, ⟨by rw [h7]; exact a5.1, a5.2.1, ?_⟩⟩
  · rw [h1 628 (by omega) (by omega)]; exact a3.2.2
  · rw [h1 629 (by omega) (by omega), h1 630 (by omega) (by omega)]; exact a4
  · rw [h1 631 (by omega) (by omega)]; exact a5.2.2
theorem RepM.go {C : CS} {σ σ' : Sg} (h : RepM C σ) (e : σ'.2 = σ.2) (h1 : ∀ b, 628 ≤ b → b ≤ 631 → hI σ' b = hI σ b) (h3 : hI σ' 625 3 = hI σ 625 3) (h7 : hI σ' 625 7 = hI σ 625 7) (h6 : hI σ' 626 = hI σ 626) : RepM C σ' := h.now e h1 h3 h7 (by rw [h6]; exact h.2.1)
/-- the class's object, when the reference's cells change -/
theorem RepC.ref {Φ : Sg} {E : Nat → Nat} {C : CS} {σ σ' : Sg} (h : RepC Φ E C σ) (hf : FrI 625 652 σ σ') : RepC σ' E C σ' := by
  obtain ⟨⟨a1, a2, a3, a4⟩, b, c, e, f, g, p⟩ := h
  have hsk : sk σ' = sk σ := by unfold sk; rw [hf.1]
  have hsn : sn σ' = sn σ := by unfold sn; rw [hf.1]
  have hhr : hR σ' = hR σ := by unfold hR; rw [hf.1]
  have hkk : Kp (fun b' => b' < 625 ∨ 652 ≤ b') σ σ' := ⟨hsk, hsn, fun b' hb' => ⟨hf.2 b' hb', by rw [hhr]⟩⟩
  have h0 := hkk.2.2 0 (by omega)
  have hr6 := oS_r (b.1 6 (by omega))
  refine ⟨⟨a1.kp hkk (fun i _ => by rw [h0.2]) (by omega), a2.fr hkk.1 (fun a _ _ _ => by rw [hhr]) (fun i _ => by rw [hhr]), ?_, by rw [hsn]; exact a4⟩, ⟨b.1, b.2.1, by rw [hhr]; exact b.2.2.1, by rw [hhr]; exact b.2.2.2⟩, ⟨fun i hi => ?_, c.2.1.kp hkk (fun b' hb' => by omega), c.2.2.kp hkk (by omega)⟩, ⟨e.1.kp hkk (fun b' hb' => by omega) (by omega) a4, e.2⟩, ⟨by rw [h0.1]; exact f.1, f.2.1, fun i S hS => ?_⟩, ⟨fun b' _ _ => ⟨rfl, rfl, rfl⟩, fun i hi => ?_⟩, p.kp hkk (by rw [h0.1]) (by omega)⟩
  · obtain ⟨q1, q2, q3, q4, q5, q6, q7, q8, q9⟩ := a3
    refine ⟨?_, ?_, ?_, ?_, ?_, ?_, ?_, ?_, ?_⟩
    iterate 5 (rw [hsk]; assumption)
    iterate 4 (rw [hhr]; assumption)
  · have hri := oS_r hi
    exact ⟨(c.1 i hi).1.kp hkk (fun b' hb' => by omega), (c.1 i hi).2.kp hkk (by omega)⟩
  · have hi : i < C.2.1.length := (List.getElem?_eq_some_iff.mp hS).1
    have := f.2.1
    have hri := oS_r (b.1 i (by omega))
    exact ⟨(f.2.2 i S hS).1.kp hkk (fun b' hb' => by omega) hri.1.2 a4, (f.2.2 i S hS).2⟩
  · obtain ⟨u1, u2, u3⟩ := g.2 i hi
    refine ⟨u1.kp hkk (fun b' hb' => by omega), u2.kp hkk (by omega), ?_⟩
    rw [(hkk.2.2 62 (by omega)).1]
    rcases u3 with u | ⟨S, u4, u5, u6, u7⟩
    · exact Or.inl u
    · exact Or.inr ⟨S, u4, u5, u6.kp hkk (fun b' hb' => by omega) (by omega) a4, u7⟩
/-- the reference's object, when the class's cells change -/
theorem RepM.cls {C C' : CS} {Φ : Sg} {E : Nat → Nat} {σ : Sg} (h : RepM C Φ) (hc : RepC Φ E C' σ) : RepM C σ := by
  have hx := hc.2.2.2.2.2.1.1
  obtain ⟨a1, a2, a3, a4, a5⟩ := h
  have hi : ∀ b, 625 ≤ b → b < 652 → hI σ b = hI Φ b := fun b h1 h2 => (hx b h1 h2).2.1
  refine ⟨⟨?_, fun i h => ?_, fun i h => ?_⟩, ?_, ?_, ?_, ?_⟩
  · rw [(hx 625 (by omega) (by omega)).1]; exact a1.1
  · rw [(hx (626 + i) (by omega) (by omega)).1]; exact a1.2.1 i h
  · rw [(hx 625 (by omega) (by omega)).2.2]; exact a1.2.2 i h
  · rw [hi 626 (by omega) (by omega)]; exact a2
  · rw [hi 625 (by omega) (by omega), hi 628 (by omega) (by omega)]; exact a3
  · rw [hi 629 (by omega) (by omega), hi 630 (by omega) (by omega)]; exact a4
  · rw [hi 625 (by omega) (by omega), hi 631 (by omega) (by omega)]; exact a5
theorem FrW.fi {a l : Nat} {σ σ' : Sg} (ha : a = 626 ∨ a = 627) (h : FrW a l σ σ') : FrI 625 652 σ σ' := ⟨h.1, fun b hb => h.2.1 b (by omega) (by omega) (by omega) (by omega)⟩
/-- kept by recording a change -/
def FrQ (σ σ' : Sg) : Prop := σ'.2 = σ.2 ∧ (∀ b, b ≠ 625 → b ≠ 628 → hI σ' b = hI σ b) ∧ ∀ j, j ≠ 3 → hI σ' 625 j = hI σ 625 j
theorem FrQ.tr {σ σ1 σ2 : Sg} (h : FrQ σ σ1) (h2 : FrQ σ1 σ2) : FrQ σ σ2 := ⟨h2.1.trans h.1, fun b a1 a2 => (h2.2.1 b a1 a2).trans (h.2.1 b a1 a2), fun j a1 => (h2.2.2 j a1).trans (h.2.2 j a1)⟩
theorem FrQ.fi {σ σ' : Sg} (h : FrQ σ σ') : FrI 625 652 σ σ' := ⟨h.1, fun b hb => h.2.1 b (by omega) (by omega)⟩
theorem FrI.re {lo hi : Nat} {Φ σ : Sg} {E : Nat → Nat} {C : CS} (_h : RepC Φ E C σ) : FrI lo hi σ σ := FrI.rf
section REF9
variable {G : GT} {d k n : Nat} {σ : Sg} {Q : Option AV → Sg → Prop}
theorem sp_X6_rec50 {S0 : SS} {H : List SS} {Z : (Nat → Option SS) × List Int} {x1 : AV} (h : RepM (S0, H, Z) σ) (hl : H.length ≤ 5) (hdp : 1 ≤ d) (hQ : ∀ σ', FrQ σ σ' → RepM (S0, H ++ [S0], Z) σ' → Q none σ') : WA G d k n mX6_record 50 [Va 625, x1] [] σ Q := by
  obtain ⟨hS, a2, ⟨b1, b2, b3⟩, a4, a5⟩ := h
  have b1 : hI σ 625 3 = (H.length : Int) := b1
  have k625 := hS.k625
  have r2 := hS.r2
  have k628 := hS.k628
  have r0 := hS.r0
  have k626 := hS.k626
  refine ar_aload_n 51 rfl d_X6_record_50 rfl ?_
  refine ar_getA 54 rfl d_X6_record_51 fl_X6_7 rfl (by assumption) (by assumption) ?_
  refine ar_iconst 55 rfl d_X6_record_54 ?_
  refine ar_top (y := ((0 : Nat) : Int)) rfl ?_
  refine ar_aload_n 56 rfl d_X6_record_55 rfl ?_
  refine ar_getA 59 rfl d_X6_record_56 fl_X6_16 rfl (by assumption) (by assumption) ?_
  refine ar_sipush 62 rfl d_X6_record_59 rfl ?_
  refine ar_aload_n 63 rfl d_X6_record_62 rfl ?_
  refine ar_giv (y := (H.length : Int)) 66 rfl d_X6_record_63 fl_X6_216 rfl (by assumption) b1 ?_
  refine ar_imul 67 rfl d_X6_record_66 ?_
  refine ar_top (y := ((1496 * H.length : Nat) : Int)) (by omega) ?_
  refine ar_callS0 (M' := mX6_copyState) (As := [_, _, _, _]) (ls' := [Vr _, Vi _, Vr _, Vi _, Vu]) 70 rfl d_X6_record_67 ml_X6_219 mt_X6_copyState rfl (Nat.le_of_ble_eq_true rfl) rfl (Nat.le_of_ble_eq_true rfl) (by omega) ?_
  refine sp_X6_copyState (sp := 0) (dp := 1496 * H.length) k626 k628 (by omega) (by omega) (by omega) (by omega) ?_
  have hg : ∀ j, hI (cI σ 626 0 628 (1496 * H.length) 1496) 628 j = if 1496 * H.length ≤ j ∧ j < 1496 * H.length + 1496 then hI σ 626 (0 + (j - 1496 * H.length)) else hI σ 628 j := fun j => by
    rw [hI_c]
    by_cases c1 : 1496 * H.length ≤ j ∧ j < 1496 * H.length + 1496
    · rw [if_pos ⟨rfl, c1⟩, if_pos c1]
    · rw [if_neg (fun h => c1 h.2), if_neg c1]
  have hgo : ∀ b, b ≠ 628 → hI (cI σ 626 0 628 (1496 * H.length) 1496) b = hI σ b := fun b hb => by
    funext j
    rw [hI_c, if_neg (fun h => hb h.1)]
  have hg2 : (cI σ 626 0 628 (1496 * H.length) 1496).2 = σ.2 := rfl
  generalize cI σ 626 0 628 (1496 * H.length) 1496 = σ1 at hg hgo hg2
  have hS1 := hS.e hg2
  have b1' : hI σ1 625 3 = (H.length : Int) := by rw [hgo _ (by omega)]; exact b1
  have k625 := hS1.k625
  refine ar_aload_n 71 rfl d_X6_record_70 rfl ?_
  refine ar_dup 72 rfl d_X6_record_71 (fun _ => rfl) ?_
  refine ar_giv (y := (H.length : Int)) 75 rfl d_X6_record_72 fl_X6_216 rfl (by assumption) b1' ?_
  refine ar_iconst 76 rfl d_X6_record_75 ?_
  refine ar_iadd 77 rfl d_X6_record_76 ?_
  refine ar_top (y := ((H.length + 1 : Nat) : Int)) (by omega) ?_
  refine ar_putI 80 rfl d_X6_record_77 fl_X6_216 rfl rfl (by assumption) ?_
  refine WA.ret none ⟨d_X6_record_80, rfl, rfl⟩ ?_
  have hfi : FrQ σ (wI σ1 625 3 ((H.length + 1 : Nat) : Int)) := ⟨hg2, fun b h1 h2 => by rw [hI_off (by omega), hgo b (by omega)], fun j h1 => by rw [hI_w, if_neg (by omega), hgo _ (by omega)]⟩
  refine hQ _ hfi ⟨hS1.e rfl, ?_, ⟨?_, ?_, fun i S hi => ?_⟩, fun j hj => ?_, ?_, a5.2.1, fun j x hx => ?_⟩
  · rw [hI_off (by omega), hgo _ (by omega)]
    exact a2
  · rw [hI_w, if_pos ⟨rfl, rfl⟩, List.length_append]
    rfl
  · rw [List.length_append]
    show H.length + 1 ≤ 6
    omega
  · rw [hI_off (by omega)]
    have hi : (H ++ [S0])[i]? = some S := hi
    by_cases e : i < H.length
    · rw [List.getElem?_append_left e] at hi
      refine (b3 i S hi).cg (fun j hj => ?_)
      rw [hg, if_neg (by omega)]
    · have hlt := (List.getElem?_eq_some_iff.mp hi).1
      simp only [List.length_append, List.length_cons, List.length_nil] at hlt
      have e2 : i = H.length := by omega
      subst e2
      rw [List.getElem?_append_right (Nat.le_refl _), Nat.sub_self] at hi
      cases hi
      refine RsW.cg a2 (fun j hj => ?_)
      rw [hg, if_pos (by omega)]
      exact congrArg _ (by omega)
  · rw [hI_off (by omega), hgo _ (by omega), hI_off (by omega), hgo _ (by omega)]
    exact a4 j hj
  · rw [hI_w, if_neg (by omega), hgo _ (by omega)]
    exact a5.1
  · rw [hI_off (by omega), hgo _ (by omega)]
    exact a5.2.2 j x hx
theorem sp_X6_record2 {C : CS} (h : RepM C σ) (hdp : 1 ≤ d) (hQ : ∀ σ', FrQ σ σ' → RepM (recF C) σ' → Q none σ') : WA G d k n mX6_record 0 [Va 625, Vu] [] σ Q := by
  have h0 := h
  obtain ⟨hS, a2, ⟨b1, b2, b3⟩, a4, a5⟩ := h
  have k625 := hS.k625
  have r2 := hS.r2
  have k628 := hS.k628
  have r0 := hS.r0
  have k626 := hS.k626
  have loop : C.2.1.length = 6 → ∀ r m : Nat, 7480 - m = r → m ≤ 7480 → WA G d k n mX6_record 11 [Va 625, Vi (m : Int)] [] (cI σ 628 1496 628 0 m) Q := by
    intro hl6 r
    induction r using Nat.strongRecOn with
    | ind r ih =>
    intro m hr hm
    have hSi : Sh6 (cI σ 628 1496 628 0 m) := hS.e rfl
    have k625 := hSi.k625
    have r2 := hSi.r2
    have k628 := hSi.k628
    have r0 := hSi.r0
    have k626 := hSi.k626
    refine ar_iload_n 12 rfl d_X6_record_11 rfl ?_
    refine ar_sipush 15 rfl d_X6_record_12 rfl ?_
    refine ar_icmp_ge 40 18 rfl rfl d_X6_record_15 (by omega) (by omega) (fun g15 => ?_) (fun g15 => ?_)
    · have e : m = 7480 := by omega
      subst e
      have hg : ∀ j, hI (cI σ 628 1496 628 0 7480) 628 j = if j < 7480 then hI σ 628 (1496 + j) else hI σ 628 j := fun j => by
        rw [hI_c]
        by_cases c1 : j < 7480
        · rw [if_pos (by omega), if_pos c1]
          exact congrArg _ (by omega)
        · rw [if_neg (by omega), if_neg c1]
      have hgo : ∀ b, b ≠ 628 → hI (cI σ 628 1496 628 0 7480) b = hI σ b := fun b hb => by
        funext j
        rw [hI_c, if_neg (fun h => hb h.1)]
      have hg2 : (cI σ 628 1496 628 0 7480).2 = σ.2 := rfl
      generalize cI σ 628 1496 628 0 7480 = σ1 at hg hgo hg2 hSi
      have k625 := hSi.k625
      refine ar_aload_n 41 rfl d_X6_record_40 rfl ?_
      refine ar_dup 42 rfl d_X6_record_41 (fun _ => rfl) ?_
      refine ar_giv (y := (6 : Int)) 45 rfl d_X6_record_42 fl_X6_216 rfl (by assumption) (by rw [hgo _ (by omega), b1, hl6]; rfl) ?_
      refine ar_iconst 46 rfl d_X6_record_45 ?_
      refine ar_isub 47 rfl d_X6_record_46 ?_
      refine ar_top (y := (5 : Int)) (by omega) ?_
      refine ar_putI 50 rfl d_X6_record_47 fl_X6_216 rfl rfl (by assumption) ?_
      have hfi : FrQ σ (wI σ1 625 3 5) := ⟨hg2, fun b h1 h2 => by rw [hI_off (by omega), hgo b (by omega)], fun j h1 => by rw [hI_w, if_neg (by omega), hgo _ (by omega)]⟩
      have hlen : (C.2.1.drop 1).length = 5 := by rw [List.length_drop]; omega
      refine sp_X6_rec50 (S0 := C.1) (H := C.2.1.drop 1) (Z := C.2.2) ⟨hSi.e rfl, ?_, ⟨?_, ?_, fun i S hi => ?_⟩, fun j hj => ?_, ?_, a5.2.1, fun j x hx => ?_⟩ (by omega) hdp (fun σ' f1 f2 => hQ σ' (hfi.tr f1) ?_)
      · rw [hI_off (by omega), hgo _ (by omega)]
        exact a2
      · rw [hI_w, if_pos ⟨rfl, rfl⟩, hlen]
        rfl
      · rw [hlen]
        omega
      · rw [hI_off (by omega)]
        have hi : (C.2.1.drop 1)[i]? = some S := hi
        have hlt := (List.getElem?_eq_some_iff.mp hi).1
        rw [List.getElem?_drop] at hi
        refine (b3 (1 + i) S hi).cg (fun j hj => ?_)
        rw [hg, if_pos (by omega)]
        exact congrArg _ (by omega)
      · rw [hI_off (by omega), hgo _ (by omega), hI_off (by omega), hgo _ (by omega)]
        exact a4 j hj
      · rw [hI_w, if_neg (by omega), hgo _ (by omega)]
        exact a5.1
      · rw [hI_off (by omega), hgo _ (by omega)]
        exact a5.2.2 j x hx
      · unfold recF
        rw [if_pos hl6]
        exact f2
    · refine ar_aload_n 19 rfl d_X6_record_18 rfl ?_
      refine ar_getA 22 rfl d_X6_record_19 fl_X6_16 rfl (by assumption) (by assumption) ?_
      refine ar_iload_n 23 rfl d_X6_record_22 rfl ?_
      refine ar_aload_n 24 rfl d_X6_record_23 rfl ?_
      refine ar_getA 27 rfl d_X6_record_24 fl_X6_16 rfl (by assumption) (by assumption) ?_
      refine ar_iload_n 28 rfl d_X6_record_27 rfl ?_
      refine ar_sipush 31 rfl d_X6_record_28 rfl ?_
      refine ar_iadd 32 rfl d_X6_record_31 ?_
      refine ar_top (y := ((1496 + m : Nat) : Int)) (by omega) ?_
      refine ar_ilv (y := (hI (cI σ 628 1496 628 0 m) 628 (1496 + m))) 33 rfl d_X6_record_32 (by assumption) (by omega) (by rw [Int.toNat_natCast]) ?_
      refine ar_iasN (0 + m) 34 rfl d_X6_record_33 (by assumption) (by omega) (by omega) ?_
      refine ar_inc_1 (y := ((m + 1 : Nat) : Int)) 37 rfl d_X6_record_34 rfl (by intro _ h; cases h) (by omega) ?_
      refine ar_goto 11 rfl d_X6_record_37 ?_
      rw [cI_s2 _ _ _ _ _ (by omega)]
      exact ih (7480 - (m + 1)) (by omega) (m + 1) rfl (by omega)
  refine ar_aload_n 1 rfl d_X6_record_0 rfl ?_
  refine ar_giv (y := (C.2.1.length : Int)) 4 rfl d_X6_record_1 fl_X6_216 rfl (by assumption) b1 ?_
  refine ar_bipush 6 rfl d_X6_record_4 rfl ?_
  refine ar_icmp_ne 50 9 rfl rfl d_X6_record_6 (by omega) (by omega) (fun g6 => ?_) (fun g6 => ?_)
  · refine sp_X6_rec50 (S0 := C.1) (H := C.2.1) (Z := C.2.2) h0 (by omega) hdp (fun σ' f1 f2 => hQ σ' f1 ?_)
    unfold recF
    rw [if_neg (by omega)]
    exact f2
  · refine ar_iconst 10 rfl d_X6_record_9 ?_
    refine ar_ist_1 11 rfl d_X6_record_10 rfl (by intro _ h; cases h) ?_
    have l0 := loop (by omega) 7480 0 rfl (by omega)
    rw [cI_0] at l0
    exact l0
theorem sp_X6_record {C : CS} (h : RepM C σ) (hdp : 1 ≤ d) (hQ : ∀ σ', FrI 625 652 σ σ' → RepM (recF C) σ' → Q none σ') : WA G d k n mX6_record 0 [Va 625, Vu] [] σ Q := sp_X6_record2 h hdp (fun σ' f1 h1 => hQ σ' f1.fi h1)
theorem sp_X6_put {C : CS} {x y : Int} (h : RepM C σ) (hx : i32 x) (hy : i32 y) (hdp : 40 ≤ d) (hQ : ∀ σ', FrI 625 652 σ σ' → RepM (putF x y C).1 σ' → Q (some (Vi (putF x y C).2)) σ') : WA G d k n mX6_put 0 [Va 625, Vi x, Vi y, Vu] [] σ Q := by
  have k625 := h.1.k625
  refine ar_iload_n 1 rfl d_X6_put_0 rfl ?_
  refine ar_callS0 (M' := mX6_isShelf) (As := [_]) (ls' := [Vi _]) 4 rfl d_X6_put_1 ml_X6_228 mt_X6_isShelf rfl (Nat.le_of_ble_eq_true rfl) rfl (Nat.le_of_ble_eq_true rfl) (by omega) ?_
  refine sp_X6_isShelf hx (by omega) (fun g1 => ?_) (fun g1 => ?_)
  · refine ar_if_ne 9 7 rfl rfl d_X6_put_4 (by omega) (fun g4 => ?_) (fun h => absurd h (by decide))
    refine ar_iload_n 10 rfl d_X6_put_9 rfl ?_
    refine ar_i2l 11 rfl d_X6_put_10 (by omega) ?_
    refine ar_lconst 0 12 rfl d_X6_put_11 rfl ?_
    refine ar_ldc2 99 15 rfl d_X6_put_12 lc_X6_232 rfl ?_
    refine ar_callS0 (M' := mX6_in) (As := [_, _, _]) (ls' := [Vl _, Vu, Vl _, Vu, Vl _, Vu]) 18 rfl d_X6_put_15 ml_X6_91 mt_X6_in rfl (Nat.le_of_ble_eq_true rfl) rfl (Nat.le_of_ble_eq_true rfl) (by omega) ?_
    refine sp_X6_in (by constructor <;> omega) (by constructor <;> omega) (by constructor <;> omega) (fun g2 => ?_) (fun g2 => ?_)
    · refine ar_if_ne 24 21 rfl rfl d_X6_put_18 (by omega) (fun g18 => ?_) (fun h => absurd h (by decide))
      refine ar_aload_n 25 rfl d_X6_put_24 rfl ?_
      refine ar_callV0 (M' := mX6_record) (As := []) (ls' := [Va _, Vu]) 28 rfl d_X6_put_25 ml_X6_225 mt_X6_record (by assumption) rfl (Nat.le_of_ble_eq_true rfl) rfl (Nat.le_of_ble_eq_true rfl) (by omega) ?_
      refine sp_X6_record h (by omega) (fun σ1 f1 h1 => ?_)
      obtain ⟨hS1, hn1, hh1, hk1, hp1⟩ := id h1
      have k625 := hS1.k625
      have r0 := hS1.r0
      have k626 := hS1.k626
      obtain ⟨p, rfl⟩ : ∃ p : Nat, x = (p : Int) := ⟨x.toNat, by omega⟩
      have hp12 : p < 12 := by omega
      have hval : hI σ1 626 (2 + p) = C.1.1 (2 + p) := hn1.1.1 _ (by omega)
      refine ar_aload_n 29 rfl d_X6_put_28 rfl ?_
      refine ar_getA 32 rfl d_X6_put_29 fl_X6_7 rfl (by assumption) (by assumption) ?_
      refine ar_iconst 33 rfl d_X6_put_32 ?_
      refine ar_iload_n 34 rfl d_X6_put_33 rfl ?_
      refine ar_iadd 35 rfl d_X6_put_34 ?_
      refine ar_top (y := ((2 + p : Nat) : Int)) (by omega) ?_
      refine ar_ilv (y := (C.1.1 (2 + p))) 36 rfl d_X6_put_35 (by assumption) (by omega) (by rw [Int.toNat_natCast]; exact hval) ?_
      refine ar_ist_3 37 rfl d_X6_put_36 rfl (by intro _ h; cases h) ?_
      refine ar_aload_n 38 rfl d_X6_put_37 rfl ?_
      refine ar_getA 41 rfl d_X6_put_38 fl_X6_7 rfl (by assumption) (by assumption) ?_
      refine ar_iconst 42 rfl d_X6_put_41 ?_
      refine ar_iload_n 43 rfl d_X6_put_42 rfl ?_
      refine ar_iadd 44 rfl d_X6_put_43 ?_
      refine ar_top (y := ((2 + p : Nat) : Int)) (by omega) ?_
      refine ar_iload_n 45 rfl d_X6_put_44 rfl ?_
      refine ar_iasN (2 + p) 46 rfl d_X6_put_45 (by assumption) (by omega) (by omega) ?_
      refine ar_iload_n 47 rfl d_X6_put_46 rfl ?_
      refine WA.ret (some (Vi _)) ⟨d_X6_put_47, rfl, Or.inl rfl⟩ ?_
      unfold putF at hQ
      rw [if_neg (fun h => h g1), if_neg (fun h => h (by omega)), Int.toNat_natCast] at hQ
      refine hQ _ (f1.tr (FrI.w (by omega) (by omega))) (h1.now (S' := (uf C.1.1 (2 + p) y, C.1.2)) rfl (fun b _ _ => hI_off (by omega)) (by rw [hI_off (by omega)]) (by rw [hI_off (by omega)]) ⟨?_, hn1.2.1.num hp12 (by omega), hn1.2.2⟩)
      rw [hI_row]
      exact hn1.1.upd hn1.2.1.bd.2.2 (by omega)
    · refine ar_if_ne 24 21 rfl rfl d_X6_put_18 (by omega) (fun h => absurd h (by decide)) (fun g18 => ?_)
      refine ar_bipush 23 rfl d_X6_put_21 rfl ?_
      refine WA.ret (some (Vi _)) ⟨d_X6_put_23, rfl, Or.inl rfl⟩ ?_
      unfold putF at hQ
      rw [if_neg (fun h => h g1), if_pos (by omega)] at hQ
      exact hQ σ FrI.rf h
  · refine ar_if_ne 9 7 rfl rfl d_X6_put_4 (by omega) (fun h => absurd h (by decide)) (fun g4 => ?_)
    refine ar_iconst 8 rfl d_X6_put_7 ?_
    refine WA.ret (some (Vi _)) ⟨d_X6_put_8, rfl, Or.inl rfl⟩ ?_
    unfold putF at hQ
    rw [if_pos g1] at hQ
    exact hQ σ FrI.rf h
theorem sp_X6_poison {C : CS} {x y : Int} (h : RepM C σ) (hx : i32 x) (hy : i32 y) (hdp : 40 ≤ d) (hQ : ∀ σ', FrI 625 652 σ σ' → RepM (poiF x y C).1 σ' → Q (some (Vi (poiF x y C).2)) σ') : WA G d k n mX6_poison 0 [Va 625, Vi x, Vi y, Vu] [] σ Q := by
  have k625 := h.1.k625
  refine ar_iload_n 1 rfl d_X6_poison_0 rfl ?_
  refine ar_callS0 (M' := mX6_isShelf) (As := [_]) (ls' := [Vi _]) 4 rfl d_X6_poison_1 ml_X6_228 mt_X6_isShelf rfl (Nat.le_of_ble_eq_true rfl) rfl (Nat.le_of_ble_eq_true rfl) (by omega) ?_
  refine sp_X6_isShelf hx (by omega) (fun g1 => ?_) (fun g1 => ?_)
  · refine ar_if_ne 9 7 rfl rfl d_X6_poison_4 (by omega) (fun g4 => ?_) (fun h => absurd h (by decide))
    refine ar_iload_n 10 rfl d_X6_poison_9 rfl ?_
    refine ar_i2l 11 rfl d_X6_poison_10 (by omega) ?_
    refine ar_lconst 0 12 rfl d_X6_poison_11 rfl ?_
    refine ar_lconst 1 13 rfl d_X6_poison_12 rfl ?_
    refine ar_callS0 (M' := mX6_in) (As := [_, _, _]) (ls' := [Vl _, Vu, Vl _, Vu, Vl _, Vu]) 16 rfl d_X6_poison_13 ml_X6_91 mt_X6_in rfl (Nat.le_of_ble_eq_true rfl) rfl (Nat.le_of_ble_eq_true rfl) (by omega) ?_
    refine sp_X6_in (by constructor <;> omega) (by constructor <;> omega) (by constructor <;> omega) (fun g2 => ?_) (fun g2 => ?_)
    · refine ar_if_ne 22 19 rfl rfl d_X6_poison_16 (by omega) (fun g16 => ?_) (fun h => absurd h (by decide))
      refine ar_aload_n 23 rfl d_X6_poison_22 rfl ?_
      refine ar_callV0 (M' := mX6_record) (As := []) (ls' := [Va _, Vu]) 26 rfl d_X6_poison_23 ml_X6_225 mt_X6_record (by assumption) rfl (Nat.le_of_ble_eq_true rfl) rfl (Nat.le_of_ble_eq_true rfl) (by omega) ?_
      refine sp_X6_record h (by omega) (fun σ1 f1 h1 => ?_)
      obtain ⟨hS1, hn1, hh1, hk1, hp1⟩ := id h1
      have k625 := hS1.k625
      have r0 := hS1.r0
      have k626 := hS1.k626
      obtain ⟨p, rfl⟩ : ∃ p : Nat, x = (p : Int) := ⟨x.toNat, by omega⟩
      have hp12 : p < 12 := by omega
      have hval : hI σ1 626 (14 + p) = C.1.1 (14 + p) := hn1.1.1 _ (by omega)
      refine ar_aload_n 27 rfl d_X6_poison_26 rfl ?_
      refine ar_getA 30 rfl d_X6_poison_27 fl_X6_7 rfl (by assumption) (by assumption) ?_
      refine ar_bipush 32 rfl d_X6_poison_30 rfl ?_
      refine ar_iload_n 33 rfl d_X6_poison_32 rfl ?_
      refine ar_iadd 34 rfl d_X6_poison_33 ?_
      refine ar_top (y := ((14 + p : Nat) : Int)) (by omega) ?_
      refine ar_ilv (y := (C.1.1 (14 + p))) 35 rfl d_X6_poison_34 (by assumption) (by omega) (by rw [Int.toNat_natCast]; exact hval) ?_
      refine ar_ist_3 36 rfl d_X6_poison_35 rfl (by intro _ h; cases h) ?_
      refine ar_aload_n 37 rfl d_X6_poison_36 rfl ?_
      refine ar_getA 40 rfl d_X6_poison_37 fl_X6_7 rfl (by assumption) (by assumption) ?_
      refine ar_bipush 42 rfl d_X6_poison_40 rfl ?_
      refine ar_iload_n 43 rfl d_X6_poison_42 rfl ?_
      refine ar_iadd 44 rfl d_X6_poison_43 ?_
      refine ar_top (y := ((14 + p : Nat) : Int)) (by omega) ?_
      refine ar_iload_n 45 rfl d_X6_poison_44 rfl ?_
      refine ar_iasN (14 + p) 46 rfl d_X6_poison_45 (by assumption) (by omega) (by omega) ?_
      refine ar_iload_n 47 rfl d_X6_poison_46 rfl ?_
      refine WA.ret (some (Vi _)) ⟨d_X6_poison_47, rfl, Or.inl rfl⟩ ?_
      unfold poiF at hQ
      rw [if_neg (fun h => h g1), if_neg (fun h => h (by omega)), Int.toNat_natCast] at hQ
      refine hQ _ (f1.tr (FrI.w (by omega) (by omega))) (h1.now (S' := (uf C.1.1 (14 + p) y, C.1.2)) rfl (fun b _ _ => hI_off (by omega)) (by rw [hI_off (by omega)]) (by rw [hI_off (by omega)]) ⟨?_, hn1.2.1.poi hp12 (by omega), hn1.2.2⟩)
      rw [hI_row]
      exact hn1.1.upd hn1.2.1.bd.2.2 (by omega)
    · refine ar_if_ne 22 19 rfl rfl d_X6_poison_16 (by omega) (fun h => absurd h (by decide)) (fun g16 => ?_)
      refine ar_bipush 21 rfl d_X6_poison_19 rfl ?_
      refine WA.ret (some (Vi _)) ⟨d_X6_poison_21, rfl, Or.inl rfl⟩ ?_
      unfold poiF at hQ
      rw [if_neg (fun h => h g1), if_pos (by omega)] at hQ
      exact hQ σ FrI.rf h
  · refine ar_if_ne 9 7 rfl rfl d_X6_poison_4 (by omega) (fun h => absurd h (by decide)) (fun g4 => ?_)
    refine ar_iconst 8 rfl d_X6_poison_7 ?_
    refine WA.ret (some (Vi _)) ⟨d_X6_poison_8, rfl, Or.inl rfl⟩ ?_
    unfold poiF at hQ
    rw [if_pos g1] at hQ
    exact hQ σ FrI.rf h
set_option maxHeartbeats 4000000 in
theorem sp_X6_set {C : CS} {x y : Int} (h : RepM C σ) (hx : i32 x) (hy : i32 y) (hdp : 40 ≤ d) (hQ : ∀ σ', FrI 625 652 σ σ' → RepM (setF x y C).1 σ' → Q (some (Vi (setF x y C).2)) σ') : WA G d k n mX6_set 0 [Va 625, Vi x, Vi y, Vu] [] σ Q := by
  have k625 := h.1.k625
  refine ar_iload_n 1 rfl d_X6_set_0 rfl ?_
  refine ar_if_ne 16 4 rfl rfl d_X6_set_1 (by omega) (fun g1 => ?_) (fun g1 => ?_)
  · refine ar_iload_n 17 rfl d_X6_set_16 rfl ?_
    refine ar_iconst 18 rfl d_X6_set_17 ?_
    refine ar_icmp_ne 31 21 rfl rfl d_X6_set_18 (by omega) (by omega) (fun g18 => ?_) (fun g18 => ?_)
    · refine ar_bipush 33 rfl d_X6_set_31 rfl ?_
      refine WA.ret (some (Vi _)) ⟨d_X6_set_33, rfl, Or.inl rfl⟩ ?_
      unfold setF at hQ
      rw [if_pos (by omega)] at hQ
      exact hQ σ FrI.rf h
    · refine ar_iload_n 22 rfl d_X6_set_21 rfl ?_
      refine ar_i2l 23 rfl d_X6_set_22 (by omega) ?_
      refine ar_lconst 0 24 rfl d_X6_set_23 rfl ?_
      refine ar_lconst 1 25 rfl d_X6_set_24 rfl ?_
      refine ar_callS0 (M' := mX6_in) (As := [_, _, _]) (ls' := [Vl _, Vu, Vl _, Vu, Vl _, Vu]) 28 rfl d_X6_set_25 ml_X6_91 mt_X6_in rfl (Nat.le_of_ble_eq_true rfl) rfl (Nat.le_of_ble_eq_true rfl) (by omega) ?_
      refine sp_X6_in (by constructor <;> omega) (by constructor <;> omega) (by constructor <;> omega) (fun g2 => ?_) (fun g2 => ?_)
      · refine ar_if_ne 34 31 rfl rfl d_X6_set_28 (by omega) (fun g28 => ?_) (fun h => absurd h (by decide))
        have hc : (x = 0 ∧ 1 ≤ y ∧ y ≤ 16) ∨ (x = 1 ∧ (y = 0 ∨ y = 1)) := by omega
        refine ar_aload_n 35 rfl d_X6_set_34 rfl ?_
        refine ar_callV0 (M' := mX6_record) (As := []) (ls' := [Va _, Vu]) 38 rfl d_X6_set_35 ml_X6_225 mt_X6_record (by assumption) rfl (Nat.le_of_ble_eq_true rfl) rfl (Nat.le_of_ble_eq_true rfl) (by omega) ?_
        refine sp_X6_record h (by omega) (fun σ1 f1 h1 => ?_)
        obtain ⟨hS1, hn1, hh1, hk1, hp1⟩ := id h1
        have k625 := hS1.k625
        have r0 := hS1.r0
        have k626 := hS1.k626
        have hx01 : x = 0 ∨ x = 1 := by omega
        obtain ⟨p, rfl⟩ : ∃ p : Nat, x = (p : Int) := ⟨x.toNat, by omega⟩
        have hp2 : p < 2 := by omega
        have hval : hI σ1 626 p = C.1.1 p := hn1.1.1 _ (by omega)
        refine ar_aload_n 39 rfl d_X6_set_38 rfl ?_
        refine ar_getA 42 rfl d_X6_set_39 fl_X6_7 rfl (by assumption) (by assumption) ?_
        refine ar_iload_n 43 rfl d_X6_set_42 rfl ?_
        refine ar_ilv (y := (C.1.1 p)) 44 rfl d_X6_set_43 (by assumption) (by omega) (by rw [Int.toNat_natCast]; exact hval) ?_
        refine ar_ist_3 45 rfl d_X6_set_44 rfl (by intro _ h; cases h) ?_
        refine ar_aload_n 46 rfl d_X6_set_45 rfl ?_
        refine ar_getA 49 rfl d_X6_set_46 fl_X6_7 rfl (by assumption) (by assumption) ?_
        refine ar_iload_n 50 rfl d_X6_set_49 rfl ?_
        refine ar_iload_n 51 rfl d_X6_set_50 rfl ?_
        refine ar_iasN p 52 rfl d_X6_set_51 (by assumption) (by omega) (by omega) ?_
        have hS2 : Sh6 (wI σ1 626 p y) := hS1.e rfl
        have k625 := hS2.k625
        have k626 := hS2.k626
        have hr2 : Rs (hI (wI σ1 626 p y) 626) (uf C.1.1 p y, C.1.2) := by
          rw [hI_row]
          exact hn1.1.upd hn1.2.1.bd.2.2 (by omega)
        have hb : Bd C.1 := hn1.2.1.bd
        have hw9 : WFS (uf C.1.1 p y, C.1.2.1.take (uf C.1.1 p y 0).toNat, C.1.2.2) := by
          have h9 := hn1.2.1.set (x := (p : Int)) (y := y) hc
          rw [Int.toNat_natCast] at h9
          exact h9
        have h99 : 1 ≤ uf C.1.1 p y 0 ∧ uf C.1.1 p y 0 ≤ 16 := hw9.1
        obtain ⟨rm, hrm⟩ : ∃ rm : Nat, uf C.1.1 p y 0 = (rm : Int) := ⟨(uf C.1.1 p y 0).toNat, by omega⟩
        have hrm16 : rm ≤ 16 := by omega
        refine ar_aload_n 53 rfl d_X6_set_52 rfl ?_
        refine ar_getA 56 rfl d_X6_set_53 fl_X6_7 rfl (by assumption) (by assumption) ?_
        refine ar_callS0 (M' := mX6_trim) (As := [_]) (ls' := [Vr _]) 59 rfl d_X6_set_56 ml_X6_179 mt_X6_trim rfl (Nat.le_of_ble_eq_true rfl) rfl (Nat.le_of_ble_eq_true rfl) (by omega) ?_
        refine sp_X6_trim (r := rm) k626 hr2 hb.2.2 ⟨Nat.le_trans hb.1 (by decide), hb.2.1⟩ hrm hrm16 (fun σ2 f2 hr3 => ?_)
        refine ar_iload_n 60 rfl d_X6_set_59 rfl ?_
        refine WA.ret (some (Vi _)) ⟨d_X6_set_60, rfl, Or.inl rfl⟩ ?_
        unfold setF at hQ
        rw [if_neg (fun h => h hc), Int.toNat_natCast] at hQ
        refine hQ _ (f1.tr ((FrI.w (by omega) (by omega)).tr (f2.sub (by omega) (by omega)))) (h1.now (S' := (uf C.1.1 p y, C.1.2.1.take (uf C.1.1 p y 0).toNat, C.1.2.2)) (f2.1) (fun b _ _ => by rw [f2.2 b (by omega), hI_off (by omega)]) (by rw [f2.2 625 (by omega), hI_off (by omega)]) (by rw [f2.2 625 (by omega), hI_off (by omega)]) ⟨?_, hw9, hn1.2.2⟩)
        rw [hrm, Int.toNat_natCast]
        exact hr3
      · refine ar_if_ne 34 31 rfl rfl d_X6_set_28 (by omega) (fun h => absurd h (by decide)) (fun g28 => ?_)
        refine ar_bipush 33 rfl d_X6_set_31 rfl ?_
        refine WA.ret (some (Vi _)) ⟨d_X6_set_33, rfl, Or.inl rfl⟩ ?_
        unfold setF at hQ
        rw [if_pos (by omega)] at hQ
        exact hQ σ FrI.rf h
  · refine ar_iload_n 5 rfl d_X6_set_4 rfl ?_
    refine ar_i2l 6 rfl d_X6_set_5 (by omega) ?_
    refine ar_lconst 1 7 rfl d_X6_set_6 rfl ?_
    refine ar_ldc2 16 10 rfl d_X6_set_7 lc_X6_223 rfl ?_
    refine ar_callS0 (M' := mX6_in) (As := [_, _, _]) (ls' := [Vl _, Vu, Vl _, Vu, Vl _, Vu]) 13 rfl d_X6_set_10 ml_X6_91 mt_X6_in rfl (Nat.le_of_ble_eq_true rfl) rfl (Nat.le_of_ble_eq_true rfl) (by omega) ?_
    refine sp_X6_in (by constructor <;> omega) (by constructor <;> omega) (by constructor <;> omega) (fun g2 => ?_) (fun g2 => ?_)
    · refine ar_if_ne 34 16 rfl rfl d_X6_set_13 (by omega) (fun g13 => ?_) (fun h => absurd h (by decide))
      have hc : (x = 0 ∧ 1 ≤ y ∧ y ≤ 16) ∨ (x = 1 ∧ (y = 0 ∨ y = 1)) := by omega
      refine ar_aload_n 35 rfl d_X6_set_34 rfl ?_
      refine ar_callV0 (M' := mX6_record) (As := []) (ls' := [Va _, Vu]) 38 rfl d_X6_set_35 ml_X6_225 mt_X6_record (by assumption) rfl (Nat.le_of_ble_eq_true rfl) rfl (Nat.le_of_ble_eq_true rfl) (by omega) ?_
      refine sp_X6_record h (by omega) (fun σ1 f1 h1 => ?_)
      obtain ⟨hS1, hn1, hh1, hk1, hp1⟩ := id h1
      have k625 := hS1.k625
      have r0 := hS1.r0
      have k626 := hS1.k626
      have hx01 : x = 0 ∨ x = 1 := by omega
      obtain ⟨p, rfl⟩ : ∃ p : Nat, x = (p : Int) := ⟨x.toNat, by omega⟩
      have hp2 : p < 2 := by omega
      have hval : hI σ1 626 p = C.1.1 p := hn1.1.1 _ (by omega)
      refine ar_aload_n 39 rfl d_X6_set_38 rfl ?_
      refine ar_getA 42 rfl d_X6_set_39 fl_X6_7 rfl (by assumption) (by assumption) ?_
      refine ar_iload_n 43 rfl d_X6_set_42 rfl ?_
      refine ar_ilv (y := (C.1.1 p)) 44 rfl d_X6_set_43 (by assumption) (by omega) (by rw [Int.toNat_natCast]; exact hval) ?_
      refine ar_ist_3 45 rfl d_X6_set_44 rfl (by intro _ h; cases h) ?_
      refine ar_aload_n 46 rfl d_X6_set_45 rfl ?_
      refine ar_getA 49 rfl d_X6_set_46 fl_X6_7 rfl (by assumption) (by assumption) ?_
      refine ar_iload_n 50 rfl d_X6_set_49 rfl ?_
      refine ar_iload_n 51 rfl d_X6_set_50 rfl ?_
      refine ar_iasN p 52 rfl d_X6_set_51 (by assumption) (by omega) (by omega) ?_
      have hS2 : Sh6 (wI σ1 626 p y) := hS1.e rfl
      have k625 := hS2.k625
      have k626 := hS2.k626
      have hr2 : Rs (hI (wI σ1 626 p y) 626) (uf C.1.1 p y, C.1.2) := by
        rw [hI_row]
        exact hn1.1.upd hn1.2.1.bd.2.2 (by omega)
      have hb : Bd C.1 := hn1.2.1.bd
      have hw9 : WFS (uf C.1.1 p y, C.1.2.1.take (uf C.1.1 p y 0).toNat, C.1.2.2) := by
        have h9 := hn1.2.1.set (x := (p : Int)) (y := y) hc
        rw [Int.toNat_natCast] at h9
        exact h9
      have h99 : 1 ≤ uf C.1.1 p y 0 ∧ uf C.1.1 p y 0 ≤ 16 := hw9.1
      obtain ⟨rm, hrm⟩ : ∃ rm : Nat, uf C.1.1 p y 0 = (rm : Int) := ⟨(uf C.1.1 p y 0).toNat, by omega⟩
      have hrm16 : rm ≤ 16 := by omega
      refine ar_aload_n 53 rfl d_X6_set_52 rfl ?_
      refine ar_getA 56 rfl d_X6_set_53 fl_X6_7 rfl (by assumption) (by assumption) ?_
      refine ar_callS0 (M' := mX6_trim) (As := [_]) (ls' := [Vr _]) 59 rfl d_X6_set_56 ml_X6_179 mt_X6_trim rfl (Nat.le_of_ble_eq_true rfl) rfl (Nat.le_of_ble_eq_true rfl) (by omega) ?_
      refine sp_X6_trim (r := rm) k626 hr2 hb.2.2 ⟨Nat.le_trans hb.1 (by decide), hb.2.1⟩ hrm hrm16 (fun σ2 f2 hr3 => ?_)
      refine ar_iload_n 60 rfl d_X6_set_59 rfl ?_
      refine WA.ret (some (Vi _)) ⟨d_X6_set_60, rfl, Or.inl rfl⟩ ?_
      unfold setF at hQ
      rw [if_neg (fun h => h hc), Int.toNat_natCast] at hQ
      refine hQ _ (f1.tr ((FrI.w (by omega) (by omega)).tr (f2.sub (by omega) (by omega)))) (h1.now (S' := (uf C.1.1 p y, C.1.2.1.take (uf C.1.1 p y 0).toNat, C.1.2.2)) (f2.1) (fun b _ _ => by rw [f2.2 b (by omega), hI_off (by omega)]) (by rw [f2.2 625 (by omega), hI_off (by omega)]) (by rw [f2.2 625 (by omega), hI_off (by omega)]) ⟨?_, hw9, hn1.2.2⟩)
      rw [hrm, Int.toNat_natCast]
      exact hr3
    · refine ar_if_ne 34 16 rfl rfl d_X6_set_13 (by omega) (fun h => absurd h (by decide)) (fun g13 => ?_)
      refine ar_iload_n 17 rfl d_X6_set_16 rfl ?_
      refine ar_iconst 18 rfl d_X6_set_17 ?_
      refine ar_icmp_ne 31 21 rfl rfl d_X6_set_18 (by omega) (by omega) (fun g18 => ?_) (fun g18 => ?_)
      · refine ar_bipush 33 rfl d_X6_set_31 rfl ?_
        refine WA.ret (some (Vi _)) ⟨d_X6_set_33, rfl, Or.inl rfl⟩ ?_
        unfold setF at hQ
        rw [if_pos (by omega)] at hQ
        exact hQ σ FrI.rf h
      · refine ar_iload_n 22 rfl d_X6_set_21 rfl ?_
        refine ar_i2l 23 rfl d_X6_set_22 (by omega) ?_
        refine ar_lconst 0 24 rfl d_X6_set_23 rfl ?_
        refine ar_lconst 1 25 rfl d_X6_set_24 rfl ?_
        refine ar_callS0 (M' := mX6_in) (As := [_, _, _]) (ls' := [Vl _, Vu, Vl _, Vu, Vl _, Vu]) 28 rfl d_X6_set_25 ml_X6_91 mt_X6_in rfl (Nat.le_of_ble_eq_true rfl) rfl (Nat.le_of_ble_eq_true rfl) (by omega) ?_
        refine sp_X6_in (by constructor <;> omega) (by constructor <;> omega) (by constructor <;> omega) (fun g2 => ?_) (fun g2 => ?_)
        · refine ar_if_ne 34 31 rfl rfl d_X6_set_28 (by omega) (fun g28 => ?_) (fun h => absurd h (by decide))
          have hc : (x = 0 ∧ 1 ≤ y ∧ y ≤ 16) ∨ (x = 1 ∧ (y = 0 ∨ y = 1)) := by omega
          refine ar_aload_n 35 rfl d_X6_set_34 rfl ?_
          refine ar_callV0 (M' := mX6_record) (As := []) (ls' := [Va _, Vu]) 38 rfl d_X6_set_35 ml_X6_225 mt_X6_record (by assumption) rfl (Nat.le_of_ble_eq_true rfl) rfl (Nat.le_of_ble_eq_true rfl) (by omega) ?_
          refine sp_X6_record h (by omega) (fun σ1 f1 h1 => ?_)
          obtain ⟨hS1, hn1, hh1, hk1, hp1⟩ := id h1
          have k625 := hS1.k625
          have r0 := hS1.r0
          have k626 := hS1.k626
          have hx01 : x = 0 ∨ x = 1 := by omega
          obtain ⟨p, rfl⟩ : ∃ p : Nat, x = (p : Int) := ⟨x.toNat, by omega⟩
          have hp2 : p < 2 := by omega
          have hval : hI σ1 626 p = C.1.1 p := hn1.1.1 _ (by omega)
          refine ar_aload_n 39 rfl d_X6_set_38 rfl ?_
          refine ar_getA 42 rfl d_X6_set_39 fl_X6_7 rfl (by assumption) (by assumption) ?_
          refine ar_iload_n 43 rfl d_X6_set_42 rfl ?_
          refine ar_ilv (y := (C.1.1 p)) 44 rfl d_X6_set_43 (by assumption) (by omega) (by rw [Int.toNat_natCast]; exact hval) ?_
          refine ar_ist_3 45 rfl d_X6_set_44 rfl (by intro _ h; cases h) ?_
          refine ar_aload_n 46 rfl d_X6_set_45 rfl ?_
          refine ar_getA 49 rfl d_X6_set_46 fl_X6_7 rfl (by assumption) (by assumption) ?_
          refine ar_iload_n 50 rfl d_X6_set_49 rfl ?_
          refine ar_iload_n 51 rfl d_X6_set_50 rfl ?_
          refine ar_iasN p 52 rfl d_X6_set_51 (by assumption) (by omega) (by omega) ?_
          have hS2 : Sh6 (wI σ1 626 p y) := hS1.e rfl
          have k625 := hS2.k625
          have k626 := hS2.k626
          have hr2 : Rs (hI (wI σ1 626 p y) 626) (uf C.1.1 p y, C.1.2) := by
            rw [hI_row]
            exact hn1.1.upd hn1.2.1.bd.2.2 (by omega)
          have hb : Bd C.1 := hn1.2.1.bd
          have hw9 : WFS (uf C.1.1 p y, C.1.2.1.take (uf C.1.1 p y 0).toNat, C.1.2.2) := by
            have h9 := hn1.2.1.set (x := (p : Int)) (y := y) hc
            rw [Int.toNat_natCast] at h9
            exact h9
          have h99 : 1 ≤ uf C.1.1 p y 0 ∧ uf C.1.1 p y 0 ≤ 16 := hw9.1
          obtain ⟨rm, hrm⟩ : ∃ rm : Nat, uf C.1.1 p y 0 = (rm : Int) := ⟨(uf C.1.1 p y 0).toNat, by omega⟩
          have hrm16 : rm ≤ 16 := by omega
          refine ar_aload_n 53 rfl d_X6_set_52 rfl ?_
          refine ar_getA 56 rfl d_X6_set_53 fl_X6_7 rfl (by assumption) (by assumption) ?_
          refine ar_callS0 (M' := mX6_trim) (As := [_]) (ls' := [Vr _]) 59 rfl d_X6_set_56 ml_X6_179 mt_X6_trim rfl (Nat.le_of_ble_eq_true rfl) rfl (Nat.le_of_ble_eq_true rfl) (by omega) ?_
          refine sp_X6_trim (r := rm) k626 hr2 hb.2.2 ⟨Nat.le_trans hb.1 (by decide), hb.2.1⟩ hrm hrm16 (fun σ2 f2 hr3 => ?_)
          refine ar_iload_n 60 rfl d_X6_set_59 rfl ?_
          refine WA.ret (some (Vi _)) ⟨d_X6_set_60, rfl, Or.inl rfl⟩ ?_
          unfold setF at hQ
          rw [if_neg (fun h => h hc), Int.toNat_natCast] at hQ
          refine hQ _ (f1.tr ((FrI.w (by omega) (by omega)).tr (f2.sub (by omega) (by omega)))) (h1.now (S' := (uf C.1.1 p y, C.1.2.1.take (uf C.1.1 p y 0).toNat, C.1.2.2)) (f2.1) (fun b _ _ => by rw [f2.2 b (by omega), hI_off (by omega)]) (by rw [f2.2 625 (by omega), hI_off (by omega)]) (by rw [f2.2 625 (by omega), hI_off (by omega)]) ⟨?_, hw9, hn1.2.2⟩)
          rw [hrm, Int.toNat_natCast]
          exact hr3
        · refine ar_if_ne 34 31 rfl rfl d_X6_set_28 (by omega) (fun h => absurd h (by decide)) (fun g28 => ?_)
          refine ar_bipush 33 rfl d_X6_set_31 rfl ?_
          refine WA.ret (some (Vi _)) ⟨d_X6_set_33, rfl, Or.inl rfl⟩ ?_
          unfold setF at hQ
          rw [if_pos (by omega)] at hQ
          exact hQ σ FrI.rf h
theorem sp_X6_ask {C : CS} {x : Int} (h : RepM C σ) (hx : i32 x) (hz : C.1.1 815 + 1889568 ≤ 2147483647) (hdp : 40 ≤ d) (hQ : ∀ σ', FrI 625 652 σ σ' → RepM (askC x C).1 σ' → Q (some (Vi (askC x C).2)) σ') : WA G d k n mX6_ask 0 [Va 625, Vi x] [] σ Q := by
  have k625 := h.1.k625
  refine ar_iload_n 1 rfl d_X6_ask_0 rfl ?_
  refine ar_callS0 (M' := mX6_isLoaf) (As := [_]) (ls' := [Vi _]) 4 rfl d_X6_ask_1 ml_X6_234 mt_X6_isLoaf rfl (Nat.le_of_ble_eq_true rfl) rfl (Nat.le_of_ble_eq_true rfl) (by omega) ?_
  refine sp_X6_isLoaf hx (by omega) (fun g1 => ?_) (fun g1 => ?_)
  · refine ar_if_ne 9 7 rfl rfl d_X6_ask_4 (by omega) (fun g4 => ?_) (fun h => absurd h (by decide))
    refine ar_aload_n 10 rfl d_X6_ask_9 rfl ?_
    refine ar_callV0 (M' := mX6_record) (As := []) (ls' := [Va _, Vu]) 13 rfl d_X6_ask_10 ml_X6_225 mt_X6_record (by assumption) rfl (Nat.le_of_ble_eq_true rfl) rfl (Nat.le_of_ble_eq_true rfl) (by omega) ?_
    refine sp_X6_record h (by omega) (fun σ1 f1 h1 => ?_)
    obtain ⟨hS1, hn1, hh1, hk1, hp1⟩ := id h1
    have k625 := hS1.k625
    have r0 := hS1.r0
    have k626 := hS1.k626
    obtain ⟨l, rfl⟩ : ∃ l : Nat, x = (l : Int) := ⟨x.toNat, by omega⟩
    refine ar_aload_n 14 rfl d_X6_ask_13 rfl ?_
    refine ar_aload_n 15 rfl d_X6_ask_14 rfl ?_
    refine ar_getA 18 rfl d_X6_ask_15 fl_X6_7 rfl (by assumption) (by assumption) ?_
    refine ar_iload_n 19 rfl d_X6_ask_18 rfl ?_
    refine ar_callV0 (M' := mX6_askOn) (As := [_, _]) (ls' := [Va _, Vr _, Vi _, Vu, Vu, Vu]) 22 rfl d_X6_ask_19 ml_X6_237 mt_X6_askOn (by assumption) rfl (Nat.le_of_ble_eq_true rfl) rfl (Nat.le_of_ble_eq_true rfl) (by omega) ?_
    refine sp_X6_askOn (Or.inl rfl) hS1 hn1.1 hn1.2.1 hn1.2.2 (by omega) hz (by omega) (fun σ2 f2 hr2 => ?_)
    refine WA.ret (some (Vi _)) ⟨d_X6_ask_22, rfl, Or.inl rfl⟩ ?_
    unfold askC at hQ
    rw [if_neg (fun h => h g1)] at hQ
    have hg := askF_g 6 (by omega) l C.1 (by omega) hn1.2.1
    refine hQ σ2 (f1.tr (f2.fi (Or.inl rfl))) (h1.now f2.1 (fun b a1 a2 => f2.2.1 b (by omega) (by omega) (by omega) (by omega)) (f2.2.2.1 3 (by omega) (by omega)) (f2.2.2.1 7 (by omega) (by omega)) ⟨hr2, hg.1.2.2.2.2.1, fun j hj => ?_⟩)
    rw [hg.1.2.1]
    exact hn1.2.2 j hj
  · refine ar_if_ne 9 7 rfl rfl d_X6_ask_4 (by omega) (fun h => absurd h (by decide)) (fun g4 => ?_)
    refine ar_iconst 8 rfl d_X6_ask_7 ?_
    refine WA.ret (some (Vi _)) ⟨d_X6_ask_8, rfl, Or.inl rfl⟩ ?_
    unfold askC at hQ
    rw [if_pos g1] at hQ
    exact hQ σ FrI.rf h
theorem sp_X6_forget {C : CS} {m : Int} (h : RepM C σ) (hm : i32 m) (hdp : 40 ≤ d) (hQ : ∀ σ', FrI 625 652 σ σ' → RepM (forF m C).1 σ' → Q (some (Vi (forF m C).2)) σ') : WA G d k n mX6_forget 0 [Va 625, Vi m] [] σ Q := by
  obtain ⟨hS, hn, hh, hk9, hp9⟩ := id h
  have h814 := hn.1.2.2.2.1
  have hb1 := hn.2.1.bd.1
  have k625 := hS.k625
  have r0 := hS.r0
  have k626 := hS.k626
  refine ar_iload_n 1 rfl d_X6_forget_0 rfl ?_
  refine ar_i2l 2 rfl d_X6_forget_1 (by omega) ?_
  refine ar_lconst 0 3 rfl d_X6_forget_2 rfl ?_
  refine ar_aload_n 4 rfl d_X6_forget_3 rfl ?_
  refine ar_getA 7 rfl d_X6_forget_4 fl_X6_7 rfl (by assumption) (by assumption) ?_
  refine ar_sipush 10 rfl d_X6_forget_7 rfl ?_
  refine ar_ilv (y := (C.1.2.1.length : Int)) 11 rfl d_X6_forget_10 (by assumption) (by omega) h814 ?_
  refine ar_iconst 12 rfl d_X6_forget_11 ?_
  refine ar_isub 13 rfl d_X6_forget_12 ?_
  refine ar_i2l 14 rfl d_X6_forget_13 (by omega) ?_
  refine ar_callS0 (M' := mX6_in) (As := [_, _, _]) (ls' := [Vl _, Vu, Vl _, Vu, Vl _, Vu]) 17 rfl d_X6_forget_14 ml_X6_91 mt_X6_in rfl (Nat.le_of_ble_eq_true rfl) rfl (Nat.le_of_ble_eq_true rfl) (by omega) ?_
  refine sp_X6_in (by constructor <;> omega) (by constructor <;> omega) (by constructor <;> omega) (fun g2 => ?_) (fun g2 => ?_)
  · refine ar_if_ne 22 20 rfl rfl d_X6_forget_17 (by omega) (fun g17 => ?_) (fun h => absurd h (by decide))
    refine ar_aload_n 23 rfl d_X6_forget_22 rfl ?_
    refine ar_callV0 (M' := mX6_record) (As := []) (ls' := [Va _, Vu]) 26 rfl d_X6_forget_23 ml_X6_225 mt_X6_record (by assumption) rfl (Nat.le_of_ble_eq_true rfl) rfl (Nat.le_of_ble_eq_true rfl) (by omega) ?_
    refine sp_X6_record h (by omega) (fun σ1 f1 h1 => ?_)
    obtain ⟨hS1, hn1, hh1, hk1, hp1⟩ := id h1
    have k625 := hS1.k625
    have r0 := hS1.r0
    have k626 := hS1.k626
    obtain ⟨p, rfl⟩ : ∃ p : Nat, m = (p : Int) := ⟨m.toNat, by omega⟩
    refine ar_aload_n 27 rfl d_X6_forget_26 rfl ?_
    refine ar_getA 30 rfl d_X6_forget_27 fl_X6_7 rfl (by assumption) (by assumption) ?_
    refine ar_iload_n 31 rfl d_X6_forget_30 rfl ?_
    refine ar_callS0 (M' := mX6_cutMemory) (As := [_, _]) (ls' := [Vr _, Vi _, Vu]) 34 rfl d_X6_forget_31 ml_X6_240 mt_X6_cutMemory rfl (Nat.le_of_ble_eq_true rfl) rfl (Nat.le_of_ble_eq_true rfl) (by omega) ?_
    refine sp_X6_cutMemory (S := C.1) k626 hn1.1 hn1.2.1.bd (by omega) (by omega) (fun σ2 f2 hr2 => ?_)
    have hS2 := hS1.e f2.1
    have hl2 := hr2.2.2.2.1
    have k625 := hS2.k625
    have r0 := hS2.r0
    have k626 := hS2.k626
    refine ar_aload_n 35 rfl d_X6_forget_34 rfl ?_
    refine ar_getA 38 rfl d_X6_forget_35 fl_X6_7 rfl (by assumption) (by assumption) ?_
    refine ar_sipush 41 rfl d_X6_forget_38 rfl ?_
    refine ar_ilv (y := ((C.1.2.1.eraseIdx p).length : Int)) 42 rfl d_X6_forget_41 (by assumption) (by omega) hl2 ?_
    refine WA.ret (some (Vi _)) ⟨d_X6_forget_42, rfl, Or.inl rfl⟩ ?_
    unfold forF at hQ
    rw [if_neg (by omega), Int.toNat_natCast] at hQ
    have hlen : ((C.1.2.1.eraseIdx p).length : Int) = (C.1.2.1.length : Int) - 1 := by rw [List.length_eraseIdx_of_lt (by omega)]; omega
    rw [hlen]
    have hw1 : WFS C.1 := hn1.2.1
    have h60 : (C.1.2.1.length : Int) ≤ C.1.1 0 := hw1.2.2.2.2.2.1
    have hwf : WFS (C.1.1, C.1.2.1.eraseIdx p, C.1.2.2) := wfs_f hw1 C.1.1 _ (List.eraseIdx_sublist _ _) hw1.1 hw1.2.1 hw1.2.2.1 hw1.2.2.2.1 rfl (by rw [hlen]; omega)
    exact hQ σ2 (f1.tr (f2.sub (by omega) (by omega))) (h1.now f2.1 (fun b a1 a2 => f2.2 b (by omega)) (by rw [f2.2 625 (by omega)]) (by rw [f2.2 625 (by omega)]) ⟨hr2, hwf, hn1.2.2⟩)
  · refine ar_if_ne 22 20 rfl rfl d_X6_forget_17 (by omega) (fun h => absurd h (by decide)) (fun g17 => ?_)
    refine ar_iconst 21 rfl d_X6_forget_20 ?_
    refine WA.ret (some (Vi _)) ⟨d_X6_forget_21, rfl, Or.inl rfl⟩ ?_
    unfold forF at hQ
    rw [if_pos (by omega)] at hQ
    exact hQ σ FrI.rf h
theorem sp_X6_wipe {C : CS} (h : RepM C σ) (hQ : ∀ σ', FrI 625 652 σ σ' → RepM (wipF C).1 σ' → Q (some (Vi (wipF C).2)) σ') : WA G d k n mX6_wipe 0 [Va 625, Vu] [] σ Q := by
  obtain ⟨hS, hn, hh, hk9, hp9⟩ := id h
  have k625 := hS.k625
  refine ar_aload_n 1 rfl d_X6_wipe_0 rfl ?_
  refine ar_giv (y := (C.2.2.2.length : Int)) 4 rfl d_X6_wipe_1 fl_X6_101 rfl (by assumption) hp9.1 ?_
  refine ar_ist_1 5 rfl d_X6_wipe_4 rfl (by intro _ h; cases h) ?_
  refine ar_aload_n 6 rfl d_X6_wipe_5 rfl ?_
  refine ar_iconst 7 rfl d_X6_wipe_6 ?_
  refine ar_putI 10 rfl d_X6_wipe_7 fl_X6_101 rfl rfl (by assumption) ?_
  refine ar_iload_n 11 rfl d_X6_wipe_10 rfl ?_
  refine WA.ret (some (Vi _)) ⟨d_X6_wipe_11, rfl, Or.inl rfl⟩ ?_
  refine hQ _ (FrI.w (by omega) (by omega)) ⟨hS.e rfl, ?_, ⟨?_, hh.2.1, ?_⟩, ?_, ?_, Nat.zero_le _, fun j x hx => by cases hx⟩
  · rw [hI_off (by omega)]; exact hn
  · rw [hI_w, if_neg (by omega)]; exact hh.1
  · rw [hI_off (by omega)]; exact hh.2.2
  · rw [hI_off (by omega), hI_off (by omega)]; exact hk9
  · rw [hI_w, if_pos ⟨rfl, rfl⟩]; rfl
theorem sp_X6_undo {C : CS} (h : RepM C σ) (hdp : 40 ≤ d) (hQ : ∀ σ', FrI 625 652 σ σ' → RepM (undF C).1 σ' → Q (some (Vi (undF C).2)) σ') : WA G d k n mX6_undo 0 [Va 625] [] σ Q := by
  obtain ⟨hS, hn, hh, hk9, hp9⟩ := id h
  have hh2 := hh.2.1
  have k625 := hS.k625
  have r2 := hS.r2
  have k628 := hS.k628
  have r0 := hS.r0
  have k626 := hS.k626
  refine ar_aload_n 1 rfl d_X6_undo_0 rfl ?_
  refine ar_giv (y := (C.2.1.length : Int)) 4 rfl d_X6_undo_1 fl_X6_216 rfl (by assumption) hh.1 ?_
  refine ar_if_ne 10 7 rfl rfl d_X6_undo_4 (by omega) (fun g4 => ?_) (fun g4 => ?_)
  · obtain ⟨c, hc⟩ : ∃ c, C.2.1.length = c + 1 := ⟨C.2.1.length - 1, by omega⟩
    obtain ⟨S, hSc⟩ : ∃ S, C.2.1[c]? = some S := ⟨_, List.getElem?_eq_getElem (by omega)⟩
    have hlast : C.2.1.getLast? = some S := by
      rw [List.getLast?_eq_getElem?, hc]
      exact hSc
    unfold undF at hQ
    rw [hlast] at hQ
    have hSr := hh.2.2 c S hSc
    refine ar_aload_n 11 rfl d_X6_undo_10 rfl ?_
    refine ar_dup 12 rfl d_X6_undo_11 (fun _ => rfl) ?_
    refine ar_giv (y := ((c + 1 : Nat) : Int)) 15 rfl d_X6_undo_12 fl_X6_216 rfl (by assumption) (by rw [hh.1, hc]) ?_
    refine ar_iconst 16 rfl d_X6_undo_15 ?_
    refine ar_isub 17 rfl d_X6_undo_16 ?_
    refine ar_top (y := (c : Int)) (by omega) ?_
    refine ar_putI 20 rfl d_X6_undo_17 fl_X6_216 rfl rfl (by assumption) ?_
    have hS2 : Sh6 (wI σ 625 3 (c : Int)) := hS.e rfl
    have k625 := hS2.k625
    have r2 := hS2.r2
    have k628 := hS2.k628
    have r0 := hS2.r0
    have k626 := hS2.k626
    refine ar_aload_n 21 rfl d_X6_undo_20 rfl ?_
    refine ar_getA 24 rfl d_X6_undo_21 fl_X6_16 rfl (by assumption) (by assumption) ?_
    refine ar_sipush 27 rfl d_X6_undo_24 rfl ?_
    refine ar_aload_n 28 rfl d_X6_undo_27 rfl ?_
    refine ar_giv (y := (c : Int)) 31 rfl d_X6_undo_28 fl_X6_216 rfl (by assumption) (by rw [hI_w, if_pos ⟨rfl, rfl⟩]) ?_
    refine ar_imul 32 rfl d_X6_undo_31 ?_
    refine ar_top (y := ((1496 * c : Nat) : Int)) (by omega) ?_
    refine ar_aload_n 33 rfl d_X6_undo_32 rfl ?_
    refine ar_getA 36 rfl d_X6_undo_33 fl_X6_7 rfl (by assumption) (by assumption) ?_
    refine ar_iconst 37 rfl d_X6_undo_36 ?_
    refine ar_top (y := ((0 : Nat) : Int)) rfl ?_
    refine ar_callS0 (M' := mX6_copyState) (As := [_, _, _, _]) (ls' := [Vr _, Vi _, Vr _, Vi _, Vu]) 40 rfl d_X6_undo_37 ml_X6_219 mt_X6_copyState rfl (Nat.le_of_ble_eq_true rfl) rfl (Nat.le_of_ble_eq_true rfl) (by omega) ?_
    refine sp_X6_copyState (sp := 1496 * c) (dp := 0) k628 k626 (by omega) (by omega) (by omega) (by omega) ?_
    have hg : ∀ j, j < 1496 → hI (cI (wI σ 625 3 (c : Int)) 628 (1496 * c) 626 0 1496) 626 j = hI σ 628 (1496 * c + j) := fun j hj => by
      rw [hI_c, if_pos (by omega), hI_off (by omega)]
      exact congrArg _ (by omega)
    have hgo : ∀ b, b ≠ 626 → hI (cI (wI σ 625 3 (c : Int)) 628 (1496 * c) 626 0 1496) b = hI (wI σ 625 3 (c : Int)) b := fun b hb => by
      funext j
      rw [hI_c, if_neg (fun h => hb h.1)]
    have hg2 : (cI (wI σ 625 3 (c : Int)) 628 (1496 * c) 626 0 1496).2 = σ.2 := rfl
    generalize cI (wI σ 625 3 (c : Int)) 628 (1496 * c) 626 0 1496 = σ1 at hg hgo hg2
    have hS1 := hS.e hg2
    have k625 := hS1.k625
    refine ar_aload_n 41 rfl d_X6_undo_40 rfl ?_
    refine ar_giv (y := (c : Int)) 44 rfl d_X6_undo_41 fl_X6_216 rfl (by assumption) (by rw [hgo _ (by omega), hI_w, if_pos ⟨rfl, rfl⟩]) ?_
    refine WA.ret (some (Vi _)) ⟨d_X6_undo_44, rfl, Or.inl rfl⟩ ?_
    rw [hc] at hQ
    have e1 : ((c + 1 : Nat) : Int) - 1 = (c : Int) := by omega
    rw [e1] at hQ
    refine hQ σ1 ⟨hg2, fun b hb => by rw [hgo b (by omega), hI_off (by omega)]⟩ ⟨hS1, hSr.cg hg, ⟨?_, ?_, fun i S' hi => ?_⟩, fun j hj => ?_, ?_, hp9.2.1, fun j x hx => ?_⟩
    · rw [hgo _ (by omega), hI_w, if_pos ⟨rfl, rfl⟩, List.length_dropLast, hc]
      rfl
    · rw [List.length_dropLast]
      omega
    · rw [hgo _ (by omega), hI_off (by omega)]
      have hi : C.2.1.dropLast[i]? = some S' := hi
      have hlt := (List.getElem?_eq_some_iff.mp hi).1
      rw [List.length_dropLast] at hlt
      rw [List.getElem?_dropLast, if_pos hlt] at hi
      exact hh.2.2 i S' hi
    · rw [hgo _ (by omega), hgo _ (by omega), hI_off (by omega), hI_off (by omega)]
      exact hk9 j hj
    · rw [hgo _ (by omega), hI_w, if_neg (by omega)]
      exact hp9.1
    · rw [hgo _ (by omega), hI_off (by omega)]
      exact hp9.2.2 j x hx
  · refine ar_bipush 9 rfl d_X6_undo_7 rfl ?_
    refine WA.ret (some (Vi _)) ⟨d_X6_undo_9, rfl, Or.inl rfl⟩ ?_
    have e : C.2.1 = [] := List.length_eq_zero_iff.mp (by omega)
    unfold undF at hQ
    rw [e] at hQ
    exact hQ σ FrI.rf h
theorem sp_X6_save {C : CS} {x : Int} (h : RepM C σ) (hx : i32 x) (hdp : 40 ≤ d) (hQ : ∀ σ', FrI 625 652 σ σ' → RepM (savF x C).1 σ' → Q (some (Vi (savF x C).2)) σ') : WA G d k n mX6_save 0 [Va 625, Vi x] [] σ Q := by
  obtain ⟨hS, hn, hh, hk9, hp9⟩ := id h
  have h814 := hn.1.2.2.2.1
  have k625 := hS.k625
  have r0 := hS.r0
  have k626 := hS.k626
  have r4 := hS.r4
  have k629 := hS.k629
  have r5 := hS.r5
  have k630 := hS.k630
  refine ar_iload_n 1 rfl d_X6_save_0 rfl ?_
  refine ar_i2l 2 rfl d_X6_save_1 (by omega) ?_
  refine ar_lconst 0 3 rfl d_X6_save_2 rfl ?_
  refine ar_lconst 1 4 rfl d_X6_save_3 rfl ?_
  refine ar_callS0 (M' := mX6_in) (As := [_, _, _]) (ls' := [Vl _, Vu, Vl _, Vu, Vl _, Vu]) 7 rfl d_X6_save_4 ml_X6_91 mt_X6_in rfl (Nat.le_of_ble_eq_true rfl) rfl (Nat.le_of_ble_eq_true rfl) (by omega) ?_
  refine sp_X6_in (by constructor <;> omega) (by constructor <;> omega) (by constructor <;> omega) (fun g2 => ?_) (fun g2 => ?_)
  · refine ar_if_ne 13 10 rfl rfl d_X6_save_7 (by omega) (fun g7 => ?_) (fun h => absurd h (by decide))
    obtain ⟨p, rfl⟩ : ∃ p : Nat, x = (p : Int) := ⟨x.toNat, by omega⟩
    have hp2 : p < 2 := by omega
    refine ar_aload_n 14 rfl d_X6_save_13 rfl ?_
    refine ar_getA 17 rfl d_X6_save_14 fl_X6_7 rfl (by assumption) (by assumption) ?_
    refine ar_iconst 18 rfl d_X6_save_17 ?_
    refine ar_top (y := ((0 : Nat) : Int)) rfl ?_
    refine ar_aload_n 19 rfl d_X6_save_18 rfl ?_
    refine ar_getA 22 rfl d_X6_save_19 fl_X6_19 rfl (by assumption) (by assumption) ?_
    refine ar_sipush 25 rfl d_X6_save_22 rfl ?_
    refine ar_iload_n 26 rfl d_X6_save_25 rfl ?_
    refine ar_imul 27 rfl d_X6_save_26 ?_
    refine ar_top (y := ((1496 * p : Nat) : Int)) (by omega) ?_
    refine ar_callS0 (M' := mX6_copyState) (As := [_, _, _, _]) (ls' := [Vr _, Vi _, Vr _, Vi _, Vu]) 30 rfl d_X6_save_27 ml_X6_219 mt_X6_copyState rfl (Nat.le_of_ble_eq_true rfl) rfl (Nat.le_of_ble_eq_true rfl) (by omega) ?_
    refine sp_X6_copyState (sp := 0) (dp := 1496 * p) k626 k629 (by omega) (by omega) (by omega) (by omega) ?_
    have hg : ∀ j, hI (cI σ 626 0 629 (1496 * p) 1496) 629 j = if 1496 * p ≤ j ∧ j < 1496 * p + 1496 then hI σ 626 (j - 1496 * p) else hI σ 629 j := fun j => by
      rw [hI_c]
      by_cases c1 : 1496 * p ≤ j ∧ j < 1496 * p + 1496
      · rw [if_pos ⟨rfl, c1⟩, if_pos c1, Nat.zero_add]
      · rw [if_neg (fun h => c1 h.2), if_neg c1]
    have hgo : ∀ b, b ≠ 629 → hI (cI σ 626 0 629 (1496 * p) 1496) b = hI σ b := fun b hb => by
      funext j
      rw [hI_c, if_neg (fun h => hb h.1)]
    have hg2 : (cI σ 626 0 629 (1496 * p) 1496).2 = σ.2 := rfl
    generalize cI σ 626 0 629 (1496 * p) 1496 = σ1 at hg hgo hg2
    have hS1 := hS.e hg2
    have k625 := hS1.k625
    have r0 := hS1.r0
    have k626 := hS1.k626
    have r4 := hS1.r4
    have k629 := hS1.k629
    have r5 := hS1.r5
    have k630 := hS1.k630
    refine ar_aload_n 31 rfl d_X6_save_30 rfl ?_
    refine ar_getA 34 rfl d_X6_save_31 fl_X6_22 rfl (by assumption) (by assumption) ?_
    refine ar_iload_n 35 rfl d_X6_save_34 rfl ?_
    refine ar_iconst 36 rfl d_X6_save_35 ?_
    refine ar_bast 37 rfl d_X6_save_36 k630 (by omega) (Or.inr rfl) ?_
    rw [Int.toNat_natCast]
    have k625' : (sk (wI σ1 630 p 1) 625).1 = 7 := hS1.k625
    have k626' : sk (wI σ1 630 p 1) 626 = (10, 1496) := hS1.k626
    have r0' : hR (wI σ1 630 p 1) 625 0 = some 626 := hS1.r0
    refine ar_aload_n 38 rfl d_X6_save_37 rfl ?_
    refine ar_getA 41 rfl d_X6_save_38 fl_X6_7 rfl k625' r0' ?_
    refine ar_sipush 44 rfl d_X6_save_41 rfl ?_
    refine ar_ilv (y := (C.1.2.1.length : Int)) 45 rfl d_X6_save_44 k626' (by omega) (by show hI (wI σ1 630 p 1) 626 814 = _; rw [hI_off (by omega), hgo _ (by omega)]; exact h814) ?_
    refine WA.ret (some (Vi _)) ⟨d_X6_save_45, rfl, Or.inl rfl⟩ ?_
    unfold savF at hQ
    rw [if_neg (by omega), Int.toNat_natCast] at hQ
    refine hQ _ ⟨hg2, fun b hb => by rw [hI_off (by omega), hgo b (by omega)]⟩ ⟨hS1.e rfl, ?_, ⟨?_, hh.2.1, ?_⟩, fun j hj => ?_, ?_, hp9.2.1, ?_⟩
    · rw [hI_off (by omega), hgo _ (by omega)]; exact hn
    · rw [hI_off (by omega), hgo _ (by omega)]; exact hh.1
    · rw [hI_off (by omega), hgo _ (by omega)]; exact hh.2.2
    · show ((if j = p then some C.1 else C.2.2.1 j) = none ∧ _) ∨ ∃ S, (if j = p then some C.1 else C.2.2.1 j) = some S ∧ _
      by_cases e : j = p
      · refine Or.inr ⟨C.1, if_pos e, ?_, ?_⟩
        · rw [hI_w, if_pos ⟨rfl, e⟩]
        · rw [hI_off (by omega)]
          refine hn.cg (fun i hi => ?_)
          rw [e, hg, if_pos (by omega)]
          exact congrArg _ (by omega)
      · rw [if_neg e, hI_w, if_neg (fun h => e h.2), hgo 630 (by omega), hI_off (by omega)]
        rcases hk9 j hj with u | ⟨S, u1, u2, u3⟩
        · exact Or.inl u
        · refine Or.inr ⟨S, u1, u2, u3.cg (fun i hi => ?_)⟩
          rw [hg, if_neg (by omega)]
    · rw [hI_off (by omega), hgo _ (by omega)]; exact hp9.1
    · rw [hI_off (by omega), hgo _ (by omega)]; exact hp9.2.2
  · refine ar_if_ne 13 10 rfl rfl d_X6_save_7 (by omega) (fun h => absurd h (by decide)) (fun g7 => ?_)
    refine ar_bipush 12 rfl d_X6_save_10 rfl ?_
    refine WA.ret (some (Vi _)) ⟨d_X6_save_12, rfl, Or.inl rfl⟩ ?_
    unfold savF at hQ
    rw [if_pos (by omega)] at hQ
    exact hQ σ FrI.rf h
theorem sp_X6_restore {C : CS} {x : Int} (h : RepM C σ) (hx : i32 x) (hdp : 40 ≤ d) (hQ : ∀ σ', FrI 625 652 σ σ' → RepM (resF x C).1 σ' → Q (some (Vi (resF x C).2)) σ') : WA G d k n mX6_restore 0 [Va 625, Vi x] [] σ Q := by
  obtain ⟨hS, hn, hh, hk9, hp9⟩ := id h
  have k625 := hS.k625
  have r5 := hS.r5
  have k630 := hS.k630
  have r4 := hS.r4
  have k629 := hS.k629
  have r0 := hS.r0
  have k626 := hS.k626
  refine ar_iload_n 1 rfl d_X6_restore_0 rfl ?_
  refine ar_i2l 2 rfl d_X6_restore_1 (by omega) ?_
  refine ar_lconst 0 3 rfl d_X6_restore_2 rfl ?_
  refine ar_lconst 1 4 rfl d_X6_restore_3 rfl ?_
  refine ar_callS0 (M' := mX6_in) (As := [_, _, _]) (ls' := [Vl _, Vu, Vl _, Vu, Vl _, Vu]) 7 rfl d_X6_restore_4 ml_X6_91 mt_X6_in rfl (Nat.le_of_ble_eq_true rfl) rfl (Nat.le_of_ble_eq_true rfl) (by omega) ?_
  refine sp_X6_in (by constructor <;> omega) (by constructor <;> omega) (by constructor <;> omega) (fun g2 => ?_) (fun g2 => ?_)
  · refine ar_if_ne 13 10 rfl rfl d_X6_restore_7 (by omega) (fun g7 => ?_) (fun h => absurd h (by decide))
    obtain ⟨p, rfl⟩ : ∃ p : Nat, x = (p : Int) := ⟨x.toNat, by omega⟩
    have hp2 : p < 2 := by omega
    have hkp := hk9 p hp2
    refine ar_aload_n 14 rfl d_X6_restore_13 rfl ?_
    refine ar_getA 17 rfl d_X6_restore_14 fl_X6_22 rfl (by assumption) (by assumption) ?_
    refine ar_iload_n 18 rfl d_X6_restore_17 rfl ?_
    refine ar_bald 19 rfl d_X6_restore_18 k630 (by omega) ?_
    rw [Int.toNat_natCast]
    refine ar_if_ne 25 22 rfl rfl d_X6_restore_19 (by rcases hkp with u | ⟨S, u1, u2, u3⟩ <;> constructor <;> omega) (fun g19 => ?_) (fun g19 => ?_)
    · obtain ⟨S, u1, u2, u3⟩ : ∃ S, C.2.2.1 p = some S ∧ hI σ 630 p = 1 ∧ RsW (fun i => hI σ 629 (1496 * p + i)) S := by
        rcases hkp with u | u
        · exact absurd u.2 g19
        · exact u
      refine ar_aload_n 26 rfl d_X6_restore_25 rfl ?_
      refine ar_callV0 (M' := mX6_record) (As := []) (ls' := [Va _, Vu]) 29 rfl d_X6_restore_26 ml_X6_225 mt_X6_record (by assumption) rfl (Nat.le_of_ble_eq_true rfl) rfl (Nat.le_of_ble_eq_true rfl) (by omega) ?_
      refine sp_X6_record h (by omega) (fun σ1 f1 h1 => ?_)
      obtain ⟨hS1, hn1, hh1, hk1, hp1⟩ := id h1
      have k625 := hS1.k625
      have r5 := hS1.r5
      have k630 := hS1.k630
      have r4 := hS1.r4
      have k629 := hS1.k629
      have r0 := hS1.r0
      have k626 := hS1.k626
      have hkp1 : RsW (fun i => hI σ1 629 (1496 * p + i)) S := by
        rcases hk1 p hp2 with v | ⟨S9, v1, v2, v3⟩
        · have v1 : C.2.2.1 p = none := v.1
          rw [u1] at v1
          cases v1
        · have v1 : C.2.2.1 p = some S9 := v1
          rw [u1] at v1
          cases v1
          exact v3
      refine ar_aload_n 30 rfl d_X6_restore_29 rfl ?_
      refine ar_getA 33 rfl d_X6_restore_30 fl_X6_19 rfl (by assumption) (by assumption) ?_
      refine ar_sipush 36 rfl d_X6_restore_33 rfl ?_
      refine ar_iload_n 37 rfl d_X6_restore_36 rfl ?_
      refine ar_imul 38 rfl d_X6_restore_37 ?_
      refine ar_top (y := ((1496 * p : Nat) : Int)) (by omega) ?_
      refine ar_aload_n 39 rfl d_X6_restore_38 rfl ?_
      refine ar_getA 42 rfl d_X6_restore_39 fl_X6_7 rfl (by assumption) (by assumption) ?_
      refine ar_iconst 43 rfl d_X6_restore_42 ?_
      refine ar_top (y := ((0 : Nat) : Int)) rfl ?_
      refine ar_callS0 (M' := mX6_copyState) (As := [_, _, _, _]) (ls' := [Vr _, Vi _, Vr _, Vi _, Vu]) 46 rfl d_X6_restore_43 ml_X6_219 mt_X6_copyState rfl (Nat.le_of_ble_eq_true rfl) rfl (Nat.le_of_ble_eq_true rfl) (by omega) ?_
      refine sp_X6_copyState (sp := 1496 * p) (dp := 0) k629 k626 (by omega) (by omega) (by omega) (by omega) ?_
      have hg : ∀ j, j < 1496 → hI (cI σ1 629 (1496 * p) 626 0 1496) 626 j = hI σ1 629 (1496 * p + j) := fun j hj => by
        rw [hI_c, if_pos (by omega)]
        exact congrArg _ (by omega)
      have hgo : ∀ b, b ≠ 626 → hI (cI σ1 629 (1496 * p) 626 0 1496) b = hI σ1 b := fun b hb => by
        funext j
        rw [hI_c, if_neg (fun h => hb h.1)]
      have hg2 : (cI σ1 629 (1496 * p) 626 0 1496).2 = σ1.2 := rfl
      generalize cI σ1 629 (1496 * p) 626 0 1496 = σ2 at hg hgo hg2
      have hS2 := hS1.e hg2
      have hr2 : RsW (hI σ2 626) S := hkp1.cg hg
      have h814 := hr2.1.2.2.2.1
      have k625 := hS2.k625
      have r5 := hS2.r5
      have k630 := hS2.k630
      have r4 := hS2.r4
      have k629 := hS2.k629
      have r0 := hS2.r0
      have k626 := hS2.k626
      refine ar_aload_n 47 rfl d_X6_restore_46 rfl ?_
      refine ar_getA 50 rfl d_X6_restore_47 fl_X6_7 rfl (by assumption) (by assumption) ?_
      refine ar_sipush 53 rfl d_X6_restore_50 rfl ?_
      refine ar_ilv (y := (S.2.1.length : Int)) 54 rfl d_X6_restore_53 (by assumption) (by omega) h814 ?_
      refine WA.ret (some (Vi _)) ⟨d_X6_restore_54, rfl, Or.inl rfl⟩ ?_
      unfold resF at hQ
      rw [if_neg (by omega), Int.toNat_natCast, u1] at hQ
      exact hQ σ2 (f1.tr ⟨hg2, fun b hb => hgo b (by omega)⟩) (h1.now hg2 (fun b a1 a2 => hgo b (by omega)) (by rw [hgo _ (by omega)]) (by rw [hgo _ (by omega)]) hr2)
    · refine ar_bipush 24 rfl d_X6_restore_22 rfl ?_
      refine WA.ret (some (Vi _)) ⟨d_X6_restore_24, rfl, Or.inl rfl⟩ ?_
      rcases hkp with u | ⟨S, u1, u2, u3⟩
      · unfold resF at hQ
        rw [if_neg (by omega), Int.toNat_natCast, u.1] at hQ
        exact hQ σ FrI.rf h
      · omega
  · refine ar_if_ne 13 10 rfl rfl d_X6_restore_7 (by omega) (fun h => absurd h (by decide)) (fun g7 => ?_)
    refine ar_bipush 12 rfl d_X6_restore_10 rfl ?_
    refine WA.ret (some (Vi _)) ⟨d_X6_restore_12, rfl, Or.inl rfl⟩ ?_
    unfold resF at hQ
    rw [if_pos (by omega)] at hQ
    exact hQ σ FrI.rf h
end REF9
