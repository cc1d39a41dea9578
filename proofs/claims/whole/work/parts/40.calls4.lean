-- ===== recipe =====
def recC (x : Int) (C : CS) : CS × Int := if ¬ (0 ≤ x ∧ x < 6) then (C, -1) else if ffA C.2.2.2 ≠ -6 then (C, -3) else if cLo (rdT ([], 0, []) C.2.2.2).2.1 >>> x.toNat ≠ 0 then (C, -5) else
  (((C.1.1, C.1.2.1.filter (notOf x), fun l => if l = x.toNat then (rdT ([], 0, []) C.2.2.2).2.1 else C.1.2.2 l), (recF C).2.1, C.2.2.1, []), cParts (rdT ([], 0, []) C.2.2.2).2.1)
theorem ShS.frn {σ σ' : Sg} {s lo : Nat} (h : ShS σ s) (hf : FrN lo σ σ') (hs : s + 58 ≤ lo) : ShS σ' s := by
  obtain ⟨q1, q2, q3, q4, q5, q6, q7, q8, q9, q10, q11, q12, q13, q14⟩ := h
  refine ⟨?_, ?_, ?_, ?_, ?_, ?_, ?_, ?_, ?_, ?_, ?_, ?_, ?_, fun p hp => (q14 p hp).frn hf (by omega)⟩
  iterate 7 (rw [(hf _ (by omega)).1]; assumption)
  iterate 6 (rw [(hf _ (by omega)).2.2]; assumption)
theorem RSt.frn {σ σ' : Sg} {s : Nat} {S : SS} (h : RSt σ s S) (hf : FrN (sn σ) σ σ') (hs : s + 58 ≤ sn σ) (hn : sn σ ≤ sn σ') : RSt σ' s S := h.fr (fun b _ hb => hf b hb) hs hn
theorem RepC.frn {Φ : Sg} {E : Nat → Nat} {C : CS} {σ σ' : Sg} (h : RepC Φ E C σ) (hf : FrN (sn σ) σ σ') (hn : sn σ ≤ sn σ') : RepC Φ E C σ' := by
  obtain ⟨⟨a1, a2, a3, a4⟩, b, c, e, f, g, p⟩ := h
  have hf0 := hf
  have hf : FrN 652 σ σ' := hf.sub a4
  have hfn : ∀ (s : Nat) (S : SS), s + 58 ≤ 652 → RSt σ s S → RSt σ' s S := fun s S hs h => by
    exact h.fr (fun b _ hb => hf0 b hb) (by omega) hn
  have hr6 := oS_r (b.1 6 (by omega))
  have h0 := hf 0 (by omega)
  refine ⟨⟨?_, ?_, ?_, by omega⟩, ⟨b.1, b.2.1, by rw [h0.2.2]; exact b.2.2.1, by rw [(hf 60 (by omega)).2.2]; exact b.2.2.2⟩, ⟨fun i hi => ?_, c.2.1.frn hf (by omega), c.2.2.fr (by rw [(hf _ (by omega)).2.2])⟩, ⟨hfn _ _ hr6.1.2 e.1, e.2⟩, ⟨by rw [h0.2.1]; exact f.1, f.2.1, fun i S hS => ?_⟩, ⟨fun b' hb' hb2 => by rw [(hf b' (by omega)).1, (hf b' (by omega)).2.1, (hf b' (by omega)).2.2]; exact g.1 b' hb' hb2, fun j hj => ?_⟩, ⟨by rw [h0.2.1]; exact p.1, p.2.1, by rw [(hf 1 (by omega)).2.1]; exact p.2.2⟩⟩
  · obtain ⟨q1, q2, q3, q4, q5, q6, q7, q8, q9, q10, q11, q12, q13, q14⟩ := a1
    refine ⟨?_, ?_, ?_, ?_, ?_, ?_, ?_, ?_, ?_, ?_, ?_, ?_, ?_, ?_⟩
    iterate 5 (rw [(hf _ (by omega)).1]; assumption)
    iterate 9 (rw [(hf _ (by omega)).2.2]; assumption)
  · obtain ⟨q1, q2, q3, q4, q5, q6, q7, q8, q9, q10, q11, q12⟩ := a2
    refine ⟨?_, ?_, ?_, ?_, fun l hl => ?_, ?_, fun l hl => ?_, ?_, ?_, ?_, ?_, fun l hl => ⟨?_, ?_, ?_, (q12 l hl).2.2.2.frn hf (by omega)⟩⟩
    iterate 4 (rw [(hf _ (by omega)).1]; assumption)
    · rw [(hf _ (by omega)).1]; exact q5 l hl
    · rw [(hf _ (by omega)).1]; assumption
    · rw [(hf _ (by omega)).1]; exact q7 l hl
    iterate 4 (rw [(hf _ (by omega)).2.2]; assumption)
    · rw [(hf _ (by omega)).2.2]; exact (q12 l hl).1
    · rw [(hf _ (by omega)).2.2]; exact (q12 l hl).2.1
    · rw [(hf _ (by omega)).2.2]; exact (q12 l hl).2.2.1
  · obtain ⟨q1, q2, q3, q4, q5, q6, q7, q8, q9⟩ := a3
    refine ⟨?_, ?_, ?_, ?_, ?_, ?_, ?_, ?_, ?_⟩
    iterate 5 (rw [(hf _ (by omega)).1]; assumption)
    iterate 4 (rw [(hf _ (by omega)).2.2]; assumption)
  · have hri := oS_r hi
    exact ⟨(c.1 i hi).1.frn hf (by omega), (c.1 i hi).2.fr (by rw [(hf _ (by omega)).2.2])⟩
  · have hi : i < C.2.1.length := (List.getElem?_eq_some_iff.mp hS).1
    have := f.2.1
    have hri := oS_r (b.1 i (by omega))
    exact ⟨hfn _ _ hri.1.2 (f.2.2 i S hS).1, (f.2.2 i S hS).2⟩
  · obtain ⟨u1, u2, u3⟩ := g.2 j hj
    refine ⟨u1.frn hf (by omega), u2.fr (by rw [(hf _ (by omega)).2.2]), ?_⟩
    rw [(hf 62 (by omega)).2.1]
    rcases u3 with u | ⟨S, u4, u5, u6, u7⟩
    · exact Or.inl u
    · exact Or.inr ⟨S, u4, u5, hfn _ _ (by omega) u6, u7⟩
/-- a text that was read is not empty -/
theorem stp_ne {i : Nat} {st st' : RA} {ch : Int} (h : RI i st) (hs : stp st ch = some st') (h0 : st.2.1 = 2 → st.1 ≠ []) (h3 : 2 ≤ st'.2.1) : st'.1 ≠ [] := by
  obtain ⟨c, g, W⟩ := st
  have happ : ∀ (a : Rcpe) (y : Int × Int), a ++ [y] ≠ [] := fun a y => by simp
  unfold stp at hs
  simp only [] at hs
  by_cases g0 : g = 0
  · rw [if_pos g0] at hs
    repeat (split at hs <;> try (cases hs; first | exact happ _ _ | (exact absurd h3 (by decide)) | (exact absurd h3 (by simp))))
    all_goals cases hs
  · rw [if_neg g0] at hs
    by_cases g1 : g = 1
    · rw [if_pos g1] at hs
      split at hs
      · cases hs
        exact happ _ _
      · cases hs
    · rw [if_neg g1] at hs
      split at hs
      · rename_i g2
        split at hs
        · cases hs
        · cases hs
          have h9 : c ≠ [] := h0 g2.1
          intro e
          have h8 := congrArg List.length e
          rw [setO_len] at h8
          exact h9 (List.length_eq_zero_iff.mp h8)
      · unfold aft at hs
        cases W with
        | nil => cases hs
        | cons x T =>
          have hx := h.2.2.2.2.1 x List.mem_cons_self
          have hx : OkW c x := hx
          simp only [] at hs
          by_cases w10 : x.1 = 10
          · rw [if_pos w10] at hs
            split at hs
            · cases hs; exact absurd h3 (by simp)
            · split at hs
              · cases hs; exact absurd h3 (by simp)
              · split at hs
                · cases hs; exact absurd h3 (by simp)
                · cases hs
          · rw [if_neg w10] at hs
            by_cases w11 : x.1 = 11
            · rw [if_pos w11] at hs
              split at hs
              · cases hs; exact absurd h3 (by simp)
              · cases hs
            · rw [if_neg w11] at hs
              by_cases w12 : x.1 = 12
              · rw [if_pos w12] at hs
                split at hs
                · cases hs; exact absurd h3 (by simp)
                · cases hs
              · rw [if_neg w12] at hs
                by_cases w13 : x.1 = 13
                · rw [if_pos w13] at hs
                  split at hs
                  · cases hs
                    have hx6 : ∃ v, c[x.2]? = some (6, v) := by
                      rcases hx with e | e | e | e | e
                      · omega
                      · omega
                      · omega
                      · omega
                      · exact e.2
                    obtain ⟨v, hv⟩ := hx6
                    intro e
                    have h8 := congrArg List.length e
                    rw [setO_len] at h8
                    have := (List.getElem?_eq_some_iff.mp hv).1
                    simp only [List.length_nil] at h8
                    omega
                  · cases hs
                · rw [if_neg w13] at hs
                  split at hs
                  · cases hs
                    exact happ _ _
                  · cases hs
theorem rdT_ne : ∀ (cs : List Int) (i : Nat) (st st' : RA), RI i st → (2 ≤ st.2.1 → st.1 ≠ []) → i + cs.length ≤ 60 → rdT st cs = (none, st') → 2 ≤ st'.2.1 → st'.1 ≠ []
  | [], i, st, st', _, h0, _, hr, h3 => by
    cases hr
    exact h0 h3
  | ch :: t, i, st, st', h, h0, hl, hr, h3 => by
    rw [rdT] at hr
    simp only [List.length_cons] at hl
    cases hs : stp st ch with
    | none =>
      rw [hs] at hr
      cases hr
    | some s1 =>
      rw [hs] at hr
      simp only [] at hr
      have h1 : (rdT s1 t).1 = none := by
        have := congrArg Prod.fst hr
        simpa using this
      have h2 : (rdT s1 t).2 = st' := congrArg Prod.snd hr
      exact rdT_ne t (i + 1) s1 st' (h.next (by omega) hs) (fun h9 => stp_ne h hs (fun e => h0 (by omega)) h9) (by omega) (by rw [← h2, ← h1]) h3
theorem cLo_bit : ∀ (c : Rcpe) (x : Int × Int), x ∈ c → x.1 = 0 → 20 ≤ x.2 → (cLo c).testBit (x.2 - 20).toNat = true
  | [], _, h, _, _ => by cases h
  | y :: t, x, h, h1, h2 => by
    rw [cLo, Nat.testBit_or]
    rcases List.mem_cons.mp h with e | e
    · rw [← e, if_pos ⟨h1, h2⟩, Nat.testBit_two_pow]
      simp
    · rw [cLo_bit t x e h1 h2, Bool.or_true]
theorem wfc_of {i l : Nat} {st : RA} (h : RI i st) (hi : i ≤ 60) (hl : cLo st.1 >>> l = 0) (hne : st.1 ≠ []) : WFc l st.1 := by
  have hlen : st.1.length < 60 := by
    rcases h.2.2.2.2.2.2 with e | e | e
    · omega
    · have := h.1
      omega
    · have := h.1
      omega
  refine ⟨hlen, fun x hx => ?_⟩
  have h1 := h.2.2.2.2.2.1 x hx
  refine ⟨h1.1, h1.2.1, fun e => ?_, h1.2.2.2.1, h1.2.2.2.2⟩
  rcases h1.2.2.1 e with q | q
  · exact Or.inl q
  · refine Or.inr ⟨q.1, ?_⟩
    have h2 := cLo_bit st.1 x hx e q.1
    rcases Nat.lt_or_ge (x.2 - 20).toNat l with q2 | q2
    · omega
    · have h3 : (cLo st.1 >>> l).testBit ((x.2 - 20).toNat - l) = true := by
        rw [Nat.testBit_shiftRight, show l + ((x.2 - 20).toNat - l) = (x.2 - 20).toNat by omega]
        exact h2
      rw [hl, Nat.zero_testBit] at h3
      cases h3
theorem WFS.rcp {S : SS} {l : Nat} {c : Rcpe} (h : WFS S) (hc : WFc l c) (L : List Mem) (hL : L.Sublist S.2.1) : WFS (S.1, L, fun j => if j = l then c else S.2.2 j) := by
  obtain ⟨a1, a2, a3, a4, a5, a6, a7, a8, a9⟩ := h
  refine ⟨a1, a2, a3, a4, a5, ?_, fun M hM => a7 M (hL.subset hM), a8.sublist (hL.map mSer), fun j hj => ?_⟩
  · have := hL.length_le
    show (L.length : Int) ≤ S.1 0
    omega
  · show WFc j (if j = l then c else S.2.2 j)
    by_cases e : j = l
    · rw [if_pos e, e]
      exact hc
    · rw [if_neg e]
      exact a9 j hj
theorem rdT_lt : ∀ (cs : List Int) (st : RA) (i : Nat), (rdT st cs).1 = some i → i < cs.length
  | [], _, _, h => by cases h
  | ch :: t, st, i, h => by
    rw [rdT] at h
    cases hs : stp st ch with
    | none =>
      rw [hs] at h
      cases h
      simp
    | some s1 =>
      rw [hs] at h
      simp only [] at h
      cases h1 : (rdT s1 t).1 with
      | none =>
        rw [h1] at h
        cases h
      | some j =>
        rw [h1] at h
        cases h
        have := rdT_lt t s1 j h1
        simp only [List.length_cons]
        omega
theorem ffA_r {cs : List Int} (h : cs.length ≤ 60) : -6 ≤ ffA cs ∧ ffA cs ≤ 100 := by
  unfold ffA
  cases h1 : (rdT ([], 0, []) cs).1 with
  | none =>
    simp only []
    split <;> omega
  | some i =>
    have := rdT_lt _ _ _ h1
    simp only []
    omega
section CALLS4
variable {G : GT} {d k n : Nat} {σ : Sg} {Q : Option AV → Sg → Prop}
set_option maxHeartbeats 8000000 in
theorem sp_X5_recipe {Φ : Sg} {E : Nat → Nat} {C : CS} {x : Int} (h : RepC Φ E C σ) (hx : i32 x) (hk2 : 3 ≤ k) (hn2 : 126 ≤ n) (hdp : 40 ≤ d) (hQ : ∀ E' σ', sn σ' ≤ sn σ + 3 → RepC Φ E' (recC x C).1 σ' → Q (some (Vi (recC x C).2)) σ') : WA G d k n mX5_recipe 0 [Va 0, Vi x, Vu] [] σ Q := by
  have hk0 := h.1.1.1
  have hp := h.2.2.2.2.2.2.1
  have hr0 := h.1.1.2.2.2.2.2.1
  have hr9 := h.1.1.2.2.2.2.2.2.2.2.2.2.2.1
  have h156 := h.1.2.2.1.1
  unfold recC at hQ
  refine ar_iload_n 1 rfl d_X5_recipe_0 rfl ?_
  refine ar_callS0 (M' := mX5_isLoaf) (As := [_]) (ls' := [Vi _]) 4 rfl d_X5_recipe_1 ml_X5_79 mt_X5_isLoaf rfl (Nat.le_of_ble_eq_true rfl) rfl (Nat.le_of_ble_eq_true rfl) (by omega) ?_
  refine sp_X5_isLoaf hx (fun g1 => ?_) (fun g1 => ?_)
  · refine ar_if_ne 9 7 rfl rfl d_X5_recipe_4 (by omega) (fun g4 => ?_) (fun h => absurd h (by decide))
    refine ar_aload_n 10 rfl d_X5_recipe_9 rfl ?_
    refine ar_getA 13 rfl d_X5_recipe_10 fl_X5_44 rfl (by assumption) (by assumption) ?_
    refine ar_aload_n 14 rfl d_X5_recipe_13 rfl ?_
    refine ar_getA 17 rfl d_X5_recipe_14 fl_X5_9 rfl (by assumption) (by assumption) ?_
    refine ar_aload_n 18 rfl d_X5_recipe_17 rfl ?_
    refine ar_giv (y := (C.2.2.2.length : Int)) 21 rfl d_X5_recipe_18 fl_X5_100 rfl (by assumption) hp ?_
    refine ar_callV0 (M' := mX2_firstFault) (As := [_, _]) (ls' := [Va _, Vr _, Vi _, Vu]) 24 rfl d_X5_recipe_21 ml_X5_105 mt_X2_firstFault h156 rfl (Nat.le_of_ble_eq_true rfl) rfl (Nat.le_of_ble_eq_true rfl) (by omega) ?_
    rw [if_neg (fun h => h g1)] at hQ
    refine sp_X2_firstFault (cs := C.2.2.2) h.1.2.2.1 h.1.1.2.1 (by omega) (fun j x hx => ?_) h.2.2.2.2.2.2.2.1 (by omega) (fun σ1 hf1 hrd => ?_)
    · have := h.2.2.2.2.2.2.2.2 j x hx
      exact ⟨this.1, by omega, by omega⟩
    have h1 : RepC Φ E C σ1 := h.rd hf1
    have hn1 : sn σ1 = sn σ := by
      show σ1.2.2.2 = _
      rw [hf1.1]
    have hffr : i32 (ffA C.2.2.2) := by
      have hl60 := h.2.2.2.2.2.2.2.1
      have hff0 : -6 ≤ ffA C.2.2.2 ∧ ffA C.2.2.2 ≤ 100 := ffA_r hl60
      omega
    have hk0 := h1.1.1.1
    have hr9 := h1.1.1.2.2.2.2.2.2.2.2.2.2.2.1
    have h156 := h1.1.2.2.1.1
    refine ar_bipush 26 rfl d_X5_recipe_24 rfl ?_
    refine ar_icmp_eq 32 29 rfl rfl d_X5_recipe_26 (by omega) (by omega) (fun g26 => ?_) (fun g26 => ?_)
    · rw [if_neg (fun h => h g26)] at hQ
      obtain ⟨hRR, hRI, hno, hW0, hst2⟩ := hrd g26
      have hne : (rdT ([], 0, []) C.2.2.2).2.1 ≠ [] := rdT_ne C.2.2.2 0 ([], 0, []) _ ⟨Nat.le_refl _, Nat.le_refl _, Nat.zero_le _, (fun h => by cases h), (fun x hx => by cases hx), (fun x hx => by cases hx), Or.inr (Or.inl ⟨rfl, rfl⟩)⟩ (fun h => absurd h (by decide)) (by have := h.2.2.2.2.2.2.2.1; omega) (by rw [← hno]) hst2
      generalize rdT ([], 0, []) C.2.2.2 = R at hQ hRR hRI hno hW0 hst2 hne
      obtain ⟨ro, c, stg, W⟩ := R
      have hc : RRd σ1 c := hRR.1
      have hlo := hc.2.2.2.1
      obtain ⟨l, rfl⟩ : ∃ l : Nat, x = (l : Int) := ⟨x.toNat, by omega⟩
      have hl6 : l < 6 := by omega
      have hcl : cLo c < 4096 := cLo_lt (fun x hx h1 h2 => by
        have := (hRI.2.2.2.2.2.1 x hx).2.2.1 h1
        omega)
      simp only [Int.toNat_natCast] at hQ
      refine ar_aload_n 33 rfl d_X5_recipe_32 rfl ?_
      refine ar_getA 36 rfl d_X5_recipe_33 fl_X5_44 rfl (by assumption) (by assumption) ?_
      refine ar_giv (y := ((cLo c : Nat) : Int)) 39 rfl d_X5_recipe_36 fl_X5_109 rfl (by assumption) hlo ?_
      refine ar_iload_n 40 rfl d_X5_recipe_39 rfl ?_
      refine ar_iushr 41 rfl d_X5_recipe_40 ?_
      refine ar_top (iUs_n (by omega) (by omega)) ?_
      have hsl := Nat.shiftRight_le (cLo c) l
      generalize hq : cLo c >>> l = q at hsl hQ ⊢
      refine ar_if_eq 47 44 rfl rfl d_X5_recipe_41 (by omega) (fun g41 => ?_) (fun g41 => ?_)
      · have hz : q = 0 := by omega
        rw [if_neg (fun h => h hz)] at hQ
        have hwc : WFc l c := wfc_of hRI (h.2.2.2.2.2.2.2.1) (hq.trans hz) hne
        refine ar_aload_n 48 rfl d_X5_recipe_47 rfl ?_
        refine ar_callV0 (M' := mX5_recordChange) (As := []) (ls' := [Va _]) 51 rfl d_X5_recipe_48 ml_X5_52 mt_X5_recordChange (by assumption) rfl (Nat.le_of_ble_eq_true rfl) rfl (Nat.le_of_ble_eq_true rfl) (by omega) ?_
        refine sp_recordChange2 h1 (by omega) (fun E2 σ2 hs2 hkeep h2 => ?_)
        have hc2 : RRd σ2 c := hc.e (fun j _ _ => by rw [hkeep 156 (by omega) (by omega)]) (hkeep 157 (by omega) (by omega)) (hkeep 158 (by omega) (by omega))
        have hk0 := h2.1.1.1
        have hr9 := h2.1.1.2.2.2.2.2.2.2.2.2.2.2.1
        have h156 := h2.1.2.2.1.1
        have hsn2 := h2.1.2.2.2
        refine ar_aload_n 52 rfl d_X5_recipe_51 rfl ?_
        refine ar_getA 55 rfl d_X5_recipe_52 fl_X5_44 rfl (by assumption) (by assumption) ?_
        refine ar_callV (M' := mX2_recipeRead) (As := []) (ls' := [Va _]) 3 126 (k - 3) (n - 126) 58 rfl d_X5_recipe_55 ml_X5_112 mt_X2_recipeRead h156 rfl (Nat.le_of_ble_eq_true rfl) rfl (Nat.le_of_ble_eq_true rfl) (by omega) (by omega) (by omega) ?_
        refine sp_X2_recipeRead (r := sn σ2) rfl hsn2 h2.1.2.2.1 hc2 hwc.1 (by omega) (by omega) (by omega) (fun σ3 hR3 hn3 hf3 => ?_)
        have h3 : RepC Φ E2 (recF C) σ3 := h2.frn hf3 (by omega)
        have hk0 := h3.1.1.1
        have hr2 : hR σ3 0 2 = some (oS (E2 6)) := h3.2.1.2.2.1
        have hE6 := h3.2.1.1 6 (by omega)
        have hr6 := oS_r hE6
        have hst3 : RSt σ3 (oS (E2 6)) C.1 := h3.2.2.2.1.1
        have hw3 : WFS C.1 := h3.2.2.2.1.2
        obtain ⟨hS3, hSf3, hSr3, hSm3⟩ := hst3
        have hks := hS3.1
        have hk3 : sk σ3 (oS (E2 6) + 3) = (14, 6) := hS3.2.2.2.1
        have hr3 : hR σ3 (oS (E2 6)) 3 = some (oS (E2 6) + 3) := hS3.2.2.2.2.2.2.2.2.2.1
        have hkr := hR3.1
        refine ar_ast_2 59 rfl d_X5_recipe_58 rfl (by intro _ h; cases h) ?_
        refine ar_aload_n 60 rfl d_X5_recipe_59 rfl ?_
        refine ar_getA 63 rfl d_X5_recipe_60 fl_X5_16 rfl (by assumption) (by assumption) ?_
        refine ar_getA 66 rfl d_X5_recipe_63 fl_X5_116 rfl (by assumption) (by assumption) ?_
        refine ar_iload_n 67 rfl d_X5_recipe_66 rfl ?_
        refine ar_aload_n 68 rfl d_X5_recipe_67 rfl ?_
        refine ar_aasN (kd := 14) l 69 rfl d_X5_recipe_68 (by assumption) (by omega) (by omega) (by omega) hkr ?_
        refine ar_aload_n 70 rfl d_X5_recipe_69 rfl ?_
        refine ar_getA 73 rfl d_X5_recipe_70 fl_X5_16 rfl (by assumption) (by rw [hR_w, if_neg (by omega)]; exact hr2) ?_
        refine ar_iload_n 74 rfl d_X5_recipe_73 rfl ?_
        refine ar_callV0 (M' := mX4_dropAllOf) (As := [_]) (ls' := [Va _, Vi _, Vu]) 77 rfl d_X5_recipe_74 ml_X5_120 mt_X4_dropAllOf (by assumption) rfl (Nat.le_of_ble_eq_true rfl) rfl (Nat.le_of_ble_eq_true rfl) (by omega) ?_
        have hf4 : FrS (oS (E2 6)) σ3 (wR σ3 (oS (E2 6) + 3) l (some (sn σ2))) := FrS.wR (by omega)
        have hst4 : RSt (wR σ3 (oS (E2 6) + 3) l (some (sn σ2))) (oS (E2 6)) (C.1.1, C.1.2.1, fun j => if j = l then c else C.1.2.2 j) := by
          refine ⟨hS3.fr rfl (fun b hb hb2 => by funext i; rw [hR_w, if_neg (by omega)]), hSf3.fr (fun _ _ => rfl) (fun _ _ => rfl), fun j hj => ?_, hSm3.frm0 (fun _ _ => rfl) (by funext i; rw [hR_w, if_neg (by omega)])⟩
          by_cases e : j = l
          · subst e
            refine Or.inr ⟨by show (if j = j then c else _) ≠ []; rw [if_pos rfl]; exact hne, sn σ2, hsn2, by show sn σ2 + 3 ≤ sn σ3; omega, by rw [hR_w, if_pos ⟨rfl, rfl⟩], ?_⟩
            show RRec _ _ (if j = j then c else _)
            rw [if_pos rfl]
            exact hR3.fr (fun b hb => ⟨rfl, rfl, by funext i; rw [hR_w, if_neg (by omega)]⟩)
          · show ((if j = l then c else C.1.2.2 j) = [] ∧ _) ∨ ((if j = l then c else C.1.2.2 j) ≠ [] ∧ ∃ r, _ ∧ _ ∧ _ ∧ RRec _ r (if j = l then c else C.1.2.2 j))
            rw [if_neg e, hR_w, if_neg (by omega)]
            rcases hSr3 j hj with q | ⟨q1, r, q2, q3, q4, q5⟩
            · exact Or.inl q
            · exact Or.inr ⟨q1, r, q2, q3, q4, q5.fr (fun b hb => ⟨rfl, rfl, by funext i; rw [hR_w, if_neg (by omega)]⟩)⟩
        have hwr : WFS (C.1.1, C.1.2.1.filter (notOf (l : Int)), fun j => if j = l then c else C.1.2.2 j) := hw3.rcp hwc _ List.filter_sublist
        refine sp_X4_dropAllOf hst4.1 hst4.2.2.2 (by omega) (fun M hM => ?_) (by omega) (fun σ5 hf5 hL5 => ?_)
        · have hh := (hw3.2.2.2.2.2.2.1 M hM)
          have := hh.1
          have := hh.2.1
          omega
        have hst5 := hst4.mem hf5 hL5 hr6.1.2
        have h5 : RepC Φ E2 ((C.1.1, C.1.2.1.filter (notOf (l : Int)), fun j => if j = l then c else C.1.2.2 j), (recF C).2) σ5 := h3.st (hf4.tr (FrS.m hf5)) hst5 hwr
        have hk0 := h5.1.1.1
        have hR5 : RRec σ5 (sn σ2) c := hR3.fr (fun b hb => ⟨hf5.1 ▸ rfl, by rw [hf5.2.2.2.1 b (by omega)]; rfl, by rw [hf5.2.2.1 b (by omega)]; funext i; rw [hR_w, if_neg (by omega)]⟩)
        have hkr := hR5.1
        have hpt := hR5.2.2.2.2.2.2.1
        have hn5 : sn σ5 = sn σ3 := hf5.2.1
        refine ar_aload_n 78 rfl d_X5_recipe_77 rfl ?_
        refine ar_iconst 79 rfl d_X5_recipe_78 ?_
        refine ar_putI 82 rfl d_X5_recipe_79 fl_X5_100 rfl rfl (by assumption) ?_
        refine ar_aload_n 83 rfl d_X5_recipe_82 rfl ?_
        refine ar_giv (y := (cParts c)) 86 rfl d_X5_recipe_83 fl_X5_123 rfl (by assumption) (by rw [hI_w, if_neg (by omega)]; exact hpt) ?_
        refine WA.ret (some (Vi _)) ⟨d_X5_recipe_86, rfl, Or.inl rfl⟩ ?_
        exact hQ E2 _ (by show sn σ5 ≤ _; omega) (h5.pad (cs := []) rfl (by decide) (fun j x hx => by simp at hx))
      · refine ar_bipush 46 rfl d_X5_recipe_44 rfl ?_
        refine WA.ret (some (Vi _)) ⟨d_X5_recipe_46, rfl, Or.inl rfl⟩ ?_
        rw [if_pos (by omega)] at hQ
        exact hQ E σ1 (by omega) h1
    · refine ar_bipush 31 rfl d_X5_recipe_29 rfl ?_
      refine WA.ret (some (Vi _)) ⟨d_X5_recipe_31, rfl, Or.inl rfl⟩ ?_
      rw [if_pos g26] at hQ
      exact hQ E σ1 (by omega) h1
  · refine ar_if_ne 9 7 rfl rfl d_X5_recipe_4 (by omega) (fun h => absurd h (by decide)) (fun g4 => ?_)
    refine ar_iconst 8 rfl d_X5_recipe_7 ?_
    refine WA.ret (some (Vi _)) ⟨d_X5_recipe_8, rfl, Or.inl rfl⟩ ?_
    rw [if_pos g1] at hQ
    exact hQ E σ (by omega) h
end CALLS4
