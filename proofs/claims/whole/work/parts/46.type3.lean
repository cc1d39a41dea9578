theorem RepC.pw {Φ : Sg} {E : Nat → Nat} {C : CS} {σ : Sg} {j : Nat} {x : Int} (h : RepC Φ E C σ) (hj : C.2.2.2.length ≤ j) : RepC Φ E C (wI σ 1 j x) := by
  obtain ⟨⟨a1, a2, a3, a4⟩, b, c, e, f, g, p⟩ := h
  have hk : Kp (fun b => b ≠ 1) σ (wI σ 1 j x) := ⟨rfl, rfl, fun b hb => ⟨by funext i; rw [hI_w, if_neg (by omega)], rfl⟩⟩
  have hr6 := oS_r (b.1 6 (by omega))
  refine ⟨⟨a1.kp hk (fun _ _ => rfl) (by omega), a2.fr rfl (fun _ _ _ _ => rfl) (fun _ _ => rfl), a3.e rfl, a4⟩, b, ⟨fun i hi => ⟨(c.1 i hi).1.e rfl, (c.1 i hi).2.fr rfl⟩, c.2.1.e rfl, c.2.2.fr rfl⟩, ⟨e.1.kp hk (fun b hb => by omega) hr6.1.2 a4, e.2⟩, ⟨by rw [hI_w, if_neg (by omega)]; exact f.1, f.2.1, fun i S hS => ?_⟩, g.kp hk (fun b hb => by omega) a4, ⟨by rw [hI_w, if_neg (by omega)]; exact p.1, p.2.1, fun i y hy => ?_⟩⟩
  · have hi : i < C.2.1.length := (List.getElem?_eq_some_iff.mp hS).1
    have := f.2.1
    have hri := oS_r (b.1 i (by omega))
    exact ⟨(f.2.2 i S hS).1.kp hk (fun b hb => by omega) hri.1.2 a4, (f.2.2 i S hS).2⟩
  · have hi := (List.getElem?_eq_some_iff.mp hy).1
    rw [hI_w, if_neg (by omega)]
    exact p.2.2 i y hy
theorem byt_len (n L : Nat) : (byt n L).length = L := by
  unfold byt
  rw [List.length_map, List.length_range]
theorem byt_at {n L i : Nat} (hi : i < L) : (byt n L)[i]? = some ((n >>> (8 * (L - 1 - i)) % 256 : Nat) : Int) := by
  unfold byt
  rw [List.getElem?_map, List.getElem?_range hi]
  rfl
section TYP2
variable {G : GT} {d k n : Nat} {σ : Sg} {Q : Option AV → Sg → Prop} {Φ : Sg} {E : Nat → Nat} {C : CS}
set_option maxHeartbeats 8000000 in
theorem sp_X5_type {v : Int} (h : RepC Φ E C σ) (hv : i64 v) (hdp : 40 ≤ d) (hQ : ∀ E' σ', sn σ' = sn σ → RepC Φ E' (typF v C).1 σ' → Q (some (Vi (typF v C).2)) σ') : WA G d k n mX5_type 0 [Va 0, Vl v, Vu, Vu, Vu] [] σ Q := by
  have hk0 := h.1.1.1
  have hp := h.2.2.2.2.2.2.1
  have hp60 := h.2.2.2.2.2.2.2.1
  unfold typF at hQ
  have hL8 := lnT_le 8 0 (NL v) (by omega)
  have hLo := lnT_ok 8 0 (NL v)
  have hlen := fun (Q' : Option AV → Sg → Prop) (d' k' n' : Nat) hq => sp_X5_lengthOfText (G := G) (d := d') (k := k') (n := n') (σ := σ) (Q := Q') hv hq
  generalize lnT 8 0 (NL v) = L at hQ hL8 hLo hlen
  have loop : ∀ r i : Nat, ∀ σi : Sg, L - i = r → i ≤ L → 0 < L → C.2.2.2.length + L ≤ 60 → RepC Φ E (C.1, C.2.1, C.2.2.1, C.2.2.2 ++ (byt (NL v) L).take i) σi → sn σi = sn σ → (∀ E' σ', sn σ' = sn σ → RepC Φ E' (C.1, C.2.1, C.2.2.1, C.2.2.2 ++ byt (NL v) L) σ' → Q (some (Vi ((C.2.2.2.length + L : Nat) : Int))) σ') → WA G d k n mX5_type 31 [Va 0, Vl v, Vu, Vi (L : Int), Vi ((L : Int) - 1 - (i : Int))] [] σi Q := by
    intro r
    induction r using Nat.strongRecOn with
    | ind r ih =>
    intro i σi hr hi hL0 hP hRi hni hQi
    have hk0 := hRi.1.1.1
    have hk1 : sk σi 1 = (10, 60) := hRi.1.1.2.1
    have hr0 : hR σi 0 0 = some 1 := hRi.1.1.2.2.2.2.2.1
    have hcl : (C.2.2.2 ++ (byt (NL v) L).take i).length = C.2.2.2.length + i := by
      rw [List.length_append, List.length_take, byt_len]
      omega
    have hpi : hI σi 0 1 = ((C.2.2.2.length + i : Nat) : Int) := by
      rw [← hcl]
      exact hRi.2.2.2.2.2.2.1
    refine ar_iload 33 rfl d_X5_type_31 rfl ?_
    refine ar_if_lt 73 36 rfl rfl d_X5_type_33 (by omega) (fun g33 => ?_) (fun g33 => ?_)
    · refine ar_aload_n 74 rfl d_X5_type_73 rfl ?_
      refine ar_giv (y := ((C.2.2.2.length + L : Nat) : Int)) 77 rfl d_X5_type_74 fl_X5_100 rfl (by assumption) (by rw [hpi, show i = L by omega]) ?_
      refine WA.ret (some (Vi _)) ⟨d_X5_type_77, rfl, Or.inl rfl⟩ ?_
      have hiL : i = L := by omega
      subst hiL
      rw [List.take_of_length_le (by rw [byt_len]; exact Nat.le_refl _)] at hRi
      exact hQi E σi hni hRi
    · have hi1 : i < L := by omega
      have hb := byt_at (n := NL v) hi1
      have hbo := (hLo hL0).2 (L - 1 - i) (by omega)
      refine ar_aload_n 37 rfl d_X5_type_36 rfl ?_
      refine ar_getA 40 rfl d_X5_type_37 fl_X5_9 rfl (by assumption) (by assumption) ?_
      refine ar_aload_n 41 rfl d_X5_type_40 rfl ?_
      refine ar_giv (y := ((C.2.2.2.length + i : Nat) : Int)) 44 rfl d_X5_type_41 fl_X5_100 rfl (by assumption) hpi ?_
      refine ar_lload_n 45 rfl d_X5_type_44 rfl ?_
      refine ar_bipush 47 rfl d_X5_type_45 rfl ?_
      refine ar_iload 49 rfl d_X5_type_47 rfl ?_
      refine ar_imul 50 rfl d_X5_type_49 ?_
      refine ar_top (y := ((8 * (L - 1 - i) : Nat) : Int)) (by omega) ?_
      refine ar_lushr 51 rfl d_X5_type_50 ?_
      refine ar_ldc2 255 54 rfl d_X5_type_51 lc_X5_103 rfl ?_
      refine ar_land 55 rfl d_X5_type_54 ?_
      refine ar_l2i 56 rfl d_X5_type_55 ?_
      refine ar_top (y := ((NL v >>> (8 * (L - 1 - i)) % 256 : Nat) : Int)) (by rw [lAn_n, NL_us (by omega)]) ?_
      generalize NL v >>> (8 * (L - 1 - i)) % 256 = x at hb hbo ⊢
      refine ar_iasN (C.2.2.2.length + i) 57 rfl d_X5_type_56 (by assumption) (by omega) (by omega) ?_
      refine ar_aload_n 58 rfl d_X5_type_57 rfl ?_
      refine ar_dup 59 rfl d_X5_type_58 (fun _ => rfl) ?_
      refine ar_giv (y := ((C.2.2.2.length + i : Nat) : Int)) 62 rfl d_X5_type_59 fl_X5_100 rfl (by assumption) (by rw [hI_w, if_neg (by omega)]; exact hpi) ?_
      refine ar_iconst 63 rfl d_X5_type_62 ?_
      refine ar_iadd 64 rfl d_X5_type_63 ?_
      refine ar_top (y := ((C.2.2.2.length + i + 1 : Nat) : Int)) (by omega) ?_
      refine ar_putI 67 rfl d_X5_type_64 fl_X5_100 rfl rfl (by assumption) ?_
      refine ar_inc_4 (y := ((L : Int) - 1 - ((i + 1 : Nat) : Int))) 70 rfl d_X5_type_67 rfl (by intro _ h; cases h) (by omega) ?_
      refine ar_goto 31 rfl d_X5_type_70 ?_
      have h1 := hRi.pw (j := C.2.2.2.length + i) (x := (x : Int)) (by show (C.2.2.2 ++ (byt (NL v) L).take i).length ≤ _; omega)
      have htk : (byt (NL v) L).take (i + 1) = (byt (NL v) L).take i ++ [(x : Int)] := by rw [List.take_succ, hb]; rfl
      have hcl2 : (C.2.2.2 ++ (byt (NL v) L).take (i + 1)).length = C.2.2.2.length + i + 1 := by
        rw [List.length_append, List.length_take, byt_len]
        omega
      refine ih (L - (i + 1)) (by omega) (i + 1) _ rfl (by omega) hL0 hP (h1.pad (cs := C.2.2.2 ++ (byt (NL v) L).take (i + 1)) (by rw [hcl2]) (by omega) (fun j y hy => ?_)) hni hQi
      rw [htk, ← List.append_assoc] at hy
      by_cases e : j = C.2.2.2.length + i
      · rw [e, ← hcl, List.getElem?_append_right (Nat.le_refl _), Nat.sub_self] at hy
        simp only [List.getElem?_cons_zero] at hy
        cases hy
        rw [hI_w, if_pos ⟨rfl, e⟩]
        exact ⟨rfl, by omega, by omega⟩
      · have hj := (List.getElem?_eq_some_iff.mp hy).1
        rw [List.length_append, hcl] at hj
        simp only [List.length_cons, List.length_nil] at hj
        rw [List.getElem?_append_left (by omega)] at hy
        rw [hI_w, if_neg (by omega)]
        exact hRi.2.2.2.2.2.2.2.2 j y hy
  refine ar_lload_n 1 rfl d_X5_type_0 rfl ?_
  refine ar_callS0 (M' := mX5_lengthOfText) (As := [_]) (ls' := [Vl _, Vu, Vu, Vu, Vu, Vu]) 4 rfl d_X5_type_1 ml_X5_96 mt_X5_lengthOfText rfl (Nat.le_of_ble_eq_true rfl) rfl (Nat.le_of_ble_eq_true rfl) (by omega) ?_
  refine hlen _ _ _ _ ?_
  refine ar_ist_3 5 rfl d_X5_type_4 rfl (by intro _ h; cases h) ?_
  refine ar_iload_n 6 rfl d_X5_type_5 rfl ?_
  refine ar_if_ne 12 9 rfl rfl d_X5_type_6 (by omega) (fun g6 => ?_) (fun g6 => ?_)
  · refine ar_iload_n 13 rfl d_X5_type_12 rfl ?_
    refine ar_bipush 15 rfl d_X5_type_13 rfl ?_
    refine ar_aload_n 16 rfl d_X5_type_15 rfl ?_
    refine ar_giv (y := (C.2.2.2.length : Int)) 19 rfl d_X5_type_16 fl_X5_100 rfl (by assumption) hp ?_
    refine ar_isub 20 rfl d_X5_type_19 ?_
    refine ar_icmp_le 26 23 rfl rfl d_X5_type_20 (by omega) (by omega) (fun g20 => ?_) (fun g20 => ?_)
    · refine ar_iload_n 27 rfl d_X5_type_26 rfl ?_
      refine ar_iconst 28 rfl d_X5_type_27 ?_
      refine ar_isub 29 rfl d_X5_type_28 ?_
      refine ar_top (y := (L : Int) - 1 - ((0 : Nat) : Int)) (by omega) ?_
      refine ar_ist_4 31 rfl d_X5_type_29 rfl (by intro _ h; cases h) ?_
      rw [if_neg (by omega), if_neg (by omega)] at hQ
      refine loop L 0 σ rfl (by omega) (by omega) (by omega) ?_ rfl hQ
      rw [List.take_zero, List.append_nil]
      exact h
    · refine ar_bipush 25 rfl d_X5_type_23 rfl ?_
      refine WA.ret (some (Vi _)) ⟨d_X5_type_25, rfl, Or.inl rfl⟩ ?_
      rw [if_neg (by omega), if_pos (by omega)] at hQ
      exact hQ E σ rfl h
  · refine ar_bipush 11 rfl d_X5_type_9 rfl ?_
    refine WA.ret (some (Vi _)) ⟨d_X5_type_11, rfl, Or.inl rfl⟩ ?_
    rw [if_pos (by omega)] at hQ
    exact hQ E σ rfl h
end TYP2
/-- the object as the constructor leaves it, when the reference's cells stand behind it -/
theorem XI.rep {Φ σ0 σ : Sg} (h : XI σ0 6 2) (hΦ : FrX Φ σ) (hf : FrN 625 σ0 σ) (hn : 652 ≤ sn σ) : RepC Φ E00 C00 σ := by
  have hX := h.fr (σ' := σ) (a := 60) (m := 6) (Or.inr rfl) (fun b h1 h2 => hf b (by have := h.2.2.2.2.2.2.2.2; omega)) (Or.inl ⟨rfl, rfl⟩) (hf 60 (by omega)).1 (fun b hb => by rw [(hf 60 (by omega)).2.2])
  obtain ⟨⟨u1, u2, u3, u4, u5, u6, u7, u8, u9, u10, u11, u12, u13⟩, v1, v2, v3, v4, ⟨w1, w2, w3⟩, x1, x2⟩ := hX
  have hO : ∀ i, i < 7 → RSt σ (oS i) S00 := by
    intro i hi
    by_cases e : i = 0
    · rw [e]
      exact v3
    · have h1 := (x1 (i - 1) (by omega)).2
      unfold oS
      rw [if_neg e, show 103 + 58 * i = 161 + 58 * (i - 1) by omega]
      exact h1
  refine ⟨⟨⟨u1, u2, u3, u4, u5, u6, u7, u8, u9, u10, u11, u12, (x2 0 (by omega)).1, (x2 1 (by omega)).1⟩, v1, v2, hn⟩, ⟨fun i hi => ?_, fun i j hi hj hij => ?_, u13, fun i hi => ?_⟩, ⟨fun i hi => ⟨(hO i hi).1, (hO i hi).2.2.2.pr⟩, v4.1, v4.2.2.2.pr⟩, ⟨hO 0 (by omega), wfs00⟩, ⟨w2, Nat.zero_le _, fun i S hS => ?_⟩, ⟨hΦ, fun j hj => ⟨(x2 j hj).2.1, (x2 j hj).2.2.2.2.pr, Or.inl ⟨rfl, w3 j⟩⟩⟩, ⟨w1, Nat.zero_le _, fun j x hx => ?_⟩⟩
  · unfold E00
    split <;> omega
  · unfold E00 at hij
    split at hij <;> split at hij <;> omega
  · rw [(x1 i hi).1]
    rw [show E00 i = i + 1 from if_neg (by omega)]
    unfold oS
    rw [if_neg (by omega)]
    exact congrArg some (by omega)
  · have hS : ([] : List SS)[i]? = some S := hS
    simp at hS
  · have hx : ([] : List Int)[j]? = some x := hx
    simp at hx
