def wipF (C : CS) : CS × Int := ((C.1, C.2.1, C.2.2.1, []), (C.2.2.2.length : Int))
def undF (C : CS) : CS × Int := match C.2.1.getLast? with
  | none => (C, -5)
  | some S => ((S, C.2.1.dropLast, C.2.2), (C.2.1.length : Int) - 1)
def savF (x : Int) (C : CS) : CS × Int := if ¬ (0 ≤ x ∧ x < 2) then (C, -2) else ((C.1, C.2.1, (fun j => if j = x.toNat then some C.1 else C.2.2.1 j), C.2.2.2), (C.1.2.1.length : Int))
def resF (x : Int) (C : CS) : CS × Int := if ¬ (0 ≤ x ∧ x < 2) then (C, -2) else match C.2.2.1 x.toNat with
  | none => (C, -5)
  | some S => ((S, (recF C).2), (S.2.1.length : Int))
theorem RSf.poi {σ : Sg} {s p pm : Nat} {f : Nat → Int} {y : Int} (h : RSf σ s f) (hp : p < 12) (hpm : pm < 4096) (hb : ∀ i, i < 12 → i ≠ p → f (14 + i) = if pm.testBit i = true then 1 else 0) (hy : y = if pm.testBit p = true then 1 else 0) : RSf (wI σ s 1 (pm : Int)) s (uf f (14 + p) y) := by
  obtain ⟨h1, -, h5, h6, h7, h8, h9, h10, h11⟩ := h
  refine ⟨fun i hi => ?_, ⟨pm, hpm, by rw [hI_w, if_pos ⟨rfl, rfl⟩], fun i hi => ?_⟩, ?_, ?_, fun l hl => ?_, fun l hl => ?_, ?_, ?_, ?_⟩
  · rw [hI_w, if_neg (by omega), uf_n (by omega)]; exact h1 i hi
  · by_cases e : i = p
    · rw [e, uf_s]
      exact hy
    · rw [uf_n (by omega)]
      exact hb i hi e
  · rw [hI_w, if_neg (by omega), uf_n (by omega)]; exact h5
  · rw [hI_w, if_neg (by omega), uf_n (by omega)]; exact h6
  · rw [hI_w, if_neg (by omega), uf_n (by omega)]; exact h7 l hl
  · rw [hI_w, if_neg (by omega), uf_n (by omega)]; exact h8 l hl
  · rw [hI_w, if_neg (by omega), uf_n (by omega)]; exact h9
  · rw [hI_w, if_neg (by omega), uf_n (by omega)]; exact h10
  · rw [hI_w, if_neg (by omega), uf_n (by omega)]; exact h11
section CALLS2
variable {G : GT} {d k n : Nat} {σ : Sg} {Q : Option AV → Sg → Prop}
theorem poi_n {pm p : Nat} {y : Int} (hpm : pm < 4096) (hp : p < 12) (hy : y = 0 ∨ y = 1) : iOr (iAn (pm : Int) (iXr (iSl 1 (p : Int)) (-1))) (iSl y (p : Int)) = (((pm &&& (2 ^ p ^^^ 4294967295)) ||| (if y = 1 then 2 ^ p else 0) : Nat) : Int) := by
  have h1 : pm &&& (2 ^ p ^^^ 4294967295) < 4096 := Nat.lt_of_le_of_lt Nat.and_le_left hpm
  have h2 := Nat.pow_lt_pow_right (a := 2) (by decide) hp
  rw [clr_n hpm hp]
  rcases hy with e | e
  · subst e
    rw [iSl_0 p (by omega), show (0 : Int) = ((0 : Nat) : Int) from rfl, iOr_n (by omega) (by omega)]
    rfl
  · subst e
    rw [iSl_1 p (by omega), iOr_n (by omega) (by omega), if_pos rfl]
theorem poi_b {pm p i : Nat} {y : Int} (hp : p < 12) (hi : i < 12) (hy : y = 0 ∨ y = 1) : ((pm &&& (2 ^ p ^^^ 4294967295)) ||| (if y = 1 then 2 ^ p else 0)).testBit i = if i = p then decide (y = 1) else pm.testBit i := by
  rw [Nat.testBit_or, clr_b (by omega)]
  by_cases e : i = p
  · rw [if_pos e, e]
    rcases hy with c | c
    · subst c
      simp
    · subst c
      simp
  · rw [if_neg e]
    rcases hy with c | c
    · subst c
      simp [Ne.symm e]
    · subst c
      simp [Ne.symm e, Nat.testBit_two_pow]
theorem sp_X5_poison {Φ : Sg} {E : Nat → Nat} {C : CS} {x y : Int} (h : RepC Φ E C σ) (hx : i32 x) (hy : i32 y) (hdp : 40 ≤ d) (hQ : ∀ E' σ', sn σ' = sn σ → RepC Φ E' (poiF x y C).1 σ' → Q (some (Vi (poiF x y C).2)) σ') : WA G d k n mX5_poison 0 [Va 0, Vi x, Vi y, Vu] [] σ Q := by
  have hk0 := h.1.1.1
  have h21 : 0 ≤ x ∧ x < 12 → (y = 0 ∨ y = 1) → WA G d k n mX5_poison 21 [Va 0, Vi x, Vi y, Vu] [] σ Q := by
    intro g1 gy
    refine ar_aload_n 22 rfl d_X5_poison_21 rfl ?_
    refine ar_callV0 (M' := mX5_recordChange) (As := []) (ls' := [Va _]) 25 rfl d_X5_poison_22 ml_X5_52 mt_X5_recordChange (by assumption) rfl (Nat.le_of_ble_eq_true rfl) rfl (Nat.le_of_ble_eq_true rfl) (by omega) ?_
    refine sp_X5_recordChange h (by omega) (fun E1 σ1 hs1 h1 => ?_)
    have hk0 := h1.1.1.1
    have hr2 : hR σ1 0 2 = some (oS (E1 6)) := h1.2.1.2.2.1
    have hE6 := h1.2.1.1 6 (by omega)
    have hr6 := oS_r hE6
    have hst1 : RSt σ1 (oS (E1 6)) C.1 := h1.2.2.2.1.1
    have hw1 : WFS C.1 := h1.2.2.2.1.2
    obtain ⟨hS1, hSf1, hSr1, hSm1⟩ := hst1
    have hks := hS1.1
    obtain ⟨pm, hpm, hpm1, h14⟩ := hSf1.2.1
    obtain ⟨p, rfl⟩ : ∃ p : Nat, x = (p : Int) := ⟨x.toNat, by omega⟩
    have hp : p < 12 := by omega
    refine ar_aload_n 26 rfl d_X5_poison_25 rfl ?_
    refine ar_getA 29 rfl d_X5_poison_26 fl_X5_16 rfl (by assumption) (by assumption) ?_
    refine ar_giv (y := (pm : Int)) 32 rfl d_X5_poison_29 fl_X5_71 rfl (by assumption) hpm1 ?_
    refine ar_iload_n 33 rfl d_X5_poison_32 rfl ?_
    refine ar_callS0 (M' := mX5_bitOf) (As := [_, _]) (ls' := [Vi _, Vi _]) 36 rfl d_X5_poison_33 ml_X5_75 mt_X5_bitOf rfl (Nat.le_of_ble_eq_true rfl) rfl (Nat.le_of_ble_eq_true rfl) (by omega) ?_
    refine sp_X5_bitOf (by omega) (by omega) ?_
    rw [← h14 p hp]
    refine ar_ist_3 37 rfl d_X5_poison_36 rfl (by intro _ h; cases h) ?_
    refine ar_aload_n 38 rfl d_X5_poison_37 rfl ?_
    refine ar_getA 41 rfl d_X5_poison_38 fl_X5_16 rfl (by assumption) (by assumption) ?_
    refine ar_aload_n 42 rfl d_X5_poison_41 rfl ?_
    refine ar_getA 45 rfl d_X5_poison_42 fl_X5_16 rfl (by assumption) (by assumption) ?_
    refine ar_giv (y := (pm : Int)) 48 rfl d_X5_poison_45 fl_X5_71 rfl (by assumption) hpm1 ?_
    refine ar_iconst 49 rfl d_X5_poison_48 ?_
    refine ar_iload_n 50 rfl d_X5_poison_49 rfl ?_
    refine ar_ishl 51 rfl d_X5_poison_50 ?_
    refine ar_iconst 52 rfl d_X5_poison_51 ?_
    refine ar_ixor 53 rfl d_X5_poison_52 ?_
    refine ar_iand 54 rfl d_X5_poison_53 ?_
    refine ar_iload_n 55 rfl d_X5_poison_54 rfl ?_
    refine ar_iload_n 56 rfl d_X5_poison_55 rfl ?_
    refine ar_ishl 57 rfl d_X5_poison_56 ?_
    refine ar_ior 58 rfl d_X5_poison_57 ?_
    refine ar_top (poi_n hpm hp gy) ?_
    refine ar_putI 61 rfl d_X5_poison_58 fl_X5_71 rfl rfl (by assumption) ?_
    refine ar_iload_n 62 rfl d_X5_poison_61 rfl ?_
    refine WA.ret (some (Vi _)) ⟨d_X5_poison_62, rfl, Or.inl rfl⟩ ?_
    unfold poiF at hQ
    rw [if_neg (fun h => h g1), if_neg (fun h => h gy), Int.toNat_natCast] at hQ
    have hlt : (pm &&& (2 ^ p ^^^ 4294967295)) ||| (if y = 1 then 2 ^ p else 0) < 4096 := by
      have h2 := Nat.pow_lt_pow_right (a := 2) (by decide) hp
      refine or_lt (Nat.lt_of_le_of_lt Nat.and_le_left hpm) ?_
      split <;> omega
    have hb : ∀ i, i < 12 → _ := fun i hi => poi_b (pm := pm) hp hi gy
    generalize (pm &&& (2 ^ p ^^^ 4294967295)) ||| (if y = 1 then 2 ^ p else 0) = pn at hlt hb
    have hfi : FrI (oS (E1 6)) (oS (E1 6) + 7) σ1 (wI σ1 (oS (E1 6)) 1 (pn : Int)) := FrI.w (by omega) (by omega)
    have hsf2 : RSf (wI σ1 (oS (E1 6)) 1 (pn : Int)) (oS (E1 6)) (uf C.1.1 (14 + p) y) := by
      refine hSf1.poi hp hlt (fun i hi hip => ?_) ?_
      · rw [hb i hi, if_neg hip]
        exact h14 i hi
      · rw [hb p hp, if_pos rfl]
        rcases gy with e | e <;> rw [e] <;> rfl
    have hst2 : RSt (wI σ1 (oS (E1 6)) 1 (pn : Int)) (oS (E1 6)) (uf C.1.1 (14 + p) y, C.1.2) := RSt.int ⟨hS1, hSf1, hSr1, hSm1⟩ hfi (by rw [hI_w, if_neg (by omega)]) hsf2 rfl hr6.1.2
    exact hQ E1 _ hs1 (h1.st (FrS.i hfi (by omega) (by omega)) hst2 (hw1.poi hp gy))
  refine ar_iload_n 1 rfl d_X5_poison_0 rfl ?_
  refine ar_callS0 (M' := mX5_isShelf) (As := [_]) (ls' := [Vi _]) 4 rfl d_X5_poison_1 ml_X5_61 mt_X5_isShelf rfl (Nat.le_of_ble_eq_true rfl) rfl (Nat.le_of_ble_eq_true rfl) (by omega) ?_
  refine sp_X5_isShelf hx (fun g1 => ?_) (fun g1 => ?_)
  · refine ar_if_ne 9 7 rfl rfl d_X5_poison_4 (by omega) (fun g4 => ?_) (fun h => absurd h (by decide))
    refine ar_iload_n 10 rfl d_X5_poison_9 rfl ?_
    refine ar_if_eq 21 13 rfl rfl d_X5_poison_10 (by omega) (fun g10 => ?_) (fun g10 => ?_)
    · exact h21 g1 (Or.inl g10)
    · refine ar_iload_n 14 rfl d_X5_poison_13 rfl ?_
      refine ar_iconst 15 rfl d_X5_poison_14 ?_
      refine ar_icmp_eq 21 18 rfl rfl d_X5_poison_15 (by omega) (by omega) (fun g15 => ?_) (fun g15 => ?_)
      · exact h21 g1 (Or.inr g15)
      · refine ar_bipush 20 rfl d_X5_poison_18 rfl ?_
        refine WA.ret (some (Vi _)) ⟨d_X5_poison_20, rfl, Or.inl rfl⟩ ?_
        unfold poiF at hQ
        rw [if_neg (fun h => h g1), if_pos (by omega)] at hQ
        exact hQ E σ rfl h
  · refine ar_if_ne 9 7 rfl rfl d_X5_poison_4 (by omega) (fun h => absurd h (by decide)) (fun g4 => ?_)
    refine ar_iconst 8 rfl d_X5_poison_7 ?_
    refine WA.ret (some (Vi _)) ⟨d_X5_poison_8, rfl, Or.inl rfl⟩ ?_
    unfold poiF at hQ
    rw [if_pos g1] at hQ
    exact hQ E σ rfl h
theorem RepC.pad {Φ : Sg} {E : Nat → Nat} {C : CS} {cs : List Int} {x : Int} (h : RepC Φ E C σ) (hx : x = (cs.length : Int)) (hl : cs.length ≤ 60) (hc : ∀ (j : Nat) (x : Int), cs[j]? = some x → hI σ 1 j = x ∧ 33 ≤ x ∧ x ≤ 126) : RepC Φ E (C.1, C.2.1, C.2.2.1, cs) (wI σ 0 1 x) := by
  obtain ⟨⟨a1, a2, a3, a4⟩, b, c, e, f, g, p⟩ := h
  have hk : Kp (fun b => b ≠ 0) σ (wI σ 0 1 x) := ⟨rfl, rfl, fun b hb => ⟨by funext i; rw [hI_w, if_neg (by omega)], rfl⟩⟩
  have hr6 := oS_r (b.1 6 (by omega))
  refine ⟨⟨a1.kp hk (fun _ _ => rfl) (by omega), a2.fr rfl (fun _ _ _ _ => rfl) (fun _ _ => rfl), a3.e rfl, a4⟩, b, ⟨fun i hi => ⟨(c.1 i hi).1.e rfl, (c.1 i hi).2.fr rfl⟩, c.2.1.e rfl, c.2.2.fr rfl⟩, ⟨e.1.kp hk (fun b hb => by omega) hr6.1.2 a4, e.2⟩, ⟨by rw [hI_w, if_neg (by omega)]; exact f.1, f.2.1, fun i S hS => ?_⟩, g.kp hk (fun b hb => by omega) a4, ⟨by rw [hI_w, if_pos ⟨rfl, rfl⟩]; exact hx, hl, fun j y hy => ?_⟩⟩
  · have hi : i < C.2.1.length := (List.getElem?_eq_some_iff.mp hS).1
    have := f.2.1
    have hri := oS_r (b.1 i (by omega))
    exact ⟨(f.2.2 i S hS).1.kp hk (fun b hb => by omega) hri.1.2 a4, (f.2.2 i S hS).2⟩
  · rw [hI_w, if_neg (by omega)]
    exact hc j y hy
theorem sp_X5_wipe {Φ : Sg} {E : Nat → Nat} {C : CS} (h : RepC Φ E C σ) (hQ : ∀ E' σ', sn σ' = sn σ → RepC Φ E' (wipF C).1 σ' → Q (some (Vi (wipF C).2)) σ') : WA G d k n mX5_wipe 0 [Va 0, Vu] [] σ Q := by
  have hk0 := h.1.1.1
  have hp := h.2.2.2.2.2.2.1
  refine ar_aload_n 1 rfl d_X5_wipe_0 rfl ?_
  refine ar_giv (y := (C.2.2.2.length : Int)) 4 rfl d_X5_wipe_1 fl_X5_100 rfl (by assumption) hp ?_
  refine ar_ist_1 5 rfl d_X5_wipe_4 rfl (by intro _ h; cases h) ?_
  refine ar_aload_n 6 rfl d_X5_wipe_5 rfl ?_
  refine ar_iconst 7 rfl d_X5_wipe_6 ?_
  refine ar_putI 10 rfl d_X5_wipe_7 fl_X5_100 rfl rfl (by assumption) ?_
  refine ar_iload_n 11 rfl d_X5_wipe_10 rfl ?_
  refine WA.ret (some (Vi _)) ⟨d_X5_wipe_11, rfl, Or.inl rfl⟩ ?_
  exact hQ E _ rfl (h.pad (cs := []) rfl (by decide) (fun j x hx => by simp at hx))
theorem RepC.rd {Φ : Sg} {E : Nat → Nat} {C : CS} {σ' : Sg} (h : RepC Φ E C σ) (hf : FrI 156 161 σ σ') : RepC Φ E C σ' := by
  have er : hR σ' = hR σ := by
    show σ'.2.1 = σ.2.1
    rw [hf.1]
  have ek : sk σ' = sk σ := by
    show σ'.2.2.1 = σ.2.2.1
    rw [hf.1]
  have en : sn σ' = sn σ := by
    show σ'.2.2.2 = σ.2.2.2
    rw [hf.1]
  have hr6 := oS_r (h.2.1.1 6 (by omega))
  have hk : Kp (fun b => b < 156 ∨ 161 ≤ b) σ σ' := ⟨ek, en, fun b hb => ⟨hf.2 b hb, by rw [er]⟩⟩
  exact h.upd ⟨ek, en, fun b hb => ⟨hf.2 b (by omega), by rw [er]⟩⟩ (h.1.2.1.fr ek (fun _ _ _ _ => by rw [er]) (fun _ _ => by rw [er])) (h.1.2.2.1.e hf.1) (h.2.2.2.1.1.kp hk (fun b hb => by omega) hr6.1.2 h.1.2.2.2) h.2.2.2.1.2 (h.2.2.1.2.1.e hf.1) (h.2.2.1.2.2.fr (by rw [er]))
theorem sp_X5_fault {Φ : Sg} {E : Nat → Nat} {C : CS} (h : RepC Φ E C σ) (hdp : 40 ≤ d) (hQ : ∀ σ', sn σ' = sn σ → RepC Φ E C σ' → Q (some (Vi (ffA C.2.2.2))) σ') : WA G d k n mX5_fault 0 [Va 0] [] σ Q := by
  have hk0 := h.1.1.1
  have hp := h.2.2.2.2.2.2.1
  have hr0 := h.1.1.2.2.2.2.2.1
  have hr9 := h.1.1.2.2.2.2.2.2.2.2.2.2.2.1
  have h156 := h.1.2.2.1.1
  refine ar_aload_n 1 rfl d_X5_fault_0 rfl ?_
  refine ar_getA 4 rfl d_X5_fault_1 fl_X5_44 rfl (by assumption) (by assumption) ?_
  refine ar_aload_n 5 rfl d_X5_fault_4 rfl ?_
  refine ar_getA 8 rfl d_X5_fault_5 fl_X5_9 rfl (by assumption) (by assumption) ?_
  refine ar_aload_n 9 rfl d_X5_fault_8 rfl ?_
  refine ar_giv (y := (C.2.2.2.length : Int)) 12 rfl d_X5_fault_9 fl_X5_100 rfl (by assumption) hp ?_
  refine ar_callV0 (M' := mX2_firstFault) (As := [_, _]) (ls' := [Va _, Vr _, Vi _, Vu]) 15 rfl d_X5_fault_12 ml_X5_105 mt_X2_firstFault h156 rfl (Nat.le_of_ble_eq_true rfl) rfl (Nat.le_of_ble_eq_true rfl) (by omega) ?_
  refine sp_X2_firstFault (cs := C.2.2.2) h.1.2.2.1 h.1.1.2.1 (by omega) (fun j x hx => ?_) h.2.2.2.2.2.2.2.1 (by omega) (fun σ1 hf1 _ => ?_)
  · have := h.2.2.2.2.2.2.2.2 j x hx
    exact ⟨this.1, by omega, by omega⟩
  refine WA.ret (some (Vi _)) ⟨d_X5_fault_15, rfl, Or.inl rfl⟩ ?_
  exact hQ _ (by show σ1.2.2.2 = _; rw [hf1.1]) (h.rd hf1)
set_option maxHeartbeats 4000000 in
theorem sp_X5_undo {Φ : Sg} {E : Nat → Nat} {C : CS} (h : RepC Φ E C σ) (hQ : ∀ E' σ', sn σ' = sn σ → RepC Φ E' (undF C).1 σ' → Q (some (Vi (undF C).2)) σ') : WA G d k n mX5_undo 0 [Va 0, Vu] [] σ Q := by
  have hh := h
  obtain ⟨⟨a1, a2, a3, a4⟩, b, c, e, f, g, p⟩ := h
  have hk0 := a1.1
  have h04 := f.1
  have hle := f.2.1
  rcases Nat.eq_zero_or_pos C.2.1.length with hl0 | hl0
  · have hnil : C.2.1 = [] := List.length_eq_zero_iff.mp hl0
    have h04 : hI σ 0 4 = 0 := by rw [h04, hl0]; rfl
    refine ar_aload_n 1 rfl d_X5_undo_0 rfl ?_
    refine ar_giv (y := 0) 4 rfl d_X5_undo_1 fl_X5_178 rfl (by assumption) h04 ?_
    refine ar_if_ne 10 7 rfl rfl d_X5_undo_4 (by omega) (fun h => absurd rfl h) (fun g4 => ?_)
    refine ar_bipush 9 rfl d_X5_undo_7 rfl ?_
    refine WA.ret (some (Vi _)) ⟨d_X5_undo_9, rfl, Or.inl rfl⟩ ?_
    have hu : undF C = (C, -5) := by
      unfold undF
      rw [hnil]
      rfl
    rw [hu] at hQ
    exact hQ E σ rfl hh
  · obtain ⟨q, hq⟩ : ∃ q, C.2.1.length = q + 1 := ⟨C.2.1.length - 1, by omega⟩
    have hk60 : sk σ 60 = (13, 6) := a1.2.2.1
    have hr3 : hR σ 0 3 = some 60 := a1.2.2.2.2.2.2.1
    have hbq := b.2.2.2 q (by omega)
    have hr2 : hR σ 0 2 = some (oS (E 6)) := b.2.2.1
    have hk6 := (c.1 _ (b.1 6 (by omega))).1.1
    have h04 : hI σ 0 4 = ((q + 1 : Nat) : Int) := by rw [h04, hq]
    refine ar_aload_n 1 rfl d_X5_undo_0 rfl ?_
    refine ar_giv (y := ((q + 1 : Nat) : Int)) 4 rfl d_X5_undo_1 fl_X5_178 rfl (by assumption) h04 ?_
    refine ar_if_ne 10 7 rfl rfl d_X5_undo_4 (by omega) (fun g4 => ?_) (fun h => by omega)
    refine ar_aload_n 11 rfl d_X5_undo_10 rfl ?_
    refine ar_dup 12 rfl d_X5_undo_11 (fun _ => rfl) ?_
    refine ar_giv (y := ((q + 1 : Nat) : Int)) 15 rfl d_X5_undo_12 fl_X5_178 rfl (by assumption) h04 ?_
    refine ar_iconst 16 rfl d_X5_undo_15 ?_
    refine ar_isub 17 rfl d_X5_undo_16 ?_
    refine ar_top (y := (q : Int)) (by omega) ?_
    refine ar_putI 20 rfl d_X5_undo_17 fl_X5_178 rfl rfl (by assumption) ?_
    refine ar_aload_n 21 rfl d_X5_undo_20 rfl ?_
    refine ar_getA 24 rfl d_X5_undo_21 fl_X5_20 rfl (by assumption) (by assumption) ?_
    refine ar_aload_n 25 rfl d_X5_undo_24 rfl ?_
    refine ar_giv (y := (q : Int)) 28 rfl d_X5_undo_25 fl_X5_178 rfl (by assumption) (by rw [hI_w, if_pos ⟨rfl, rfl⟩]) ?_
    refine ar_aalA 29 rfl d_X5_undo_28 (by assumption) (by omega) (by omega) hbq ?_
    refine ar_ast_1 30 rfl d_X5_undo_29 rfl (by intro _ h; cases h) ?_
    refine ar_aload_n 31 rfl d_X5_undo_30 rfl ?_
    refine ar_getA 34 rfl d_X5_undo_31 fl_X5_20 rfl (by assumption) (by assumption) ?_
    refine ar_aload_n 35 rfl d_X5_undo_34 rfl ?_
    refine ar_giv (y := (q : Int)) 38 rfl d_X5_undo_35 fl_X5_178 rfl (by assumption) (by rw [hI_w, if_pos ⟨rfl, rfl⟩]) ?_
    refine ar_aload_n 39 rfl d_X5_undo_38 rfl ?_
    refine ar_getA 42 rfl d_X5_undo_39 fl_X5_16 rfl (by assumption) (by assumption) ?_
    refine ar_aasN (kd := 13) q 43 rfl d_X5_undo_42 (by assumption) (by omega) (by omega) (by omega) hk6 ?_
    refine ar_aload_n 44 rfl d_X5_undo_43 rfl ?_
    refine ar_aload_n 45 rfl d_X5_undo_44 rfl ?_
    refine ar_putR 48 rfl d_X5_undo_45 fl_X5_16 (Or.inl ⟨_, rfl⟩) rfl (by assumption) ?_
    refine ar_aload_n 49 rfl d_X5_undo_48 rfl ?_
    refine ar_giv (y := (q : Int)) 52 rfl d_X5_undo_49 fl_X5_178 rfl (by assumption) (by rw [hIwR, hIwR, hI_w, if_pos ⟨rfl, rfl⟩]) ?_
    refine WA.ret (some (Vi _)) ⟨d_X5_undo_52, rfl, Or.inl rfl⟩ ?_
    have hS : C.2.1[q]? = some C.2.1[q] := List.getElem?_eq_getElem (by omega)
    have hu : undF C = ((C.2.1[q], C.2.1.dropLast, C.2.2), (q : Int)) := by
      unfold undF
      rw [List.getLast?_eq_getElem?, show C.2.1.length - 1 = q by omega, hS]
      simp only []
      rw [show (C.2.1.length : Int) - 1 = (q : Int) by omega]
    rw [hu] at hQ
    have hSq := f.2.2 q _ hS
    generalize C.2.1[q] = Sq at hS hSq hQ
    have hi' : ∀ b', b' ≠ 0 → hI (wR (wR (wI σ 0 4 (q : Int)) 60 q (some (oS (E 6)))) 0 2 (some (oS (E q)))) b' = hI σ b' := fun b' hb' => by
      funext j
      rw [hIwR, hIwR, hI_w, if_neg (by omega)]
    have hi0 : ∀ j, j ≠ 4 → hI (wR (wR (wI σ 0 4 (q : Int)) 60 q (some (oS (E 6)))) 0 2 (some (oS (E q)))) 0 j = hI σ 0 j := fun j hj => by
      rw [hIwR, hIwR, hI_w, if_neg (by omega)]
    have h044 : hI (wR (wR (wI σ 0 4 (q : Int)) 60 q (some (oS (E 6)))) 0 2 (some (oS (E q)))) 0 4 = (q : Int) := by rw [hIwR, hIwR, hI_w, if_pos ⟨rfl, rfl⟩]
    have hr' : ∀ b', b' ≠ 0 → b' ≠ 60 → hR (wR (wR (wI σ 0 4 (q : Int)) 60 q (some (oS (E 6)))) 0 2 (some (oS (E q)))) b' = hR σ b' := fun b' h1 h2 => by
      funext j
      rw [hR_w, if_neg (by omega), hR_w, if_neg (by omega)]
      rfl
    have hr0' : ∀ j, hR (wR (wR (wI σ 0 4 (q : Int)) 60 q (some (oS (E 6)))) 0 2 (some (oS (E q)))) 0 j = if j = 2 then some (oS (E q)) else hR σ 0 j := fun j => by
      rw [hR_w]
      by_cases e2 : j = 2
      · rw [if_pos ⟨rfl, e2⟩, if_pos e2]
      · rw [if_neg (by omega), if_neg e2, hR_w, if_neg (by omega)]
        rfl
    have hr60 : ∀ j, hR (wR (wR (wI σ 0 4 (q : Int)) 60 q (some (oS (E 6)))) 0 2 (some (oS (E q)))) 60 j = if j = q then some (oS (E 6)) else hR σ 60 j := fun j => by
      rw [hR_w, if_neg (by omega), hR_w]
      by_cases e2 : j = q
      · rw [if_pos ⟨rfl, e2⟩, if_pos e2]
      · rw [if_neg (by omega), if_neg e2]
        rfl
    have hkk : Kp (fun b' => b' ≠ 0 ∧ b' ≠ 60) σ (wR (wR (wI σ 0 4 (q : Int)) 60 q (some (oS (E 6)))) 0 2 (some (oS (E q)))) := ⟨rfl, rfl, fun b' hb' => ⟨hi' b' hb'.1, hr' b' hb'.1 hb'.2⟩⟩
    generalize wR (wR (wI σ 0 4 (q : Int)) 60 q (some (oS (E 6)))) 0 2 (some (oS (E q))) = σ9 at hi' hi0 h044 hr' hr0' hr60 hkk
    have hsk : sk σ9 = sk σ := hkk.1
    have hsw : ∀ i, i < 7 → (if i = 6 then E q else if i = q then E 6 else E i) = E (if i = 6 then q else if i = q then 6 else i) := fun i _ => by
      by_cases c1 : i = 6
      · rw [if_pos c1, if_pos c1]
      · by_cases c2 : i = q
        · rw [if_neg c1, if_neg c1, if_pos c2, if_pos c2]
        · rw [if_neg c1, if_neg c1, if_neg c2, if_neg c2]
    refine hQ (fun i => if i = 6 then E q else if i = q then E 6 else E i) σ9 hkk.2.1 ⟨⟨a1.kp hkk (fun j hj => by rw [hr0', if_neg hj]) (by omega), a2.fr hsk (fun a _ _ _ => hr' a (by omega) (by omega)) (fun j _ => by rw [hr' 121 (by omega) (by omega)]), ?_, by rw [hkk.2.1]; exact a4⟩, ⟨fun i hi => ?_, fun i j hi hj hij => ?_, ?_, fun i hi => ?_⟩, ⟨fun i hi => ?_, c.2.1.kp hkk (fun b' hb' => by omega), c.2.2.kp hkk (by omega)⟩, ⟨?_, hSq.2⟩, ⟨?_, ?_, fun i S hS2 => ?_⟩, g.kp hkk (fun b' hb' => by omega) a4, p.kp hkk (hi0 1 (by omega)) (by omega)⟩
    · obtain ⟨q1, q2, q3, q4, q5, q6, q7, q8, q9⟩ := a3
      refine ⟨?_, ?_, ?_, ?_, ?_, ?_, ?_, ?_, ?_⟩
      iterate 5 (rw [hsk]; assumption)
      iterate 4 (rw [hr' 156 (by omega) (by omega)]; assumption)
    · show (if i = 6 then E q else if i = q then E 6 else E i) < 7
      rw [hsw i hi]
      refine b.1 _ ?_
      split
      · omega
      · split <;> omega
    · have hij : (if i = 6 then E q else if i = q then E 6 else E i) = (if j = 6 then E q else if j = q then E 6 else E j) := hij
      rw [hsw i hi, hsw j hj] at hij
      have h9 := b.2.1 _ _ (by split <;> (try split) <;> omega) (by split <;> (try split) <;> omega) hij
      split at h9 <;> split at h9 <;> (try split at h9) <;> (try split at h9) <;> omega
    · show _ = some (oS (if 6 = 6 then E q else if 6 = q then E 6 else E 6))
      rw [hr0', if_pos rfl, if_pos rfl]
    · show _ = some (oS (if i = 6 then E q else if i = q then E 6 else E i))
      rw [hr60, if_neg (by omega : i ≠ 6)]
      by_cases c2 : i = q
      · rw [if_pos c2, if_pos c2]
      · rw [if_neg c2, if_neg c2]
        exact b.2.2.2 i hi
    · have hi2 := oS_r hi
      exact ⟨(c.1 i hi).1.kp hkk (fun b' hb' => by omega), (c.1 i hi).2.kp hkk (by omega)⟩
    · show RSt σ9 (oS (if 6 = 6 then E q else if 6 = q then E 6 else E 6)) Sq
      rw [if_pos rfl]
      have hi2 := oS_r (b.1 q (by omega))
      exact hSq.1.kp hkk (fun b' hb' => by omega) hi2.1.2 a4
    · show _ = ((C.2.1.dropLast.length : Nat) : Int)
      rw [h044, List.length_dropLast, hq]
      rfl
    · show C.2.1.dropLast.length ≤ 6
      rw [List.length_dropLast]
      omega
    · have hS2 : C.2.1.dropLast[i]? = some S := hS2
      have hi := (List.getElem?_eq_some_iff.mp hS2).1
      rw [List.length_dropLast] at hi
      have hS3 : C.2.1[i]? = some S := by
        rw [List.getElem?_dropLast, if_pos (by omega)] at hS2
        exact hS2
      show RSt σ9 (oS (if i = 6 then E q else if i = q then E 6 else E i)) S ∧ WFS S
      rw [if_neg (by omega), if_neg (by omega)]
      have h9 := f.2.2 i S hS3
      have hi2 := oS_r (b.1 i (by omega))
      exact ⟨h9.1.kp hkk (fun b' hb' => by omega) hi2.1.2 a4, h9.2⟩
end CALLS2
