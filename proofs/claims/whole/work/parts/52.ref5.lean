-- ===== the reference bakes =====
/-- how high the pile is ahead of each order -/
def HtC (c : Rcpe) (hs : Nat → Nat) : Prop := hs 0 = 0 ∧ hs c.length = 1 ∧ (∀ i, i ≤ c.length → hs i ≤ 38) ∧ ∀ i x, c[i]? = some x → (x.1 ≤ 1 → hs (i + 1) = hs i + 1) ∧ (2 ≤ x.1 → x.1 ≤ 4 → 2 ≤ hs i ∧ hs (i + 1) + 1 = hs i) ∧ (x.1 = 5 → 1 ≤ hs i ∧ hs (i + 1) + 1 = hs i ∧ i < x.2.toNat ∧ x.2.toNat ≤ c.length ∧ hs x.2.toNat + 1 = hs i) ∧ (x.1 = 6 → i < x.2.toNat ∧ x.2.toNat ≤ c.length ∧ hs x.2.toNat = hs i)
def HtS (S : SS) : Prop := ∀ l, l < 6 → S.2.2 l = [] ∨ ∃ hs, HtC (S.2.2 l) hs
theorem Bk.wa {σ : Sg} {l a : Nat} {bb nn : Int} {p : List Int} {dd : List (Int × Int)} (h : Bk σ l bb a p dd nn) (a' : Nat) : Bk (wI σ 643 l (a' : Int)) l bb a' p dd nn := by
  obtain ⟨h1, h2, h3, h4, h5, h6, h7, h8⟩ := h
  refine ⟨?_, ?_, ?_, ?_, fun j x hj => ?_, ?_, fun j x hj => ?_, ?_⟩
  · rw [hI_off (by omega)]; exact h1
  · rw [hI_off (by omega)]; exact h2
  · rw [hI_w, if_pos ⟨rfl, rfl⟩]
  · rw [hI_off (by omega)]; exact h4
  · rw [hI_off (by omega)]; exact h5 j x hj
  · rw [hI_off (by omega)]; exact h6
  · rw [hI_off (by omega), hI_off (by omega)]; exact h7 j x hj
  · rw [hI_off (by omega)]; exact h8
theorem Bk.wn {σ : Sg} {l a : Nat} {bb nn : Int} {p : List Int} {dd : List (Int × Int)} (h : Bk σ l bb a p dd nn) (n' : Int) : Bk (wI σ 649 l n') l bb a p dd n' := by
  obtain ⟨h1, h2, h3, h4, h5, h6, h7, h8⟩ := h
  refine ⟨?_, ?_, ?_, ?_, fun j x hj => ?_, ?_, fun j x hj => ?_, ?_⟩
  · rw [hI_off (by omega)]; exact h1
  · rw [hI_off (by omega)]; exact h2
  · rw [hI_off (by omega)]; exact h3
  · rw [hI_off (by omega)]; exact h4
  · rw [hI_off (by omega)]; exact h5 j x hj
  · rw [hI_off (by omega)]; exact h6
  · rw [hI_off (by omega), hI_off (by omega)]; exact h7 j x hj
  · rw [hI_w, if_pos ⟨rfl, rfl⟩]
theorem Bk.push {σ : Sg} {l a : Nat} {bb nn v : Int} {p : List Int} {dd : List (Int × Int)} (h : Bk σ l bb a p dd nn) : Bk (wI (wI σ 644 (40 * l + p.length) v) 645 l ((p.length + 1 : Nat) : Int)) l bb a (v :: p) dd nn := by
  obtain ⟨h1, h2, h3, h4, h5, h6, h7, h8⟩ := h
  refine ⟨?_, ?_, ?_, ?_, fun j x hj => ?_, ?_, fun j x hj => ?_, ?_⟩
  · rw [hI_off (by omega), hI_off (by omega)]; exact h1
  · rw [hI_off (by omega), hI_off (by omega)]; exact h2
  · rw [hI_off (by omega), hI_off (by omega)]; exact h3
  · rw [hI_w, if_pos ⟨rfl, rfl⟩]; rfl
  · rw [hI_off (by omega), hI_w]
    rw [List.reverse_cons] at hj
    by_cases e : j < p.length
    · rw [if_neg (by omega)]
      rw [List.getElem?_append_left (by rw [List.length_reverse]; exact e)] at hj
      exact h5 j x hj
    · have hi := (List.getElem?_eq_some_iff.mp hj).1
      simp only [List.length_append, List.length_reverse, List.length_cons, List.length_nil] at hi
      have e2 : j = p.length := by omega
      subst e2
      rw [List.getElem?_append_right (by rw [List.length_reverse]; omega), List.length_reverse, Nat.sub_self] at hj
      simp only [List.getElem?_cons_zero] at hj
      cases hj
      rw [if_pos ⟨rfl, rfl⟩]
  · rw [hI_off (by omega), hI_off (by omega)]; exact h6
  · rw [hI_off (by omega), hI_off (by omega), hI_off (by omega), hI_off (by omega)]; exact h7 j x hj
  · rw [hI_off (by omega), hI_off (by omega)]; exact h8
theorem Bk.pop {σ : Sg} {l a : Nat} {bb nn v : Int} {p : List Int} {dd : List (Int × Int)} (h : Bk σ l bb a (v :: p) dd nn) : hI σ 645 l = ((p.length + 1 : Nat) : Int) ∧ hI σ 644 (40 * l + p.length) = v ∧ Bk (wI σ 645 l (p.length : Int)) l bb a p dd nn := by
  obtain ⟨h1, h2, h3, h4, h5, h6, h7, h8⟩ := h
  refine ⟨h4, ?_, ?_, ?_, ?_, ?_, fun j x hj => ?_, ?_, fun j x hj => ?_, ?_⟩
  · refine h5 p.length v ?_
    rw [List.reverse_cons, List.getElem?_append_right (by rw [List.length_reverse]; omega), List.length_reverse, Nat.sub_self]
    rfl
  · rw [hI_off (by omega)]; exact h1
  · rw [hI_off (by omega)]; exact h2
  · rw [hI_off (by omega)]; exact h3
  · rw [hI_w, if_pos ⟨rfl, rfl⟩]
  · rw [hI_off (by omega)]
    have hi := (List.getElem?_eq_some_iff.mp hj).1
    refine h5 j x ?_
    rw [List.reverse_cons, List.getElem?_append_left hi]
    exact hj
  · rw [hI_off (by omega)]; exact h6
  · rw [hI_off (by omega), hI_off (by omega)]; exact h7 j x hj
  · rw [hI_off (by omega)]; exact h8
theorem Bk.look {σ : Sg} {l a : Nat} {bb nn : Int} {p : List Int} {dd : List (Int × Int)} (h : Bk σ l bb a p dd nn) (key v : Int) : Bk (wI (wI (wI σ 646 (17 * l + dd.length) key) 647 (17 * l + dd.length) v) 648 l ((dd.length + 1 : Nat) : Int)) l bb a p (dd ++ [(key, v)]) nn := by
  obtain ⟨h1, h2, h3, h4, h5, h6, h7, h8⟩ := h
  refine ⟨?_, ?_, ?_, ?_, fun j x hj => ?_, ?_, fun j x hj => ?_, ?_⟩
  · rw [hI_off (by omega), hI_off (by omega), hI_off (by omega)]; exact h1
  · rw [hI_off (by omega), hI_off (by omega), hI_off (by omega)]; exact h2
  · rw [hI_off (by omega), hI_off (by omega), hI_off (by omega)]; exact h3
  · rw [hI_off (by omega), hI_off (by omega), hI_off (by omega)]; exact h4
  · rw [hI_off (by omega), hI_off (by omega), hI_off (by omega)]; exact h5 j x hj
  · rw [hI_w, if_pos ⟨rfl, rfl⟩, List.length_append]; rfl
  · rw [hI_off (by omega), hI_off (by omega), hI_w, hI_off (by omega), hI_w]
    by_cases e : j < dd.length
    · rw [if_neg (by omega), if_neg (by omega), hI_off (by omega)]
      rw [List.getElem?_append_left e] at hj
      exact h7 j x hj
    · have hi := (List.getElem?_eq_some_iff.mp hj).1
      simp only [List.length_append, List.length_cons, List.length_nil] at hi
      have e2 : j = dd.length := by omega
      subst e2
      rw [List.getElem?_append_right (Nat.le_refl _), Nat.sub_self] at hj
      simp only [List.getElem?_cons_zero] at hj
      cases hj
      rw [if_pos ⟨rfl, rfl⟩, if_pos ⟨rfl, rfl⟩]
      exact ⟨rfl, rfl⟩
  · rw [hI_off (by omega), hI_off (by omega), hI_off (by omega)]; exact h8
theorem Rs.cons {g g' : Nat → Int} {S : SS} {M : Mem} {z : Int} (h : Rs g S) (hb : Bd S) (h1 : ∀ i, i < 814 → g' i = g i) (h2 : g' 814 = (S.2.1.length : Int) + 1) (h3 : g' 815 = z) (h4 : Rm g' 816 M) (h5 : ∀ i, 856 ≤ i → i < 856 + 40 * S.2.1.length → g' i = g (i - 40)) : Rs g' (uf S.1 815 z, M :: S.2.1, S.2.2) := by
  obtain ⟨a1, a2, a3, a4, a5, a6⟩ := h
  refine ⟨fun i hi => ?_, fun l hl => ⟨by rw [h1 _ (by omega)]; exact (a2 l hl).1, fun j x hx => ?_⟩, fun i hi hi2 => ?_, by rw [h2]; rfl, by rw [h3]; exact (uf_s S.1 815 z).symm, fun q M' hM' => ?_⟩
  · show g' i = uf S.1 815 z i
    rw [h1 i (by omega), uf_n (by omega)]
    exact a1 i hi
  · have hj := (List.getElem?_eq_some_iff.mp hx).1
    have h9 := hb.2.2 l hl
    have hj : j < (S.2.2 l).length := hj
    rw [h1 _ (by omega), h1 _ (by omega)]
    exact (a2 l hl).2 j x hx
  · show g' i = uf S.1 815 z i
    rw [h1 i (by omega), uf_n (by omega)]
    exact a3 i hi hi2
  · cases q with
    | zero =>
      have hM' : some M = some M' := hM'
      cases hM'
      exact h4
    | succ q =>
      have hM' : S.2.1[q]? = some M' := hM'
      have hq := (List.getElem?_eq_some_iff.mp hM').1
      refine (a6 q M' hM').mv (hb.2.1 M' (List.mem_of_getElem? hM')) (fun i hi => ?_)
      rw [h5 _ (by omega) (by omega)]
      exact congrArg g (by omega)
section REF5
variable {G : GT} {d k n : Nat} {σ : Sg} {Q : Option AV → Sg → Prop}
theorem sp_X6_push {l m : Nat} {v : Int} (hS : Sh6 σ) (hl : l < 6) (h1 : hI σ 645 l = (m : Int)) (hm : m < 40) (hQ : Q none (wI (wI σ 644 (40 * l + m) v) 645 l ((m + 1 : Nat) : Int))) : WA G d k n mX6_push 0 [Va 625, Vi (l : Int), Vi v] [] σ Q := by
  have k625 := hS.k625
  have r23 := hS.r23
  have k644 := hS.k644
  have r24 := hS.r24
  have k645 := hS.k645
  refine ar_aload_n 1 rfl d_X6_push_0 rfl ?_
  refine ar_getA 4 rfl d_X6_push_1 fl_X6_65 rfl (by assumption) (by assumption) ?_
  refine ar_bipush 6 rfl d_X6_push_4 rfl ?_
  refine ar_iload_n 7 rfl d_X6_push_6 rfl ?_
  refine ar_imul 8 rfl d_X6_push_7 ?_
  refine ar_aload_n 9 rfl d_X6_push_8 rfl ?_
  refine ar_getA 12 rfl d_X6_push_9 fl_X6_68 rfl (by assumption) (by assumption) ?_
  refine ar_iload_n 13 rfl d_X6_push_12 rfl ?_
  refine ar_ilv (y := (m : Int)) 14 rfl d_X6_push_13 (by assumption) (by omega) (by rw [Int.toNat_natCast]; exact h1) ?_
  refine ar_iadd 15 rfl d_X6_push_14 ?_
  refine ar_top (y := ((40 * l + m : Nat) : Int)) (by omega) ?_
  refine ar_iload_n 16 rfl d_X6_push_15 rfl ?_
  refine ar_iasN (40 * l + m) 17 rfl d_X6_push_16 (by assumption) (by omega) (by omega) ?_
  refine ar_aload_n 18 rfl d_X6_push_17 rfl ?_
  refine ar_getA 21 rfl d_X6_push_18 fl_X6_68 rfl (by assumption) (by assumption) ?_
  refine ar_iload_n 22 rfl d_X6_push_21 rfl ?_
  refine ar_dup2 23 rfl d_X6_push_22 (fun _ => ⟨rfl, rfl⟩) ?_
  refine ar_ilv (y := (m : Int)) 24 rfl d_X6_push_23 (by assumption) (by omega) (by rw [Int.toNat_natCast, hI_off (by omega)]; exact h1) ?_
  refine ar_iconst 25 rfl d_X6_push_24 ?_
  refine ar_iadd 26 rfl d_X6_push_25 ?_
  refine ar_top (y := ((m + 1 : Nat) : Int)) (by omega) ?_
  refine ar_iasN l 27 rfl d_X6_push_26 (by assumption) (by omega) (by omega) ?_
  refine WA.ret none ⟨d_X6_push_27, rfl, rfl⟩ ?_
  exact hQ
theorem sp_X6_pop {l m : Nat} {v : Int} (hS : Sh6 σ) (hl : l < 6) (h1 : hI σ 645 l = ((m + 1 : Nat) : Int)) (hm : m < 40) (hv : hI σ 644 (40 * l + m) = v) (hQ : Q (some (Vi v)) (wI σ 645 l (m : Int))) : WA G d k n mX6_pop 0 [Va 625, Vi (l : Int)] [] σ Q := by
  have k625 := hS.k625
  have r24 := hS.r24
  have k645 := hS.k645
  have r23 := hS.r23
  have k644 := hS.k644
  refine ar_aload_n 1 rfl d_X6_pop_0 rfl ?_
  refine ar_getA 4 rfl d_X6_pop_1 fl_X6_68 rfl (by assumption) (by assumption) ?_
  refine ar_iload_n 5 rfl d_X6_pop_4 rfl ?_
  refine ar_dup2 6 rfl d_X6_pop_5 (fun _ => ⟨rfl, rfl⟩) ?_
  refine ar_ilv (y := ((m + 1 : Nat) : Int)) 7 rfl d_X6_pop_6 (by assumption) (by omega) (by rw [Int.toNat_natCast]; exact h1) ?_
  refine ar_iconst 8 rfl d_X6_pop_7 ?_
  refine ar_isub 9 rfl d_X6_pop_8 ?_
  refine ar_top (y := (m : Int)) (by omega) ?_
  refine ar_iasN l 10 rfl d_X6_pop_9 (by assumption) (by omega) (by omega) ?_
  refine ar_aload_n 11 rfl d_X6_pop_10 rfl ?_
  refine ar_getA 14 rfl d_X6_pop_11 fl_X6_65 rfl (by assumption) (by assumption) ?_
  refine ar_bipush 16 rfl d_X6_pop_14 rfl ?_
  refine ar_iload_n 17 rfl d_X6_pop_16 rfl ?_
  refine ar_imul 18 rfl d_X6_pop_17 ?_
  refine ar_aload_n 19 rfl d_X6_pop_18 rfl ?_
  refine ar_getA 22 rfl d_X6_pop_19 fl_X6_68 rfl (by assumption) (by assumption) ?_
  refine ar_iload_n 23 rfl d_X6_pop_22 rfl ?_
  refine ar_ilv (y := (m : Int)) 24 rfl d_X6_pop_23 (by assumption) (by omega) (by rw [Int.toNat_natCast, hI_w, if_pos ⟨rfl, rfl⟩]) ?_
  refine ar_iadd 25 rfl d_X6_pop_24 ?_
  refine ar_top (y := ((40 * l + m : Nat) : Int)) (by omega) ?_
  refine ar_ilv (y := v) 26 rfl d_X6_pop_25 (by assumption) (by omega) (by rw [Int.toNat_natCast, hI_off (by omega)]; exact hv) ?_
  refine WA.ret (some (Vi _)) ⟨d_X6_pop_26, rfl, Or.inl rfl⟩ ?_
  exact hQ
theorem sp_X6_lookOf {l : Nat} {key : Int} {dd : List (Int × Int)} (hS : Sh6 σ) (hl : l < 6) (hk : i32 key) (h6 : hI σ 648 l = (dd.length : Int)) (h7 : ∀ i x, dd[i]? = some x → hI σ 646 (17 * l + i) = x.1 ∧ hI σ 647 (17 * l + i) = x.2) (hdl : dd.length ≤ 17) (hdk : ∀ x ∈ dd, i32 x.1) (hQ1 : ∀ x, dd.find? (fun x => x.1 == key) = some x → Q (some (Vi x.2)) σ) (hQ0 : dd.find? (fun x => x.1 == key) = none → Q (some (Vi (-6))) σ) : WA G d k n mX6_lookOf 0 [Va 625, Vi (l : Int), Vi key, Vu] [] σ Q := by
  have k625 := hS.k625
  have r27 := hS.r27
  have k648 := hS.k648
  have r25 := hS.r25
  have k646 := hS.k646
  have r26 := hS.r26
  have k647 := hS.k647
  have loop : ∀ r i : Nat, dd.length - i = r → i ≤ dd.length → (∀ (j : Nat) (y : Int × Int), j < i → dd[j]? = some y → y.1 ≠ key) → WA G d k n mX6_lookOf 2 [Va 625, Vi (l : Int), Vi key, Vi (i : Int)] [] σ Q := by
    intro r
    induction r using Nat.strongRecOn with
    | ind r ih =>
    intro i hr hi hj
    refine ar_iload_n 3 rfl d_X6_lookOf_2 rfl ?_
    refine ar_aload_n 4 rfl d_X6_lookOf_3 rfl ?_
    refine ar_getA 7 rfl d_X6_lookOf_4 fl_X6_77 rfl (by assumption) (by assumption) ?_
    refine ar_iload_n 8 rfl d_X6_lookOf_7 rfl ?_
    refine ar_ilv (y := (dd.length : Int)) 9 rfl d_X6_lookOf_8 (by assumption) (by omega) (by rw [Int.toNat_natCast]; exact h6) ?_
    refine ar_icmp_ge 45 12 rfl rfl d_X6_lookOf_9 (by omega) (by omega) (fun g9 => ?_) (fun g9 => ?_)
    · refine ar_bipush 47 rfl d_X6_lookOf_45 rfl ?_
      refine WA.ret (some (Vi _)) ⟨d_X6_lookOf_47, rfl, Or.inl rfl⟩ ?_
      refine hQ0 ?_
      rw [List.find?_eq_none]
      intro x hx
      obtain ⟨j, hj2⟩ := List.getElem?_of_mem hx
      have := hj j x (by have := (List.getElem?_eq_some_iff.mp hj2).1; omega) hj2
      simpa using this
    · have hlt : i < dd.length := by omega
      obtain ⟨x, hx⟩ : ∃ x, dd[i]? = some x := ⟨_, List.getElem?_eq_getElem hlt⟩
      have hx1 := h7 i x hx
      have hx2 := hdk x (List.mem_of_getElem? hx)
      refine ar_aload_n 13 rfl d_X6_lookOf_12 rfl ?_
      refine ar_getA 16 rfl d_X6_lookOf_13 fl_X6_71 rfl (by assumption) (by assumption) ?_
      refine ar_bipush 18 rfl d_X6_lookOf_16 rfl ?_
      refine ar_iload_n 19 rfl d_X6_lookOf_18 rfl ?_
      refine ar_imul 20 rfl d_X6_lookOf_19 ?_
      refine ar_iload_n 21 rfl d_X6_lookOf_20 rfl ?_
      refine ar_iadd 22 rfl d_X6_lookOf_21 ?_
      refine ar_top (y := ((17 * l + i : Nat) : Int)) (by omega) ?_
      refine ar_ilv (y := x.1) 23 rfl d_X6_lookOf_22 (by assumption) (by omega) (by rw [Int.toNat_natCast]; exact hx1.1) ?_
      refine ar_iload_n 24 rfl d_X6_lookOf_23 rfl ?_
      refine ar_icmp_ne 39 27 rfl rfl d_X6_lookOf_24 (by omega) (by omega) (fun g24 => ?_) (fun g24 => ?_)
      · refine ar_inc_3 (y := ((i + 1 : Nat) : Int)) 42 rfl d_X6_lookOf_39 rfl (by intro _ h; cases h) (by omega) ?_
        refine ar_goto 2 rfl d_X6_lookOf_42 ?_
        exact ih (dd.length - (i + 1)) (by omega) (i + 1) rfl (by omega) (fun j y hj2 hj3 => by
          by_cases e : j = i
          · subst e
            rw [hx] at hj3
            cases hj3
            exact g24
          · exact hj j y (by omega) hj3)
      · refine ar_aload_n 28 rfl d_X6_lookOf_27 rfl ?_
        refine ar_getA 31 rfl d_X6_lookOf_28 fl_X6_74 rfl (by assumption) (by assumption) ?_
        refine ar_bipush 33 rfl d_X6_lookOf_31 rfl ?_
        refine ar_iload_n 34 rfl d_X6_lookOf_33 rfl ?_
        refine ar_imul 35 rfl d_X6_lookOf_34 ?_
        refine ar_iload_n 36 rfl d_X6_lookOf_35 rfl ?_
        refine ar_iadd 37 rfl d_X6_lookOf_36 ?_
        refine ar_top (y := ((17 * l + i : Nat) : Int)) (by omega) ?_
        refine ar_ilv (y := x.2) 38 rfl d_X6_lookOf_37 (by assumption) (by omega) (by rw [Int.toNat_natCast]; exact hx1.2) ?_
        refine WA.ret (some (Vi _)) ⟨d_X6_lookOf_38, rfl, Or.inl rfl⟩ ?_
        exact hQ1 x (fkey hx g24 hj)
  refine ar_iconst 1 rfl d_X6_lookOf_0 ?_
  refine ar_ist_3 2 rfl d_X6_lookOf_1 rfl (by intro _ h; cases h) ?_
  exact loop _ 0 rfl (by omega) (fun j y h => absurd h (by omega))
theorem sp_X6_reckon {w x y : Int} (ho : w = 2 ∨ w = 3 ∨ w = 4) (hQ : Q (some (Vi (jn w x y))) σ) : WA G d k n mX6_reckon 0 [Vi (w + 1), Vi x, Vi y, Vu] [] σ Q := by
  unfold jn at hQ
  refine ar_iload_n 1 rfl d_X6_reckon_0 rfl ?_
  refine ar_iconst 2 rfl d_X6_reckon_1 ?_
  refine ar_icmp_ne 11 5 rfl rfl d_X6_reckon_2 (by omega) (by omega) (fun g2 => ?_) (fun g2 => ?_)
  · refine ar_iload_n 12 rfl d_X6_reckon_11 rfl ?_
    refine ar_iconst 13 rfl d_X6_reckon_12 ?_
    refine ar_icmp_ne 25 16 rfl rfl d_X6_reckon_13 (by omega) (by omega) (fun g13 => ?_) (fun g13 => ?_)
    · refine ar_iload_n 26 rfl d_X6_reckon_25 rfl ?_
      refine ar_iload_n 27 rfl d_X6_reckon_26 rfl ?_
      refine ar_imul 28 rfl d_X6_reckon_27 ?_
      refine ar_ist_3 29 rfl d_X6_reckon_28 rfl (by intro _ h; cases h) ?_
      refine ar_iload_n 30 rfl d_X6_reckon_29 rfl ?_
      refine ar_bipush 32 rfl d_X6_reckon_30 rfl ?_
      refine ar_irem 33 rfl d_X6_reckon_32 (by omega) ?_
      refine WA.ret (some (Vi _)) ⟨d_X6_reckon_33, rfl, Or.inl rfl⟩ ?_
      rw [if_neg (by omega), if_neg (by omega)] at hQ
      exact hQ
    · refine ar_iload_n 17 rfl d_X6_reckon_16 rfl ?_
      refine ar_iload_n 18 rfl d_X6_reckon_17 rfl ?_
      refine ar_isub 19 rfl d_X6_reckon_18 ?_
      refine ar_bipush 21 rfl d_X6_reckon_19 rfl ?_
      refine ar_iadd 22 rfl d_X6_reckon_21 ?_
      refine ar_goto 28 rfl d_X6_reckon_22 ?_
      refine ar_ist_3 29 rfl d_X6_reckon_28 rfl (by intro _ h; cases h) ?_
      refine ar_iload_n 30 rfl d_X6_reckon_29 rfl ?_
      refine ar_bipush 32 rfl d_X6_reckon_30 rfl ?_
      refine ar_irem 33 rfl d_X6_reckon_32 (by omega) ?_
      refine WA.ret (some (Vi _)) ⟨d_X6_reckon_33, rfl, Or.inl rfl⟩ ?_
      rw [if_neg (by omega), if_pos (by omega)] at hQ
      exact hQ
  · refine ar_iload_n 6 rfl d_X6_reckon_5 rfl ?_
    refine ar_iload_n 7 rfl d_X6_reckon_6 rfl ?_
    refine ar_iadd 8 rfl d_X6_reckon_7 ?_
    refine ar_goto 28 rfl d_X6_reckon_8 ?_
    refine ar_ist_3 29 rfl d_X6_reckon_28 rfl (by intro _ h; cases h) ?_
    refine ar_iload_n 30 rfl d_X6_reckon_29 rfl ?_
    refine ar_bipush 32 rfl d_X6_reckon_30 rfl ?_
    refine ar_irem 33 rfl d_X6_reckon_32 (by omega) ?_
    refine WA.ret (some (Vi _)) ⟨d_X6_reckon_33, rfl, Or.inl rfl⟩ ?_
    rw [if_pos (by omega)] at hQ
    exact hQ
set_option maxHeartbeats 8000000 in
theorem sp_X6_endBaking {a l : Nat} {S : SS} {v nn : Int} {dd : List (Int × Int)} (hS : Sh6 σ) (ha6 : a = 626 ∨ a = 627) (hr : Rs (hI σ a) S) (hw : WFS S) (hl : l < 6) (hv : i32 v) (h6 : hI σ 648 l = (dd.length : Int)) (h7 : ∀ i x, dd[i]? = some x → hI σ 646 (17 * l + i) = x.1 ∧ hI σ 647 (17 * l + i) = x.2) (h8 : hI σ 649 l = nn) (hdl : dd.length ≤ 17) (hdp : 2 ≤ d) (hQ : ∀ σ', σ'.2 = σ.2 → (∀ b, b ≠ a → b ≠ 625 → hI σ' b = hI σ b) → (∀ j, j ≠ 29 → hI σ' 625 j = hI σ 625 j) → hI σ' 625 29 = v → Rs (hI σ' a) (bakeS l S dd nn v) → Q none σ') : WA G d k n mX6_endBaking 0 [Va 625, Va a, Vi (l : Int), Vi v, Vu] [] σ Q := by
  have hb := hw.bd
  have hb1 := hb.1
  have ha : sk σ a = (10, 1496) := by
    rcases ha6 with e | e
    · rw [e]; exact hS.k626
    · rw [e]; exact hS.k627
  have k625 := hS.k625
  have r28 := hS.r28
  have k649 := hS.k649
  have r27 := hS.r27
  have k648 := hS.k648
  have r25 := hS.r25
  have k646 := hS.k646
  have r26 := hS.r26
  have k647 := hS.k647
  have hr0 : Rs (hI (wI σ 625 29 v) a) S := by rw [hI_off (by omega)]; exact hr
  have hr1 := hr0.upd (i := 800 + l) (v := S.1 (800 + l) + 1) hb.2.2 (by omega)
  rw [← hI_row] at hr1
  have hr2 := hr1.upd (i := 812) (v := S.1 812 + nn) hb.2.2 (by omega)
  rw [← hI_row] at hr2
  have e800 : hI (wI σ 625 29 v) a (800 + l) = S.1 (800 + l) := hr0.2.2.1 _ (by omega) (by omega)
  have e812 : hI (wI (wI σ 625 29 v) a (800 + l) (S.1 (800 + l) + 1)) a 812 = S.1 812 := by
    rw [hr1.2.2.1 812 (by omega) (by omega)]
    exact uf_n (by omega)
  have e1 : hI (wI (wI (wI σ 625 29 v) a (800 + l) (S.1 (800 + l) + 1)) a 812 (S.1 812 + nn)) a 1 = S.1 1 := by
    rw [hr2.1 1 (by omega)]
    show uf (uf S.1 (800 + l) (S.1 (800 + l) + 1)) 812 (S.1 812 + nn) 1 = S.1 1
    rw [uf_n (by omega), uf_n (by omega)]
  have hbs : bakeS l S dd nn v = if v ≠ 100 ∨ S.1 1 = 1 then (uf (uf (uf S.1 (800 + l) (S.1 (800 + l) + 1)) 812 (S.1 812 + nn)) 815 (S.1 815 + 1), keepL S.2.1 ((l : Int), v, nn, 0, 0, dd) (S.1 815 + 1) (S.1 0).toNat, S.2.2) else (uf (uf S.1 (800 + l) (S.1 (800 + l) + 1)) 812 (S.1 812 + nn), S.2.1, S.2.2) := rfl
  have hk01 := hw.2.1
  have hfo : ∀ b, b ≠ a → b ≠ 625 → hI (wI (wI (wI σ 625 29 v) a (800 + l) (S.1 (800 + l) + 1)) a 812 (S.1 812 + nn)) b = hI σ b := fun b h1 h2 => by rw [hI_off h1, hI_off h1, hI_off h2]
  have hf5 : ∀ j, j ≠ 29 → hI (wI (wI (wI σ 625 29 v) a (800 + l) (S.1 (800 + l) + 1)) a 812 (S.1 812 + nn)) 625 j = hI σ 625 j := fun j h1 => by rw [hI_off (by omega), hI_off (by omega), hI_w, if_neg (by omega)]
  have hf29 : hI (wI (wI (wI σ 625 29 v) a (800 + l) (S.1 (800 + l) + 1)) a 812 (S.1 812 + nn)) 625 29 = v := by rw [hI_off (by omega), hI_off (by omega), hI_w, if_pos ⟨rfl, rfl⟩]
  refine ar_aload_n 1 rfl d_X6_endBaking_0 rfl ?_
  refine ar_iload_n 2 rfl d_X6_endBaking_1 rfl ?_
  refine ar_putI 5 rfl d_X6_endBaking_2 fl_X6_163 rfl rfl (by assumption) ?_
  refine ar_aload_n 6 rfl d_X6_endBaking_5 rfl ?_
  refine ar_sipush 9 rfl d_X6_endBaking_6 rfl ?_
  refine ar_iload_n 10 rfl d_X6_endBaking_9 rfl ?_
  refine ar_iadd 11 rfl d_X6_endBaking_10 ?_
  refine ar_top (y := ((800 + l : Nat) : Int)) (by omega) ?_
  refine ar_dup2 12 rfl d_X6_endBaking_11 (fun _ => ⟨rfl, rfl⟩) ?_
  refine ar_ilv (y := (S.1 (800 + l))) 13 rfl d_X6_endBaking_12 (by assumption) (by omega) (by rw [Int.toNat_natCast]; exact e800) ?_
  refine ar_iconst 14 rfl d_X6_endBaking_13 ?_
  refine ar_iadd 15 rfl d_X6_endBaking_14 ?_
  refine ar_iasN (800 + l) 16 rfl d_X6_endBaking_15 (by assumption) (by omega) (by omega) ?_
  refine ar_aload_n 17 rfl d_X6_endBaking_16 rfl ?_
  refine ar_sipush 20 rfl d_X6_endBaking_17 rfl ?_
  refine ar_dup2 21 rfl d_X6_endBaking_20 (fun _ => ⟨rfl, rfl⟩) ?_
  refine ar_ilv (y := (S.1 812)) 22 rfl d_X6_endBaking_21 (by assumption) (by omega) e812 ?_
  refine ar_aload_n 23 rfl d_X6_endBaking_22 rfl ?_
  refine ar_getA 26 rfl d_X6_endBaking_23 fl_X6_80 rfl (by assumption) (by assumption) ?_
  refine ar_iload_n 27 rfl d_X6_endBaking_26 rfl ?_
  refine ar_ilv (y := nn) 28 rfl d_X6_endBaking_27 (by assumption) (by omega) (by rw [Int.toNat_natCast, hI_off (by omega), hI_off (by omega)]; exact h8) ?_
  refine ar_iadd 29 rfl d_X6_endBaking_28 ?_
  refine ar_iasN 812 30 rfl d_X6_endBaking_29 (by assumption) (by omega) (by omega) ?_
  rw [hbs] at hQ
  have hs2 : (wI (wI (wI σ 625 29 v) a (800 + l) (S.1 (800 + l) + 1)) a 812 (S.1 812 + nn)).2 = σ.2 := rfl
  have hS2 : Sh6 (wI (wI (wI σ 625 29 v) a (800 + l) (S.1 (800 + l) + 1)) a 812 (S.1 812 + nn)) := hS.e rfl
  generalize hσ2 : wI (wI (wI σ 625 29 v) a (800 + l) (S.1 (800 + l) + 1)) a 812 (S.1 812 + nn) = σ2 at hr2 hfo hf5 hf29 e1 hs2 hS2
  clear hσ2 hr1 hr0 e800 e812
  have h6 : hI σ2 648 l = (dd.length : Int) := by rw [hfo _ (by omega) (by omega)]; exact h6
  have h7 : ∀ i x, dd[i]? = some x → hI σ2 646 (17 * l + i) = x.1 ∧ hI σ2 647 (17 * l + i) = x.2 := fun i x hx => by rw [hfo _ (by omega) (by omega), hfo _ (by omega) (by omega)]; exact h7 i x hx
  have h8 : hI σ2 649 l = nn := by rw [hfo _ (by omega) (by omega)]; exact h8
  generalize hf3 : uf (uf S.1 (800 + l) (S.1 (800 + l) + 1)) 812 (S.1 812 + nn) = f3 at hr2 hQ
  have hr2 : Rs (hI σ2 a) (f3, S.2) := hr2
  have hf0 : f3 0 = S.1 0 := by rw [← hf3, uf_n (by omega), uf_n (by omega)]
  have hf815 : f3 815 = S.1 815 := by rw [← hf3, uf_n (by omega), uf_n (by omega)]
  have ha : sk σ2 a = (10, 1496) := by
    rcases ha6 with e | e
    · rw [e]; exact hS2.k626
    · rw [e]; exact hS2.k627
  have h43 : (v ≠ 100 ∨ S.1 1 = 1) → WA G d k n mX6_endBaking 43 [Va 625, Va a, Vi (l : Int), Vi v, Vu] [] σ2 Q := by
    intro hkeep
    rw [if_pos hkeep] at hQ
    have h814 := hr2.2.2.2.1
    have h815 : hI σ2 a 815 = S.1 815 := by rw [hr2.2.2.2.2.1]; exact hf815
    have k625 := hS2.k625
    have r28 := hS2.r28
    have k649 := hS2.k649
    have r27 := hS2.r27
    have k648 := hS2.k648
    have r25 := hS2.r25
    have k646 := hS2.k646
    have r26 := hS2.r26
    have k647 := hS2.k647
    have hH : ∀ j, hI (shH σ2 a S.2.1.length 815) a j = if 855 < j ∧ j < 856 + 40 * S.2.1.length then hI σ2 a (j - 40) else hI σ2 a j := fun j => by
      rw [hI_H]
      by_cases c1 : 855 < j ∧ j < 856 + 40 * S.2.1.length
      · rw [if_pos (by omega), if_pos c1]
      · rw [if_neg (by omega), if_neg c1]
    have hHo : ∀ b, b ≠ a → hI (shH σ2 a S.2.1.length 815) b = hI σ2 b := fun b h1 => by
      funext j
      rw [hI_H, if_neg (by omega)]
    refine ar_aload_n 44 rfl d_X6_endBaking_43 rfl ?_
    refine ar_aload_n 45 rfl d_X6_endBaking_44 rfl ?_
    refine ar_sipush 48 rfl d_X6_endBaking_45 rfl ?_
    refine ar_ilv (y := (S.2.1.length : Int)) 49 rfl d_X6_endBaking_48 (by assumption) (by omega) h814 ?_
    refine ar_callS0 (M' := mX6_shiftMemories) (As := [_, _]) (ls' := [Vr _, Vi _, Vu]) 52 rfl d_X6_endBaking_49 ml_X6_151 mt_X6_shiftMemories rfl (Nat.le_of_ble_eq_true rfl) rfl (Nat.le_of_ble_eq_true rfl) (by omega) ?_
    refine sp_X6_shiftMemories ha (by omega) (by omega) ?_
    have hsH : (shH σ2 a S.2.1.length 815).2 = σ2.2 := rfl
    generalize shH σ2 a S.2.1.length 815 = σ3 at hH hHo hsH
    have hS3 : Sh6 σ3 := hS2.e hsH
    have k625 := hS3.k625
    have r28 := hS3.r28
    have k649 := hS3.k649
    have r27 := hS3.r27
    have k648 := hS3.k648
    have r25 := hS3.r25
    have k646 := hS3.k646
    have r26 := hS3.r26
    have k647 := hS3.k647
    have ha3 : sk σ3 a = (10, 1496) := by
      rcases ha6 with e | e
      · rw [e]; exact hS3.k626
      · rw [e]; exact hS3.k627
    have h814 : hI σ3 a 814 = (S.2.1.length : Int) := by rw [hH, if_neg (by omega)]; exact h814
    have h815 : hI σ3 a 815 = S.1 815 := by rw [hH, if_neg (by omega)]; exact h815
    have h6 : hI σ3 648 l = (dd.length : Int) := by rw [hHo _ (by omega)]; exact h6
    have h7 : ∀ i x, dd[i]? = some x → hI σ3 646 (17 * l + i) = x.1 ∧ hI σ3 647 (17 * l + i) = x.2 := fun i x hx => by rw [hHo _ (by omega), hHo _ (by omega)]; exact h7 i x hx
    have h8 : hI σ3 649 l = nn := by rw [hHo _ (by omega)]; exact h8
    have loop : ∀ (r i : Nat) (σi : Sg), 17 - i = r → i ≤ 17 → σi.2 = σ3.2 → (∀ b, b ≠ a → hI σi b = hI σ3 b) → (∀ j, j < 822 ∨ 856 ≤ j → hI σi a j = (if j = 814 then (S.2.1.length : Int) + 1 else if j = 815 then S.1 815 + 1 else if j = 816 then S.1 815 else if j = 817 then (l : Int) else if j = 818 then v else if j = 819 then (dd.length : Int) else if j = 820 then nn else if j = 821 then 1 else hI σ3 a j)) → (∀ j x, j < i → dd[j]? = some x → hI σi a (822 + j) = x.1 ∧ hI σi a (839 + j) = x.2) → WA G d k n mX6_endBaking 123 [Va 625, Va a, Vi (l : Int), Vi v, Vi (i : Int)] [] σi Q := by
      intro r
      induction r using Nat.strongRecOn with
      | ind r ih =>
      intro i σi hr9 hi q1 q2 q3 q4
      have hSi := hS3.e q1
      have k625 := hSi.k625
      have r28 := hSi.r28
      have k649 := hSi.k649
      have r27 := hSi.r27
      have k648 := hSi.k648
      have r25 := hSi.r25
      have k646 := hSi.k646
      have r26 := hSi.r26
      have k647 := hSi.k647
      have hai : sk σi a = (10, 1496) := by
        rcases ha6 with e | e
        · rw [e]; exact hSi.k626
        · rw [e]; exact hSi.k627
      have h6i : hI σi 648 l = (dd.length : Int) := by rw [q2 _ (by omega)]; exact h6
      refine ar_iload 125 rfl d_X6_endBaking_123 rfl ?_
      refine ar_bipush 127 rfl d_X6_endBaking_125 rfl ?_
      refine ar_icmp_ge 206 130 rfl rfl d_X6_endBaking_127 (by omega) (by omega) (fun g127 => ?_) (fun g127 => ?_)
      · refine ar_aload_n 207 rfl d_X6_endBaking_206 rfl ?_
        refine ar_callS0 (M' := mX6_trim) (As := [_]) (ls' := [Vr _]) 210 rfl d_X6_endBaking_207 ml_X6_179 mt_X6_trim rfl (Nat.le_of_ble_eq_true rfl) rfl (Nat.le_of_ble_eq_true rfl) (by omega) ?_
        have hi17 : i = 17 := by omega
        subst hi17
        have hrc : Rs (hI σi a) (uf f3 815 (S.1 815 + 1), ((l : Int), v, nn, 0 + 1, S.1 815 + 1, dd) :: S.2.1, S.2.2) := by
          refine hr2.cons hb (fun j hj => ?_) ?_ ?_ ⟨?_, ?_, ?_, ?_, ?_, ?_, fun j x hx => ?_⟩ (fun j hj hj2 => ?_)
          · rw [q3 j (by omega), if_neg (by omega), if_neg (by omega), if_neg (by omega), if_neg (by omega), if_neg (by omega), if_neg (by omega), if_neg (by omega), if_neg (by omega), hH, if_neg (by omega)]
          · rw [q3 _ (by omega), if_pos rfl]
          · rw [q3 _ (by omega), if_neg (by omega), if_pos rfl]
          · rw [q3 _ (by omega), if_neg (by omega), if_neg (by omega), if_pos rfl]
            show S.1 815 = S.1 815 + 1 - 1
            omega
          · rw [q3 _ (by omega), if_neg (by omega), if_neg (by omega), if_neg (by omega), if_pos rfl]
          · rw [q3 _ (by omega), if_neg (by omega), if_neg (by omega), if_neg (by omega), if_neg (by omega), if_pos rfl]
          · rw [q3 _ (by omega), if_neg (by omega), if_neg (by omega), if_neg (by omega), if_neg (by omega), if_neg (by omega), if_pos rfl]
          · rw [q3 _ (by omega), if_neg (by omega), if_neg (by omega), if_neg (by omega), if_neg (by omega), if_neg (by omega), if_neg (by omega), if_pos rfl]
          · rw [q3 _ (by omega), if_neg (by omega), if_neg (by omega), if_neg (by omega), if_neg (by omega), if_neg (by omega), if_neg (by omega), if_neg (by omega), if_pos rfl]
            rfl
          · have hx : dd[j]? = some x := hx
            have hj := (List.getElem?_eq_some_iff.mp hx).1
            exact q4 j x (by omega) hx
          · have hj2 : j < 856 + 40 * S.2.1.length := hj2
            rw [q3 j (by omega), if_neg (by omega), if_neg (by omega), if_neg (by omega), if_neg (by omega), if_neg (by omega), if_neg (by omega), if_neg (by omega), if_neg (by omega), hH, if_pos (by omega)]
        have hroom := hw.1
        obtain ⟨rm, hrm⟩ : ∃ rm : Nat, S.1 0 = (rm : Int) := ⟨(S.1 0).toNat, by omega⟩
        refine sp_X6_trim (r := rm) hai hrc hb.2.2 ⟨by simp only [List.length_cons]; omega, fun M hM => ?_⟩ (((uf_n (by omega) : uf f3 815 (S.1 815 + 1) 0 = f3 0).trans hf0).trans hrm) (by omega) (fun σ9 hf9 hr9 => ?_)
        · rcases List.mem_cons.mp hM with e | e
          · rw [e]
            exact hdl
          · exact hb.2.1 M e
        refine WA.ret none ⟨d_X6_endBaking_210, rfl, rfl⟩ ?_
        refine hQ σ9 (hf9.1.trans (q1.trans (hsH.trans hs2))) (fun b h1 h2 => ?_) (fun j h1 => ?_) ?_ ?_
        · rw [hf9.2 b (by omega), q2 b h1, hHo b h1]
          exact hfo b h1 h2
        · rw [hf9.2 625 (by omega), q2 625 (by omega), hHo 625 (by omega)]
          exact hf5 j h1
        · rw [hf9.2 625 (by omega), q2 625 (by omega), hHo 625 (by omega)]
          exact hf29
        · unfold keepL
          rw [hrm, Int.toNat_natCast]
          exact hr9
      · refine ar_aload_n 131 rfl d_X6_endBaking_130 rfl ?_
        refine ar_sipush 134 rfl d_X6_endBaking_131 rfl ?_
        refine ar_iload 136 rfl d_X6_endBaking_134 rfl ?_
        refine ar_iadd 137 rfl d_X6_endBaking_136 ?_
        refine ar_top (y := ((822 + i : Nat) : Int)) (by omega) ?_
        refine ar_iload 139 rfl d_X6_endBaking_137 rfl ?_
        refine ar_aload_n 140 rfl d_X6_endBaking_139 rfl ?_
        refine ar_getA 143 rfl d_X6_endBaking_140 fl_X6_77 rfl (by assumption) (by assumption) ?_
        refine ar_iload_n 144 rfl d_X6_endBaking_143 rfl ?_
        refine ar_ilv (y := (dd.length : Int)) 145 rfl d_X6_endBaking_144 (by assumption) (by omega) (by rw [Int.toNat_natCast]; exact h6i) ?_
        refine ar_icmp_ge 163 148 rfl rfl d_X6_endBaking_145 (by omega) (by omega) (fun g145 => ?_) (fun g145 => ?_)
        · refine ar_iconst 164 rfl d_X6_endBaking_163 ?_
          refine ar_iasN (822 + i) 165 rfl d_X6_endBaking_164 (by assumption) (by omega) (by omega) ?_
          refine ar_aload_n 166 rfl d_X6_endBaking_165 rfl ?_
          refine ar_sipush 169 rfl d_X6_endBaking_166 rfl ?_
          refine ar_iload 171 rfl d_X6_endBaking_169 rfl ?_
          refine ar_iadd 172 rfl d_X6_endBaking_171 ?_
          refine ar_top (y := ((839 + i : Nat) : Int)) (by omega) ?_
          refine ar_iload 174 rfl d_X6_endBaking_172 rfl ?_
          refine ar_aload_n 175 rfl d_X6_endBaking_174 rfl ?_
          refine ar_getA 178 rfl d_X6_endBaking_175 fl_X6_77 rfl (by assumption) (by assumption) ?_
          refine ar_iload_n 179 rfl d_X6_endBaking_178 rfl ?_
          refine ar_ilv (y := (dd.length : Int)) 180 rfl d_X6_endBaking_179 (by assumption) (by omega) (by rw [Int.toNat_natCast, hI_off (by omega)]; exact h6i) ?_
          refine ar_icmp_ge 198 183 rfl rfl d_X6_endBaking_180 (by omega) (by omega) (fun g180 => ?_) (fun h => by omega)
          refine ar_iconst 199 rfl d_X6_endBaking_198 ?_
          refine ar_iasN (839 + i) 200 rfl d_X6_endBaking_199 (by assumption) (by omega) (by omega) ?_
          refine ar_inc_4 (y := ((i + 1 : Nat) : Int)) 203 rfl d_X6_endBaking_200 rfl (by intro _ h; cases h) (by omega) ?_
          refine ar_goto 123 rfl d_X6_endBaking_203 ?_
          refine ih (17 - (i + 1)) (by omega) (i + 1) _ rfl (by omega) q1 (fun b h1 => ?_) (fun j hj => ?_) (fun j x hj hx => ?_)
          · rw [hI_off h1, hI_off h1]
            exact q2 b h1
          · rw [hI_w, if_neg (by omega), hI_w, if_neg (by omega)]
            exact q3 j hj
          · have := (List.getElem?_eq_some_iff.mp hx).1
            rw [hI_w, if_neg (by omega), hI_w, if_neg (by omega), hI_w, if_neg (by omega), hI_w, if_neg (by omega)]
            exact q4 j x (by omega) hx
        · obtain ⟨x0, hx0⟩ : ∃ x, dd[i]? = some x := ⟨_, List.getElem?_eq_getElem (by omega)⟩
          have hxx := h7 i x0 hx0
          refine ar_aload_n 149 rfl d_X6_endBaking_148 rfl ?_
          refine ar_getA 152 rfl d_X6_endBaking_149 fl_X6_71 rfl (by assumption) (by assumption) ?_
          refine ar_bipush 154 rfl d_X6_endBaking_152 rfl ?_
          refine ar_iload_n 155 rfl d_X6_endBaking_154 rfl ?_
          refine ar_imul 156 rfl d_X6_endBaking_155 ?_
          refine ar_iload 158 rfl d_X6_endBaking_156 rfl ?_
          refine ar_iadd 159 rfl d_X6_endBaking_158 ?_
          refine ar_top (y := ((17 * l + i : Nat) : Int)) (by omega) ?_
          refine ar_ilv (y := x0.1) 160 rfl d_X6_endBaking_159 (by assumption) (by omega) (by rw [Int.toNat_natCast, q2 _ (by omega)]; exact hxx.1) ?_
          refine ar_goto 164 rfl d_X6_endBaking_160 ?_
          refine ar_iasN (822 + i) 165 rfl d_X6_endBaking_164 (by assumption) (by omega) (by omega) ?_
          refine ar_aload_n 166 rfl d_X6_endBaking_165 rfl ?_
          refine ar_sipush 169 rfl d_X6_endBaking_166 rfl ?_
          refine ar_iload 171 rfl d_X6_endBaking_169 rfl ?_
          refine ar_iadd 172 rfl d_X6_endBaking_171 ?_
          refine ar_top (y := ((839 + i : Nat) : Int)) (by omega) ?_
          refine ar_iload 174 rfl d_X6_endBaking_172 rfl ?_
          refine ar_aload_n 175 rfl d_X6_endBaking_174 rfl ?_
          refine ar_getA 178 rfl d_X6_endBaking_175 fl_X6_77 rfl (by assumption) (by assumption) ?_
          refine ar_iload_n 179 rfl d_X6_endBaking_178 rfl ?_
          refine ar_ilv (y := (dd.length : Int)) 180 rfl d_X6_endBaking_179 (by assumption) (by omega) (by rw [Int.toNat_natCast, hI_off (by omega)]; exact h6i) ?_
          refine ar_icmp_ge 198 183 rfl rfl d_X6_endBaking_180 (by omega) (by omega) (fun h => by omega) (fun g180 => ?_)
          refine ar_aload_n 184 rfl d_X6_endBaking_183 rfl ?_
          refine ar_getA 187 rfl d_X6_endBaking_184 fl_X6_74 rfl (by assumption) (by assumption) ?_
          refine ar_bipush 189 rfl d_X6_endBaking_187 rfl ?_
          refine ar_iload_n 190 rfl d_X6_endBaking_189 rfl ?_
          refine ar_imul 191 rfl d_X6_endBaking_190 ?_
          refine ar_iload 193 rfl d_X6_endBaking_191 rfl ?_
          refine ar_iadd 194 rfl d_X6_endBaking_193 ?_
          refine ar_top (y := ((17 * l + i : Nat) : Int)) (by omega) ?_
          refine ar_ilv (y := x0.2) 195 rfl d_X6_endBaking_194 (by assumption) (by omega) (by rw [Int.toNat_natCast, hI_off (by omega), q2 _ (by omega)]; exact hxx.2) ?_
          refine ar_goto 199 rfl d_X6_endBaking_195 ?_
          refine ar_iasN (839 + i) 200 rfl d_X6_endBaking_199 (by assumption) (by omega) (by omega) ?_
          refine ar_inc_4 (y := ((i + 1 : Nat) : Int)) 203 rfl d_X6_endBaking_200 rfl (by intro _ h; cases h) (by omega) ?_
          refine ar_goto 123 rfl d_X6_endBaking_203 ?_
          refine ih (17 - (i + 1)) (by omega) (i + 1) _ rfl (by omega) q1 (fun b h1 => ?_) (fun j hj => ?_) (fun j x hj hx => ?_)
          · rw [hI_off h1, hI_off h1]
            exact q2 b h1
          · rw [hI_w, if_neg (by omega), hI_w, if_neg (by omega)]
            exact q3 j hj
          · by_cases e : j = i
            · subst e
              rw [hx0] at hx
              cases hx
              rw [hI_w, if_neg (by omega), hI_w, if_pos ⟨rfl, rfl⟩, hI_w, if_pos ⟨rfl, rfl⟩]
              exact ⟨rfl, rfl⟩
            · have := (List.getElem?_eq_some_iff.mp hx).1
              rw [hI_w, if_neg (by omega), hI_w, if_neg (by omega), hI_w, if_neg (by omega), hI_w, if_neg (by omega)]
              exact q4 j x (by omega) hx
    refine ar_aload_n 53 rfl d_X6_endBaking_52 rfl ?_
    refine ar_sipush 56 rfl d_X6_endBaking_53 rfl ?_
    refine ar_dup2 57 rfl d_X6_endBaking_56 (fun _ => ⟨rfl, rfl⟩) ?_
    refine ar_ilv (y := (S.2.1.length : Int)) 58 rfl d_X6_endBaking_57 (by assumption) (by omega) h814 ?_
    refine ar_iconst 59 rfl d_X6_endBaking_58 ?_
    refine ar_iadd 60 rfl d_X6_endBaking_59 ?_
    refine ar_iasN 814 61 rfl d_X6_endBaking_60 (by assumption) (by omega) (by omega) ?_
    refine ar_aload_n 62 rfl d_X6_endBaking_61 rfl ?_
    refine ar_sipush 65 rfl d_X6_endBaking_62 rfl ?_
    refine ar_aload_n 66 rfl d_X6_endBaking_65 rfl ?_
    refine ar_sipush 69 rfl d_X6_endBaking_66 rfl ?_
    refine ar_ilv (y := (S.1 815)) 70 rfl d_X6_endBaking_69 (by assumption) (by omega) (by rw [hI_w, if_neg (fun h => absurd h.2 (by decide))]; exact h815) ?_
    refine ar_iasN 816 71 rfl d_X6_endBaking_70 (by assumption) (by omega) (by omega) ?_
    refine ar_aload_n 72 rfl d_X6_endBaking_71 rfl ?_
    refine ar_sipush 75 rfl d_X6_endBaking_72 rfl ?_
    refine ar_dup2 76 rfl d_X6_endBaking_75 (fun _ => ⟨rfl, rfl⟩) ?_
    refine ar_ilv (y := (S.1 815)) 77 rfl d_X6_endBaking_76 (by assumption) (by omega) (by rw [hI_w, if_neg (fun h => absurd h.2 (by decide)), hI_w, if_neg (fun h => absurd h.2 (by decide))]; exact h815) ?_
    refine ar_iconst 78 rfl d_X6_endBaking_77 ?_
    refine ar_iadd 79 rfl d_X6_endBaking_78 ?_
    refine ar_iasN 815 80 rfl d_X6_endBaking_79 (by assumption) (by omega) (by omega) ?_
    refine ar_aload_n 81 rfl d_X6_endBaking_80 rfl ?_
    refine ar_sipush 84 rfl d_X6_endBaking_81 rfl ?_
    refine ar_iload_n 85 rfl d_X6_endBaking_84 rfl ?_
    refine ar_iasN 817 86 rfl d_X6_endBaking_85 (by assumption) (by omega) (by omega) ?_
    refine ar_aload_n 87 rfl d_X6_endBaking_86 rfl ?_
    refine ar_sipush 90 rfl d_X6_endBaking_87 rfl ?_
    refine ar_iload_n 91 rfl d_X6_endBaking_90 rfl ?_
    refine ar_iasN 818 92 rfl d_X6_endBaking_91 (by assumption) (by omega) (by omega) ?_
    refine ar_aload_n 93 rfl d_X6_endBaking_92 rfl ?_
    refine ar_sipush 96 rfl d_X6_endBaking_93 rfl ?_
    refine ar_aload_n 97 rfl d_X6_endBaking_96 rfl ?_
    refine ar_getA 100 rfl d_X6_endBaking_97 fl_X6_77 rfl (by assumption) (by assumption) ?_
    refine ar_iload_n 101 rfl d_X6_endBaking_100 rfl ?_
    refine ar_ilv (y := (dd.length : Int)) 102 rfl d_X6_endBaking_101 (by assumption) (by omega) (by rw [Int.toNat_natCast, hI_off (by omega), hI_off (by omega), hI_off (by omega), hI_off (by omega), hI_off (by omega)]; exact h6) ?_
    refine ar_iasN 819 103 rfl d_X6_endBaking_102 (by assumption) (by omega) (by omega) ?_
    refine ar_aload_n 104 rfl d_X6_endBaking_103 rfl ?_
    refine ar_sipush 107 rfl d_X6_endBaking_104 rfl ?_
    refine ar_aload_n 108 rfl d_X6_endBaking_107 rfl ?_
    refine ar_getA 111 rfl d_X6_endBaking_108 fl_X6_80 rfl (by assumption) (by assumption) ?_
    refine ar_iload_n 112 rfl d_X6_endBaking_111 rfl ?_
    refine ar_ilv (y := nn) 113 rfl d_X6_endBaking_112 (by assumption) (by omega) (by rw [Int.toNat_natCast, hI_off (by omega), hI_off (by omega), hI_off (by omega), hI_off (by omega), hI_off (by omega), hI_off (by omega)]; exact h8) ?_
    refine ar_iasN 820 114 rfl d_X6_endBaking_113 (by assumption) (by omega) (by omega) ?_
    refine ar_aload_n 115 rfl d_X6_endBaking_114 rfl ?_
    refine ar_sipush 118 rfl d_X6_endBaking_115 rfl ?_
    refine ar_iconst 119 rfl d_X6_endBaking_118 ?_
    refine ar_iasN 821 120 rfl d_X6_endBaking_119 (by assumption) (by omega) (by omega) ?_
    refine ar_iconst 121 rfl d_X6_endBaking_120 ?_
    refine ar_ist_4 123 rfl d_X6_endBaking_121 rfl (by intro _ h; cases h) ?_
    refine loop 17 0 _ rfl (by omega) rfl (fun b h1 => ?_) (fun j hj => ?_) (fun j x hj _ => absurd hj (by omega))
    · rw [hI_off h1, hI_off h1, hI_off h1, hI_off h1, hI_off h1, hI_off h1, hI_off h1, hI_off h1]
    · rw [hI_w, hI_w, hI_w, hI_w, hI_w, hI_w, hI_w, hI_w]
      repeat' split
      all_goals first | rfl | omega
  refine ar_iload_n 31 rfl d_X6_endBaking_30 rfl ?_
  refine ar_bipush 33 rfl d_X6_endBaking_31 rfl ?_
  refine ar_icmp_ne 43 36 rfl rfl d_X6_endBaking_33 (by omega) (by omega) (fun g33 => ?_) (fun g33 => ?_)
  · exact h43 (Or.inl g33)
  · refine ar_aload_n 37 rfl d_X6_endBaking_36 rfl ?_
    refine ar_iconst 38 rfl d_X6_endBaking_37 ?_
    refine ar_ilv (y := (S.1 1)) 39 rfl d_X6_endBaking_38 (by assumption) (by omega) e1 ?_
    refine ar_if_ne 43 42 rfl rfl d_X6_endBaking_39 (by omega) (fun g39 => ?_) (fun g39 => ?_)
    · exact h43 (Or.inr (by omega))
    · refine WA.ret none ⟨d_X6_endBaking_42, rfl, rfl⟩ ?_
      rw [if_neg (by omega)] at hQ
      exact hQ σ2 hs2 hfo hf5 hf29 hr2
theorem sp_X6_take {a l a0 : Nat} {S : SS} {key v nn bb : Int} {p : List Int} {dd : List (Int × Int)} (hS : Sh6 σ) (ha6 : a = 626 ∨ a = 627) (hr : Rs (hI σ a) S) (hw : WFS S) (hl : l < 6) (hv : i32 v) (hB : Bk σ l bb a0 p dd nn) (hdl : dd.length ≤ 16) (hp : p.length < 40) (hdp : 3 ≤ d)
    (hQ1 : ∀ σ', v = 100 → FrW a l σ σ' → hI σ' 637 l = bb → hI σ' 625 29 = 100 → hI σ' 625 30 = hI σ 625 30 → Rs (hI σ' a) (bakeS l S (dd ++ [(key, v)]) nn 100) → Q none σ')
    (hQ2 : ∀ σ', v ≠ 100 → FrW a l σ σ' → hI σ' a = hI σ a → hI σ' 625 = hI σ 625 → Bk σ' l bb a0 (v :: p) (dd ++ [(key, v)]) nn → Q none σ') : WA G d k n mX6_take 0 [Va 625, Va a, Vi (l : Int), Vi key, Vi v] [] σ Q := by
  have hB2 := hB.look key v
  obtain ⟨h1, h2, h3, h4, h5, h6, h7, h8⟩ := hB
  have k625 := hS.k625
  have r25 := hS.r25
  have k646 := hS.k646
  have r27 := hS.r27
  have k648 := hS.k648
  have r26 := hS.r26
  have k647 := hS.k647
  refine ar_aload_n 1 rfl d_X6_take_0 rfl ?_
  refine ar_getA 4 rfl d_X6_take_1 fl_X6_71 rfl (by assumption) (by assumption) ?_
  refine ar_bipush 6 rfl d_X6_take_4 rfl ?_
  refine ar_iload_n 7 rfl d_X6_take_6 rfl ?_
  refine ar_imul 8 rfl d_X6_take_7 ?_
  refine ar_aload_n 9 rfl d_X6_take_8 rfl ?_
  refine ar_getA 12 rfl d_X6_take_9 fl_X6_77 rfl (by assumption) (by assumption) ?_
  refine ar_iload_n 13 rfl d_X6_take_12 rfl ?_
  refine ar_ilv (y := (dd.length : Int)) 14 rfl d_X6_take_13 (by assumption) (by omega) (by rw [Int.toNat_natCast]; exact h6) ?_
  refine ar_iadd 15 rfl d_X6_take_14 ?_
  refine ar_top (y := ((17 * l + dd.length : Nat) : Int)) (by omega) ?_
  refine ar_iload_n 16 rfl d_X6_take_15 rfl ?_
  refine ar_iasN (17 * l + dd.length) 17 rfl d_X6_take_16 (by assumption) (by omega) (by omega) ?_
  refine ar_aload_n 18 rfl d_X6_take_17 rfl ?_
  refine ar_getA 21 rfl d_X6_take_18 fl_X6_74 rfl (by assumption) (by assumption) ?_
  refine ar_bipush 23 rfl d_X6_take_21 rfl ?_
  refine ar_iload_n 24 rfl d_X6_take_23 rfl ?_
  refine ar_imul 25 rfl d_X6_take_24 ?_
  refine ar_aload_n 26 rfl d_X6_take_25 rfl ?_
  refine ar_getA 29 rfl d_X6_take_26 fl_X6_77 rfl (by assumption) (by assumption) ?_
  refine ar_iload_n 30 rfl d_X6_take_29 rfl ?_
  refine ar_ilv (y := (dd.length : Int)) 31 rfl d_X6_take_30 (by assumption) (by omega) (by rw [Int.toNat_natCast, hI_off (by omega)]; exact h6) ?_
  refine ar_iadd 32 rfl d_X6_take_31 ?_
  refine ar_top (y := ((17 * l + dd.length : Nat) : Int)) (by omega) ?_
  refine ar_iload 34 rfl d_X6_take_32 rfl ?_
  refine ar_iasN (17 * l + dd.length) 35 rfl d_X6_take_34 (by assumption) (by omega) (by omega) ?_
  refine ar_aload_n 36 rfl d_X6_take_35 rfl ?_
  refine ar_getA 39 rfl d_X6_take_36 fl_X6_77 rfl (by assumption) (by assumption) ?_
  refine ar_iload_n 40 rfl d_X6_take_39 rfl ?_
  refine ar_dup2 41 rfl d_X6_take_40 (fun _ => ⟨rfl, rfl⟩) ?_
  refine ar_ilv (y := (dd.length : Int)) 42 rfl d_X6_take_41 (by assumption) (by omega) (by rw [Int.toNat_natCast, hI_off (by omega), hI_off (by omega)]; exact h6) ?_
  refine ar_iconst 43 rfl d_X6_take_42 ?_
  refine ar_iadd 44 rfl d_X6_take_43 ?_
  refine ar_top (y := ((dd.length + 1 : Nat) : Int)) (by omega) ?_
  refine ar_iasN l 45 rfl d_X6_take_44 (by assumption) (by omega) (by omega) ?_
  have hS2 : Sh6 (wI (wI (wI σ 646 (17 * l + dd.length) key) 647 (17 * l + dd.length) v) 648 l ((dd.length + 1 : Nat) : Int)) := hS.e rfl
  have hF2 : FrW a l σ (wI (wI (wI σ 646 (17 * l + dd.length) key) 647 (17 * l + dd.length) v) 648 l ((dd.length + 1 : Nat) : Int)) := (FrW.wl (by omega) (by unfold str6; simp <;> omega)).tr ((FrW.wl (by omega) (by unfold str6; simp <;> omega)).tr (FrW.wl (by omega) (by unfold str6; simp <;> omega)))
  have hra : hI (wI (wI (wI σ 646 (17 * l + dd.length) key) 647 (17 * l + dd.length) v) 648 l ((dd.length + 1 : Nat) : Int)) a = hI σ a := by rw [hI_off (by omega), hI_off (by omega), hI_off (by omega)]
  have hr5 : hI (wI (wI (wI σ 646 (17 * l + dd.length) key) 647 (17 * l + dd.length) v) 648 l ((dd.length + 1 : Nat) : Int)) 625 = hI σ 625 := by rw [hI_off (by omega), hI_off (by omega), hI_off (by omega)]
  generalize wI (wI (wI σ 646 (17 * l + dd.length) key) 647 (17 * l + dd.length) v) 648 l ((dd.length + 1 : Nat) : Int) = σ2 at hS2 hF2 hra hr5 hB2
  have hr2 : Rs (hI σ2 a) S := by rw [hra]; exact hr
  obtain ⟨q1, q2, q3, q4, q5, q6, q7, q8⟩ := hB2
  have k625 := hS2.k625
  have r25 := hS2.r25
  have k646 := hS2.k646
  have r27 := hS2.r27
  have k648 := hS2.k648
  have r26 := hS2.r26
  have k647 := hS2.k647
  refine ar_iload 47 rfl d_X6_take_45 rfl ?_
  refine ar_bipush 49 rfl d_X6_take_47 rfl ?_
  refine ar_icmp_ne 63 52 rfl rfl d_X6_take_49 (by omega) (by omega) (fun g49 => ?_) (fun g49 => ?_)
  · refine ar_aload_n 64 rfl d_X6_take_63 rfl ?_
    refine ar_iload_n 65 rfl d_X6_take_64 rfl ?_
    refine ar_iload 67 rfl d_X6_take_65 rfl ?_
    refine ar_callV0 (M' := mX6_push) (As := [_, _]) (ls' := [Va _, Vi _, Vi _]) 70 rfl d_X6_take_67 ml_X6_186 mt_X6_push (by assumption) rfl (Nat.le_of_ble_eq_true rfl) rfl (Nat.le_of_ble_eq_true rfl) (by omega) ?_
    refine sp_X6_push hS2 hl q4 (by omega) ?_
    refine WA.ret none ⟨d_X6_take_70, rfl, rfl⟩ ?_
    refine hQ2 _ g49 (hF2.tr ((FrW.wl (by omega) (by unfold str6; simp <;> omega)).tr (FrW.wl (by omega) (by unfold str6; simp <;> omega)))) ?_ ?_ (Bk.push ⟨q1, q2, q3, q4, q5, q6, q7, q8⟩)
    · rw [hI_off (by omega), hI_off (by omega)]
      exact hra
    · rw [hI_off (by omega), hI_off (by omega)]
      exact hr5
  · refine ar_aload_n 53 rfl d_X6_take_52 rfl ?_
    refine ar_aload_n 54 rfl d_X6_take_53 rfl ?_
    refine ar_iload_n 55 rfl d_X6_take_54 rfl ?_
    refine ar_bipush 57 rfl d_X6_take_55 rfl ?_
    refine ar_callV0 (M' := mX6_endBaking) (As := [_, _, _]) (ls' := [Va _, Vr _, Vi _, Vi _, Vu]) 60 rfl d_X6_take_57 ml_X6_183 mt_X6_endBaking (by assumption) rfl (Nat.le_of_ble_eq_true rfl) rfl (Nat.le_of_ble_eq_true rfl) (by omega) ?_
    refine sp_X6_endBaking hS2 ha6 hr2 hw hl (by constructor <;> omega) q6 q7 q8 (by simp only [List.length_append, List.length_cons, List.length_nil]; omega) (by omega) (fun σ3 e1 e2 e3 e4 e5 => ?_)
    refine ar_goto 70 rfl d_X6_take_60 ?_
    refine WA.ret none ⟨d_X6_take_70, rfl, rfl⟩ ?_
    refine hQ1 σ3 g49 (hF2.tr ⟨e1, fun b a1 a2 a3 a4 => e2 b a1 a2, fun j a1 a2 => e3 j a1, fun b i a1 a2 a3 => by rw [e2 b (by omega) (by omega)]⟩) ?_ e4 ?_ e5
    · rw [e2 637 (by omega) (by omega)]
      exact q1
    · rw [e3 30 (by omega), hr5]
end REF5
