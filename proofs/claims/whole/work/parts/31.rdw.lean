-- ===== reading a recipe, walked =====
def RW (σ : Sg) (W : List (Int × Nat)) : Prop := hI σ 156 9 = (W.length : Int) ∧ ∀ i x, W.reverse[i]? = some x → hI σ 159 i = x.1 ∧ ((x.1 = 12 ∨ x.1 = 13) → hI σ 160 i = (x.2 : Int))
def RRA (σ : Sg) (st : RA) : Prop := RRd σ st.1 ∧ hI σ 156 6 = (st.2.1 : Int) ∧ RW σ st.2.2
def PO (r : Option RA) (σ : Sg) (Q : Option AV → Sg → Prop) : Prop := (∀ σ' st', r = some st' → FrI 156 161 σ σ' → RRA σ' st' → Q (some (Vi 1)) σ') ∧ (∀ σ', r = none → FrI 156 161 σ σ' → Q (some (Vi 0)) σ')
theorem PO.no {r : Option RA} {σ : Sg} {Q : Option AV → Sg → Prop} (h : PO r σ Q) (e : r = none) : Q (some (Vi 0)) σ := h.2 σ e FrI.rf
theorem RRd.add {σ σ' : Sg} {c : Rcpe} {o v : Int} (h : RRd σ c) (e2 : hI σ' 156 2 = ((c.length + 1 : Nat) : Int)) (e3 : hI σ' 156 3 = cParts c + (if o = 6 then 0 else 1)) (e4 : hI σ' 156 4 = ((cSh c ||| (if o = 0 ∧ v < 20 then 2 ^ v.toNat else 0) : Nat) : Int)) (e5 : hI σ' 156 5 = ((cLo c ||| (if o = 0 ∧ 20 ≤ v then 2 ^ (v - 20).toNat else 0) : Nat) : Int)) (e6 : ∀ i, hI σ' 157 i = if i = c.length then o else hI σ 157 i) (e7 : ∀ i, hI σ' 158 i = if i = c.length then v else hI σ 158 i) : RRd σ' (c ++ [(o, v)]) := by
  refine ⟨by rw [e2]; simp, by rw [e3, cParts_app], by rw [e4, cSh_app], by rw [e5, cLo_app], fun i x hx => ?_⟩
  rw [e6, e7]
  by_cases e : i = c.length
  · rw [if_pos e, if_pos e]
    rw [e, app_last] at hx
    cases hx
    exact ⟨rfl, rfl⟩
  · rw [if_neg e, if_neg e]
    have hi := (List.getElem?_eq_some_iff.mp hx).1
    simp only [List.length_append, List.length_cons, List.length_nil] at hi
    rw [List.getElem?_append_left (by omega)] at hx
    exact h.2.2.2.2 i x hx
theorem RRd.set {σ σ' : Sg} {c : Rcpe} {k : Nat} {x : Int × Int} {v : Int} (h : RRd σ c) (hk : c[k]? = some x) (hx : x.1 ≠ 0) (e2 : ∀ j, 2 ≤ j → j < 6 → hI σ' 156 j = hI σ 156 j) (e6 : hI σ' 157 = hI σ 157) (e7 : ∀ i, hI σ' 158 i = if i = k then v else hI σ 158 i) : RRd σ' (setO c k v) := by
  have h1 := setO_cnt c k v x hk hx
  refine ⟨by rw [e2 2 (by omega) (by omega), setO_len]; exact h.1, by rw [e2 3 (by omega) (by omega), h1.1]; exact h.2.1, by rw [e2 4 (by omega) (by omega), h1.2.1]; exact h.2.2.1, by rw [e2 5 (by omega) (by omega), h1.2.2]; exact h.2.2.2.1, fun i y hy => ?_⟩
  rw [setO_at] at hy
  cases hz : c[i]? with
  | none =>
    rw [hz] at hy
    cases hy
  | some z =>
    rw [hz, Option.map_some] at hy
    have hy := Option.some.inj hy
    have hcz := h.2.2.2.2 i z hz
    rw [e6, e7]
    by_cases e : i = k
    · rw [if_pos e] at hy ⊢
      rw [← hy]
      exact ⟨hcz.1, rfl⟩
    · rw [if_neg e] at hy ⊢
      rw [← hy]
      exact hcz
theorem RRd.e {σ σ' : Sg} {c : Rcpe} (h : RRd σ c) (e2 : ∀ j, 2 ≤ j → j < 6 → hI σ' 156 j = hI σ 156 j) (e6 : hI σ' 157 = hI σ 157) (e7 : hI σ' 158 = hI σ 158) : RRd σ' c := by
  refine ⟨by rw [e2 2 (by omega) (by omega)]; exact h.1, by rw [e2 3 (by omega) (by omega)]; exact h.2.1, by rw [e2 4 (by omega) (by omega)]; exact h.2.2.1, by rw [e2 5 (by omega) (by omega)]; exact h.2.2.2.1, fun i y hy => ?_⟩
  rw [e6, e7]
  exact h.2.2.2.2 i y hy
theorem RW.push {σ σ' : Sg} {W : List (Int × Nat)} {w : Int} {e : Nat} (h : RW σ W) (e9 : hI σ' 156 9 = ((W.length + 1 : Nat) : Int)) (e1 : ∀ i, hI σ' 159 i = if i = W.length then w else hI σ 159 i) (e2 : ∀ i, i ≠ W.length → hI σ' 160 i = hI σ 160 i) (e3 : (w = 12 ∨ w = 13) → hI σ' 160 W.length = (e : Int)) : RW σ' ((w, e) :: W) := by
  refine ⟨by rw [e9]; simp, fun i x hx => ?_⟩
  rw [List.reverse_cons] at hx
  by_cases hi : i = W.length
  · rw [hi, show W.length = W.reverse.length by simp, List.getElem?_append_right (Nat.le_refl _), Nat.sub_self] at hx
    simp only [List.getElem?_cons_zero] at hx
    cases hx
    rw [e1, if_pos hi, hi]
    exact ⟨rfl, e3⟩
  · have hl := (List.getElem?_eq_some_iff.mp hx).1
    simp only [List.length_append, List.length_reverse, List.length_cons, List.length_nil] at hl
    rw [List.getElem?_append_left (by rw [List.length_reverse]; omega)] at hx
    rw [e1, if_neg hi, e2 i hi]
    exact h.2 i x hx
theorem RW.top {σ : Sg} {T : List (Int × Nat)} {x : Int × Nat} (h : RW σ (x :: T)) : hI σ 159 T.length = x.1 ∧ ((x.1 = 12 ∨ x.1 = 13) → hI σ 160 T.length = (x.2 : Int)) := by
  refine h.2 T.length x ?_
  rw [List.reverse_cons, show T.length = T.reverse.length by simp, List.getElem?_append_right (Nat.le_refl _), Nat.sub_self]
  rfl
theorem RW.rep {σ σ' : Sg} {T : List (Int × Nat)} {x : Int × Nat} {w : Int} {e : Nat} (h : RW σ (x :: T)) (e9 : hI σ' 156 9 = ((T.length + 1 : Nat) : Int)) (e1 : ∀ i, hI σ' 159 i = if i = T.length then w else hI σ 159 i) (e2 : ∀ i, i ≠ T.length → hI σ' 160 i = hI σ 160 i) (e3 : (w = 12 ∨ w = 13) → hI σ' 160 T.length = (e : Int)) : RW σ' ((w, e) :: T) := by
  refine ⟨by rw [e9]; simp, fun i y hy => ?_⟩
  rw [List.reverse_cons] at hy
  by_cases hi : i = T.length
  · rw [hi, show T.length = T.reverse.length by simp, List.getElem?_append_right (Nat.le_refl _), Nat.sub_self] at hy
    simp only [List.getElem?_cons_zero] at hy
    cases hy
    rw [e1, if_pos hi, hi]
    exact ⟨rfl, e3⟩
  · have hl := (List.getElem?_eq_some_iff.mp hy).1
    simp only [List.length_append, List.length_reverse, List.length_cons, List.length_nil] at hl
    rw [List.getElem?_append_left (by rw [List.length_reverse]; omega)] at hy
    rw [e1, if_neg hi, e2 i hi]
    refine h.2 i y ?_
    rw [List.reverse_cons, List.getElem?_append_left (by rw [List.length_reverse]; omega)]
    exact hy
theorem RW.pop {σ σ' : Sg} {T : List (Int × Nat)} {x : Int × Nat} (h : RW σ (x :: T)) (e9 : hI σ' 156 9 = (T.length : Int)) (e1 : hI σ' 159 = hI σ 159) (e2 : hI σ' 160 = hI σ 160) : RW σ' T := by
  refine ⟨e9, fun i y hy => ?_⟩
  have hl := (List.getElem?_eq_some_iff.mp hy).1
  rw [e1, e2]
  refine h.2 i y ?_
  rw [List.reverse_cons, List.getElem?_append_left hl]
  exact hy
theorem RW.e {σ σ' : Sg} {W : List (Int × Nat)} (h : RW σ W) (e9 : hI σ' 156 9 = hI σ 156 9) (e1 : hI σ' 159 = hI σ 159) (e2 : hI σ' 160 = hI σ 160) : RW σ' W := ⟨by rw [e9]; exact h.1, fun i y hy => by rw [e1, e2]; exact h.2 i y hy⟩
theorem ShR.e {σ σ' : Sg} (h : ShR σ) (e : σ'.2 = σ.2) : ShR σ' := by
  have er : hR σ' = hR σ := by
    show σ'.2.1 = σ.2.1
    rw [e]
  have ek : sk σ' = sk σ := by
    show σ'.2.2.1 = σ.2.2.1
    rw [e]
  unfold ShR
  rw [er, ek]
  exact h
section READ
variable {G : GT} {d k n : Nat} {σ : Sg} {Q : Option AV → Sg → Prop}
theorem sp_X2_isDigit {x : Int} (hx : i32 x) (hq1 : 48 ≤ x ∧ x ≤ 57 → Q (some (Vi 1)) σ) (hq0 : ¬ (48 ≤ x ∧ x ≤ 57) → Q (some (Vi 0)) σ) : WA G d k n mX2_isDigit 0 [Vi x] [] σ Q := by
  refine ar_iload_n 1 rfl d_X2_isDigit_0 rfl ?_
  refine ar_bipush 3 rfl d_X2_isDigit_1 rfl ?_
  refine ar_icmp_lt 16 6 rfl rfl d_X2_isDigit_3 (by omega) (by omega) (fun g3 => ?_) (fun g3 => ?_)
  · refine ar_iconst 17 rfl d_X2_isDigit_16 ?_
    refine WA.ret (some (Vi _)) ⟨d_X2_isDigit_17, rfl, Or.inr ⟨rfl, Or.inl rfl⟩⟩ ?_
    exact hq0 (by omega)
  · refine ar_iload_n 7 rfl d_X2_isDigit_6 rfl ?_
    refine ar_bipush 9 rfl d_X2_isDigit_7 rfl ?_
    refine ar_icmp_gt 16 12 rfl rfl d_X2_isDigit_9 (by omega) (by omega) (fun g9 => ?_) (fun g9 => ?_)
    · refine ar_iconst 17 rfl d_X2_isDigit_16 ?_
      refine WA.ret (some (Vi _)) ⟨d_X2_isDigit_17, rfl, Or.inr ⟨rfl, Or.inl rfl⟩⟩ ?_
      exact hq0 (by omega)
    · refine ar_iconst 13 rfl d_X2_isDigit_12 ?_
      refine ar_goto 17 rfl d_X2_isDigit_13 ?_
      refine WA.ret (some (Vi _)) ⟨d_X2_isDigit_17, rfl, Or.inr ⟨rfl, (by omega)⟩⟩ ?_
      exact hq1 (by omega)
theorem sp_X2_adds {m : Nat} {o v : Int} (hS : ShR σ) (h2 : hI σ 156 2 = (m : Int)) (hm : m < 60) (hQ : Q (some (Vi 1)) (wI (wI (wI σ 157 m o) 158 m v) 156 2 ((m + 1 : Nat) : Int))) : WA G d k n mX2_adds 0 [Va 156, Vi o, Vi v] [] σ Q := by
  have hk := hS.1
  have hk0 : sk σ 157 = (10, 60) := hS.2.1
  have hk1 : sk σ 158 = (10, 60) := hS.2.2.1
  have hk7 : sk σ 159 = (10, 60) := hS.2.2.2.1
  have hk8 : sk σ 160 = (10, 60) := hS.2.2.2.2.1
  have hr0 : hR σ 156 0 = some 157 := hS.2.2.2.2.2.1
  have hr1 : hR σ 156 1 = some 158 := hS.2.2.2.2.2.2.1
  have hr7 : hR σ 156 7 = some 159 := hS.2.2.2.2.2.2.2.1
  have hr8 : hR σ 156 8 = some 160 := hS.2.2.2.2.2.2.2.2
  refine ar_aload_n 1 rfl d_X2_adds_0 rfl ?_
  refine ar_giv (y := (m : Int)) 4 rfl d_X2_adds_1 fl_X2_43 rfl (by assumption) h2 ?_
  refine ar_aload_n 5 rfl d_X2_adds_4 rfl ?_
  refine ar_getA 8 rfl d_X2_adds_5 fl_X2_9 rfl (by assumption) (by assumption) ?_
  refine ar_alen 9 rfl d_X2_adds_8 (by assumption) (by omega) ?_
  refine ar_icmp_lt 14 12 rfl rfl d_X2_adds_9 (by omega) (by omega) (fun g9 => ?_) (fun h => by omega)
  refine ar_aload_n 15 rfl d_X2_adds_14 rfl ?_
  refine ar_getA 18 rfl d_X2_adds_15 fl_X2_9 rfl (by assumption) (by assumption) ?_
  refine ar_aload_n 19 rfl d_X2_adds_18 rfl ?_
  refine ar_giv (y := (m : Int)) 22 rfl d_X2_adds_19 fl_X2_43 rfl (by assumption) h2 ?_
  refine ar_iload_n 23 rfl d_X2_adds_22 rfl ?_
  refine ar_iasN m 24 rfl d_X2_adds_23 (by assumption) (by omega) (by omega) ?_
  refine ar_aload_n 25 rfl d_X2_adds_24 rfl ?_
  refine ar_getA 28 rfl d_X2_adds_25 fl_X2_15 rfl (by assumption) (by assumption) ?_
  refine ar_aload_n 29 rfl d_X2_adds_28 rfl ?_
  refine ar_giv (y := (m : Int)) 32 rfl d_X2_adds_29 fl_X2_43 rfl (by assumption) (by rw [hI_w, if_neg (by omega)]; exact h2) ?_
  refine ar_iload_n 33 rfl d_X2_adds_32 rfl ?_
  refine ar_iasN m 34 rfl d_X2_adds_33 (by assumption) (by omega) (by omega) ?_
  refine ar_aload_n 35 rfl d_X2_adds_34 rfl ?_
  refine ar_dup 36 rfl d_X2_adds_35 (fun _ => rfl) ?_
  refine ar_giv (y := (m : Int)) 39 rfl d_X2_adds_36 fl_X2_43 rfl (by assumption) (by rw [hI_w, if_neg (by omega), hI_w, if_neg (by omega)]; exact h2) ?_
  refine ar_iconst 40 rfl d_X2_adds_39 ?_
  refine ar_iadd 41 rfl d_X2_adds_40 ?_
  refine ar_top (y := ((m + 1 : Nat) : Int)) (by omega) ?_
  refine ar_putI 44 rfl d_X2_adds_41 fl_X2_43 rfl rfl (by assumption) ?_
  refine ar_iconst 45 rfl d_X2_adds_44 ?_
  refine WA.ret (some (Vi _)) ⟨d_X2_adds_45, rfl, Or.inr ⟨rfl, Or.inr rfl⟩⟩ ?_
  exact hQ
theorem sp_X2_addsPart {m : Nat} {o v pt : Int} (hS : ShR σ) (h2 : hI σ 156 2 = (m : Int)) (h3 : hI σ 156 3 = pt) (hm : m < 60) (hdp : 1 ≤ d) (hQ : Q (some (Vi 1)) (wI (wI (wI (wI σ 156 3 (pt + 1)) 157 m o) 158 m v) 156 2 ((m + 1 : Nat) : Int))) : WA G d k n mX2_addsPart 0 [Va 156, Vi o, Vi v] [] σ Q := by
  have hk := hS.1
  have hk0 : sk σ 157 = (10, 60) := hS.2.1
  have hk1 : sk σ 158 = (10, 60) := hS.2.2.1
  have hk7 : sk σ 159 = (10, 60) := hS.2.2.2.1
  have hk8 : sk σ 160 = (10, 60) := hS.2.2.2.2.1
  have hr0 : hR σ 156 0 = some 157 := hS.2.2.2.2.2.1
  have hr1 : hR σ 156 1 = some 158 := hS.2.2.2.2.2.2.1
  have hr7 : hR σ 156 7 = some 159 := hS.2.2.2.2.2.2.2.1
  have hr8 : hR σ 156 8 = some 160 := hS.2.2.2.2.2.2.2.2
  refine ar_aload_n 1 rfl d_X2_addsPart_0 rfl ?_
  refine ar_dup 2 rfl d_X2_addsPart_1 (fun _ => rfl) ?_
  refine ar_giv (y := pt) 5 rfl d_X2_addsPart_2 fl_X2_46 rfl (by assumption) h3 ?_
  refine ar_iconst 6 rfl d_X2_addsPart_5 ?_
  refine ar_iadd 7 rfl d_X2_addsPart_6 ?_
  refine ar_putI 10 rfl d_X2_addsPart_7 fl_X2_46 rfl rfl (by assumption) ?_
  refine ar_aload_n 11 rfl d_X2_addsPart_10 rfl ?_
  refine ar_iload_n 12 rfl d_X2_addsPart_11 rfl ?_
  refine ar_iload_n 13 rfl d_X2_addsPart_12 rfl ?_
  refine ar_callV0 (M' := mX2_adds) (As := [_, _]) (ls' := [Va _, Vi _, Vi _]) 16 rfl d_X2_addsPart_13 ml_X2_102 mt_X2_adds (by assumption) rfl (Nat.le_of_ble_eq_true rfl) rfl (Nat.le_of_ble_eq_true rfl) (by omega) ?_
  refine sp_X2_adds (hS.e rfl) (by rw [hI_w, if_neg (by omega)]; exact h2) hm ?_
  refine WA.ret (some (Vi _)) ⟨d_X2_addsPart_16, rfl, Or.inr ⟨rfl, (Or.inr rfl)⟩⟩ ?_
  exact hQ
theorem sp_X2_opens {m : Nat} {w : Int} (hS : ShR σ) (h9 : hI σ 156 9 = (m : Int)) (hm : m < 60) (hQ : Q (some (Vi 1)) (wI (wI σ 159 m w) 156 9 ((m + 1 : Nat) : Int))) : WA G d k n mX2_opens 0 [Va 156, Vi w] [] σ Q := by
  have hk := hS.1
  have hk0 : sk σ 157 = (10, 60) := hS.2.1
  have hk1 : sk σ 158 = (10, 60) := hS.2.2.1
  have hk7 : sk σ 159 = (10, 60) := hS.2.2.2.1
  have hk8 : sk σ 160 = (10, 60) := hS.2.2.2.2.1
  have hr0 : hR σ 156 0 = some 157 := hS.2.2.2.2.2.1
  have hr1 : hR σ 156 1 = some 158 := hS.2.2.2.2.2.2.1
  have hr7 : hR σ 156 7 = some 159 := hS.2.2.2.2.2.2.2.1
  have hr8 : hR σ 156 8 = some 160 := hS.2.2.2.2.2.2.2.2
  refine ar_aload_n 1 rfl d_X2_opens_0 rfl ?_
  refine ar_giv (y := (m : Int)) 4 rfl d_X2_opens_1 fl_X2_35 rfl (by assumption) h9 ?_
  refine ar_aload_n 5 rfl d_X2_opens_4 rfl ?_
  refine ar_getA 8 rfl d_X2_opens_5 fl_X2_18 rfl (by assumption) (by assumption) ?_
  refine ar_alen 9 rfl d_X2_opens_8 (by assumption) (by omega) ?_
  refine ar_icmp_lt 14 12 rfl rfl d_X2_opens_9 (by omega) (by omega) (fun g9 => ?_) (fun h => by omega)
  refine ar_aload_n 15 rfl d_X2_opens_14 rfl ?_
  refine ar_getA 18 rfl d_X2_opens_15 fl_X2_18 rfl (by assumption) (by assumption) ?_
  refine ar_aload_n 19 rfl d_X2_opens_18 rfl ?_
  refine ar_giv (y := (m : Int)) 22 rfl d_X2_opens_19 fl_X2_35 rfl (by assumption) h9 ?_
  refine ar_iload_n 23 rfl d_X2_opens_22 rfl ?_
  refine ar_iasN m 24 rfl d_X2_opens_23 (by assumption) (by omega) (by omega) ?_
  refine ar_aload_n 25 rfl d_X2_opens_24 rfl ?_
  refine ar_dup 26 rfl d_X2_opens_25 (fun _ => rfl) ?_
  refine ar_giv (y := (m : Int)) 29 rfl d_X2_opens_26 fl_X2_35 rfl (by assumption) (by rw [hI_w, if_neg (by omega)]; exact h9) ?_
  refine ar_iconst 30 rfl d_X2_opens_29 ?_
  refine ar_iadd 31 rfl d_X2_opens_30 ?_
  refine ar_top (y := ((m + 1 : Nat) : Int)) (by omega) ?_
  refine ar_putI 34 rfl d_X2_opens_31 fl_X2_35 rfl rfl (by assumption) ?_
  refine ar_iconst 35 rfl d_X2_opens_34 ?_
  refine WA.ret (some (Vi _)) ⟨d_X2_opens_35, rfl, Or.inr ⟨rfl, Or.inr rfl⟩⟩ ?_
  exact hQ
theorem sp_X2_waitsNext {m : Nat} {w : Int} (hS : ShR σ) (h9 : hI σ 156 9 = ((m + 1 : Nat) : Int)) (hm : m < 60) (hQ : Q (some (Vi 1)) (wI (wI σ 159 m w) 156 6 0)) : WA G d k n mX2_waitsNext 0 [Va 156, Vi w] [] σ Q := by
  have hk := hS.1
  have hk0 : sk σ 157 = (10, 60) := hS.2.1
  have hk1 : sk σ 158 = (10, 60) := hS.2.2.1
  have hk7 : sk σ 159 = (10, 60) := hS.2.2.2.1
  have hk8 : sk σ 160 = (10, 60) := hS.2.2.2.2.1
  have hr0 : hR σ 156 0 = some 157 := hS.2.2.2.2.2.1
  have hr1 : hR σ 156 1 = some 158 := hS.2.2.2.2.2.2.1
  have hr7 : hR σ 156 7 = some 159 := hS.2.2.2.2.2.2.2.1
  have hr8 : hR σ 156 8 = some 160 := hS.2.2.2.2.2.2.2.2
  refine ar_aload_n 1 rfl d_X2_waitsNext_0 rfl ?_
  refine ar_getA 4 rfl d_X2_waitsNext_1 fl_X2_18 rfl (by assumption) (by assumption) ?_
  refine ar_aload_n 5 rfl d_X2_waitsNext_4 rfl ?_
  refine ar_giv (y := ((m + 1 : Nat) : Int)) 8 rfl d_X2_waitsNext_5 fl_X2_35 rfl (by assumption) h9 ?_
  refine ar_iconst 9 rfl d_X2_waitsNext_8 ?_
  refine ar_isub 10 rfl d_X2_waitsNext_9 ?_
  refine ar_top (y := (m : Int)) (by omega) ?_
  refine ar_iload_n 11 rfl d_X2_waitsNext_10 rfl ?_
  refine ar_iasN m 12 rfl d_X2_waitsNext_11 (by assumption) (by omega) (by omega) ?_
  refine ar_aload_n 13 rfl d_X2_waitsNext_12 rfl ?_
  refine ar_iconst 14 rfl d_X2_waitsNext_13 ?_
  refine ar_putI 17 rfl d_X2_waitsNext_14 fl_X2_31 rfl rfl (by assumption) ?_
  refine ar_iconst 18 rfl d_X2_waitsNext_17 ?_
  refine WA.ret (some (Vi _)) ⟨d_X2_waitsNext_18, rfl, Or.inr ⟨rfl, Or.inr rfl⟩⟩ ?_
  exact hQ
theorem sp_X2_closesEnd {j m : Nat} (hS : ShR σ) (h2 : hI σ 156 2 = (m : Int)) (hj : j < m) (hm : m ≤ 60) (hQ : Q none (wI σ 158 j (m : Int))) : WA G d k n mX2_closesEnd 0 [Va 156, Vi (j : Int)] [] σ Q := by
  have hk := hS.1
  have hk0 : sk σ 157 = (10, 60) := hS.2.1
  have hk1 : sk σ 158 = (10, 60) := hS.2.2.1
  have hk7 : sk σ 159 = (10, 60) := hS.2.2.2.1
  have hk8 : sk σ 160 = (10, 60) := hS.2.2.2.2.1
  have hr0 : hR σ 156 0 = some 157 := hS.2.2.2.2.2.1
  have hr1 : hR σ 156 1 = some 158 := hS.2.2.2.2.2.2.1
  have hr7 : hR σ 156 7 = some 159 := hS.2.2.2.2.2.2.2.1
  have hr8 : hR σ 156 8 = some 160 := hS.2.2.2.2.2.2.2.2
  refine ar_iload_n 1 rfl d_X2_closesEnd_0 rfl ?_
  refine ar_if_lt 22 4 rfl rfl d_X2_closesEnd_1 (by omega) (fun h => by omega) (fun g1 => ?_)
  refine ar_iload_n 5 rfl d_X2_closesEnd_4 rfl ?_
  refine ar_aload_n 6 rfl d_X2_closesEnd_5 rfl ?_
  refine ar_giv (y := (m : Int)) 9 rfl d_X2_closesEnd_6 fl_X2_43 rfl (by assumption) h2 ?_
  refine ar_icmp_ge 22 12 rfl rfl d_X2_closesEnd_9 (by omega) (by omega) (fun h => by omega) (fun g9 => ?_)
  refine ar_aload_n 13 rfl d_X2_closesEnd_12 rfl ?_
  refine ar_getA 16 rfl d_X2_closesEnd_13 fl_X2_15 rfl (by assumption) (by assumption) ?_
  refine ar_iload_n 17 rfl d_X2_closesEnd_16 rfl ?_
  refine ar_aload_n 18 rfl d_X2_closesEnd_17 rfl ?_
  refine ar_giv (y := (m : Int)) 21 rfl d_X2_closesEnd_18 fl_X2_43 rfl (by assumption) h2 ?_
  refine ar_iasN j 22 rfl d_X2_closesEnd_21 (by assumption) (by omega) (by omega) ?_
  refine WA.ret none ⟨d_X2_closesEnd_22, rfl, rfl⟩ ?_
  exact hQ
end READ
