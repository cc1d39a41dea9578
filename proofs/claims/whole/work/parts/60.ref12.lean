-- ===== the reference reads =====
theorem stp_g {c : Rcpe} {g : Nat} {W : List (Int × Nat)} {ch : Int} : stp (c, g, W) ch = if g = 0 then (if ch = 40 then some (c, 0, (10, 0) :: W) else if ch = 123 then some (c, 0, (11, 0) :: W) else if ch = 35 then some (c, 1, W)
     else if 48 ≤ ch ∧ ch ≤ 57 then some (c ++ [(1, ch - 48)], 2, W) else if 97 ≤ ch ∧ ch < 109 then some (c ++ [(0, ch - 97)], 3, W) else none)
  else if g = 1 then (if 48 ≤ ch ∧ ch < 53 then some (c ++ [(0, 20 + (ch - 48))], 3, W) else none)
  else if g = 2 ∧ 48 ≤ ch ∧ ch ≤ 57 then (if lastO c = 0 ∨ 100 ≤ lastO c * 10 + (ch - 48) then none else some (setO c (c.length - 1) (lastO c * 10 + (ch - 48)), 2, W))
  else aft c W ch := rfl
def sg (cs : List Int) (i : Nat) : Int := (cs[i]?).getD (-6)
def Pok (cs : List Int) : Prop := cs.length ≤ 60 ∧ ∀ (j : Nat) (x : Int), cs[j]? = some x → 33 ≤ x ∧ x ≤ 126
theorem sg_some {cs : List Int} {i : Nat} {x : Int} (h : cs[i]? = some x) : sg cs i = x := by
  unfold sg
  rw [h]
  rfl
theorem sg_end {cs : List Int} {i : Nat} (h : cs.length ≤ i) : sg cs i = -6 := by
  unfold sg
  rw [List.getElem?_eq_none h]
  rfl
theorem sg_i {cs : List Int} (hp : Pok cs) (i : Nat) : i32 (sg cs i) := by
  cases h : cs[i]? with
  | none =>
    unfold sg
    rw [h]
    constructor <;> decide
  | some x =>
    rw [sg_some h]
    have := hp.2 i x h
    constructor <;> omega
theorem sg_get {cs : List Int} {i : Nat} (h : sg cs i ≠ -6) : cs[i]? = some (sg cs i) := by
  cases e : cs[i]? with
  | none =>
    unfold sg at h
    rw [e] at h
    exact absurd rfl h
  | some x => rw [sg_some e]
def Rd (cs : List Int) (i : Nat) (st : RA) : Prop := i ≤ cs.length ∧ rdT ([], 0, []) (cs.take i) = (none, st) ∧ RI i st ∧ HV i st
theorem Rd.zero (cs : List Int) : Rd cs 0 ([], 0, []) := ⟨Nat.zero_le _, rfl, ⟨Nat.le_refl _, Nat.le_refl _, (by decide : 0 ≤ 3), (fun h => by cases h), (fun x hx => by cases hx), (fun x hx => by cases hx), Or.inr (Or.inl ⟨rfl, rfl⟩)⟩, HV.zero⟩
theorem Rd.next {cs : List Int} {i : Nat} {st st' : RA} {ch : Int} (h : Rd cs i st) (hp : Pok cs) (hc : cs[i]? = some ch) (hs : stp st ch = some st') : Rd cs (i + 1) st' := by
  have hi := (List.getElem?_eq_some_iff.mp hc).1
  have hl := hp.1
  refine ⟨hi, ?_, h.2.2.1.next (by omega) hs, h.2.2.2.next h.2.2.1 (by omega) hs⟩
  rw [List.take_succ, hc]
  show rdT ([], 0, []) (cs.take i ++ [ch]) = _
  rw [rdT_app _ _ _ _ h.2.1, rdT, hs]
  rfl
theorem Rd.stop {cs : List Int} {i : Nat} {st : RA} {ch : Int} (h : Rd cs i st) (hc : cs[i]? = some ch) (hs : stp st ch = none) : ffA cs = (i : Int) := by
  have hi := (List.getElem?_eq_some_iff.mp hc).1
  have e : cs = cs.take i ++ (ch :: cs.drop (i + 1)) := by
    rw [← (List.getElem?_eq_some_iff.mp hc).2, ← List.drop_eq_getElem_cons hi, List.take_append_drop]
  have h2 := rdT_app _ (ch :: cs.drop (i + 1)) _ _ h.2.1
  rw [← e, rdT, hs] at h2
  unfold ffA
  rw [h2]
  show (((0 + (cs.take i).length : Nat)) : Int) = _
  rw [List.length_take]
  omega
theorem Rd.fin {cs : List Int} {st : RA} (h : Rd cs cs.length st) : (rdT ([], 0, []) cs).2 = st ∧ ffA cs = if (st.2.1 = 3 ∨ st.2.1 = 2) ∧ st.2.2 = [] then -6 else (cs.length : Int) := by
  have h2 := h.2.1
  rw [List.take_length] at h2
  refine ⟨by rw [h2], ?_⟩
  unfold ffA
  rw [h2]
theorem Rd.bd {cs : List Int} {i : Nat} {c : Rcpe} {g : Nat} {W : List (Int × Nat)} (h : Rd cs i (c, g, W)) (hp : Pok cs) : c.length ≤ i ∧ W.length ≤ i ∧ i ≤ 60 ∧ i ≤ cs.length ∧ g ≤ 3 := by
  have h1 : c.length ≤ i := h.2.2.1.1
  have h2 : W.length ≤ i := h.2.2.1.2.1
  have h3 : g ≤ 3 := h.2.2.1.2.2.1
  have := h.1
  have := hp.1
  omega
/-- a start of a recipe that can't be -/
theorem Rd.stuck0 {cs : List Int} {i : Nat} {c : Rcpe} {W : List (Int × Nat)} (h : Rd cs i (c, 0, W)) (h1 : sg cs i ≠ 40) (h2 : sg cs i ≠ 123) (h3 : sg cs i ≠ 35) (h4 : ¬ (48 ≤ sg cs i ∧ sg cs i ≤ 57)) (h5 : ¬ (97 ≤ sg cs i ∧ sg cs i < 109)) : ffA cs = (i : Int) := by
  cases e : cs[i]? with
  | none =>
    have hi : i = cs.length := by
      have := List.getElem?_eq_none_iff.mp e
      have := h.1
      omega
    subst hi
    rw [h.fin.2, if_neg (fun q => by rcases q.1 with q | q <;> cases q)]
  | some x =>
    rw [sg_some e] at h1 h2 h3 h4 h5
    refine h.stop e ?_
    rw [stp_g, if_pos rfl, if_neg h1, if_neg h2, if_neg h3, if_neg h4, if_neg h5]
theorem Rd.stuck1 {cs : List Int} {i : Nat} {c : Rcpe} {W : List (Int × Nat)} (h : Rd cs i (c, 1, W)) (h1 : ¬ (48 ≤ sg cs i ∧ sg cs i < 53)) : ffA cs = (i : Int) := by
  cases e : cs[i]? with
  | none =>
    have hi : i = cs.length := by
      have := List.getElem?_eq_none_iff.mp e
      have := h.1
      omega
    subst hi
    rw [h.fin.2, if_neg (fun q => by rcases q.1 with q | q <;> cases q)]
  | some x =>
    rw [sg_some e] at h1
    refine h.stop e ?_
    rw [stp_g, if_neg (by decide), if_pos rfl, if_neg h1]
/-- behind a simple recipe nothing goes on with it -/
def Aft (cs : List Int) (i : Nat) (c : Rcpe) (g : Nat) (W : List (Int × Nat)) : Prop := ∀ ch, cs[i]? = some ch → stp (c, g, W) ch = aft c W ch
theorem Rd.stuckA {cs : List Int} {i : Nat} {c : Rcpe} {g : Nat} {W : List (Int × Nat)} (h : Rd cs i (c, g, W)) (ha : Aft cs i c g W) (hn : aft c W (sg cs i) = none) (hW : W ≠ [] ∨ i < cs.length) : ffA cs = (i : Int) := by
  cases e : cs[i]? with
  | none =>
    have hi : i = cs.length := by
      have := List.getElem?_eq_none_iff.mp e
      have := h.1
      omega
    subst hi
    rw [h.fin.2, if_neg (fun q => by
      rcases hW with w | w
      · exact w q.2
      · omega)]
  | some x =>
    rw [sg_some e] at hn
    exact h.stop e ((ha x e).trans hn)
theorem Aft.three {cs : List Int} {i : Nat} {c : Rcpe} {W : List (Int × Nat)} : Aft cs i c 3 W := by
  intro ch _
  rw [stp_g, if_neg (by decide), if_neg (by decide), if_neg (fun h => absurd h.1 (by decide))]
theorem aft_dig {c : Rcpe} {W : List (Int × Nat)} {ch : Int} (h : 48 ≤ ch ∧ ch ≤ 57) : aft c W ch = none := by
  unfold aft
  cases W with
  | nil => rfl
  | cons x T =>
    simp only []
    rw [if_neg (show ¬ ch = 43 by omega), if_neg (show ¬ ch = 45 by omega), if_neg (show ¬ ch = 42 by omega), if_neg (show ¬ ch = 63 by omega), if_neg (show ¬ ch = 58 by omega), if_neg (show ¬ ch = 125 by omega), if_neg (show ¬ ch = 41 by omega)]
    split
    · rfl
    · split
      · rfl
      · split
        · rfl
        · split <;> rfl
theorem setO_end (a : Rcpe) (y : Int × Int) (v : Int) : setO (a ++ [y]) a.length v = a ++ [(y.1, v)] := by
  induction a with
  | nil => rfl
  | cons x t ih =>
    show x :: setO (t ++ [y]) t.length v = _
    rw [ih]
    rfl
theorem setO_app (a : Rcpe) (y : Int × Int) (k : Nat) (v : Int) (h : k < a.length) : setO (a ++ [y]) k v = setO a k v ++ [y] := by
  induction a generalizing k with
  | nil => simp at h
  | cons x t ih =>
    cases k with
    | zero => rfl
    | succ k =>
      show x :: setO (t ++ [y]) k v = x :: (setO t k v ++ [y])
      rw [ih k (by simpa using h)]
theorem lastO_end (a : Rcpe) (y : Int × Int) : lastO (a ++ [y]) = y.2 := by
  unfold lastO
  rw [List.getLast?_append]
  simp
theorem Aft.two {cs : List Int} {i : Nat} {c : Rcpe} {W : List (Int × Nat)} {v : Int} (h : ∀ ch, cs[i]? = some ch → 48 ≤ ch ∧ ch ≤ 57 → v = 0 ∨ 100 ≤ v * 10 + (ch - 48)) : Aft cs i (c ++ [(1, v)]) 2 W := by
  intro ch hch
  rw [stp_g, if_neg (by decide), if_neg (by decide)]
  by_cases e : 48 ≤ ch ∧ ch ≤ 57
  · rw [if_pos ⟨rfl, e⟩, lastO_end, if_pos (h ch hch e), aft_dig e]
  · rw [if_neg (fun q => e q.2)]
-- the reference's rows while it reads
def dK (x : Int × Nat) : Int := if x.1 = 10 then 43 else if x.1 = 11 then 63 else if x.1 = 12 then 58 else if x.1 = 13 then 125 else 41
def dW (x : Int × Nat) : Int := if 2 ≤ x.1 ∧ x.1 ≤ 4 then x.1 + 1 else (x.2 : Int)
def Cp (σ : Sg) (cs : List Int) (i : Nat) (c : Rcpe) (W : List (Int × Nat)) : Prop := hI σ 625 14 = (i : Int) ∧ hI σ 625 10 = (c.length : Int) ∧ hI σ 625 13 = (W.length : Int) ∧ (∀ j x, c[j]? = some x → hI σ 632 j = oK x ∧ hI σ 633 j = oA x) ∧ (∀ j x, W.reverse[j]? = some x → hI σ 634 j = dK x ∧ hI σ 635 j = dW x) ∧ hI σ 625 7 = (cs.length : Int) ∧ ∀ (j : Nat) (x : Int), cs[j]? = some x → hI σ 631 j = x
def FrC (σ σ' : Sg) : Prop := σ'.2 = σ.2 ∧ (∀ b, b ≠ 625 → b ≠ 632 → b ≠ 633 → b ≠ 634 → b ≠ 635 → hI σ' b = hI σ b) ∧ ∀ j, j ≠ 10 → j ≠ 13 → j ≠ 14 → hI σ' 625 j = hI σ 625 j
theorem FrC.rf {σ : Sg} : FrC σ σ := ⟨rfl, fun _ _ _ _ _ _ => rfl, fun _ _ _ _ => rfl⟩
theorem FrC.tr {σ σ1 σ2 : Sg} (h : FrC σ σ1) (h2 : FrC σ1 σ2) : FrC σ σ2 := ⟨h2.1.trans h.1, fun b a1 a2 a3 a4 a5 => (h2.2.1 b a1 a2 a3 a4 a5).trans (h.2.1 b a1 a2 a3 a4 a5), fun j a1 a2 a3 => (h2.2.2 j a1 a2 a3).trans (h.2.2 j a1 a2 a3)⟩
theorem FrC.w {σ : Sg} {b j : Nat} {x : Int} (h : (632 ≤ b ∧ b ≤ 635) ∨ (b = 625 ∧ (j = 10 ∨ j = 13 ∨ j = 14))) : FrC σ (wI σ b j x) :=
  ⟨rfl, fun c a1 a2 a3 a4 a5 => hI_off (by omega), fun i a1 a2 a3 => by rw [hI_w, if_neg (by omega)]⟩
theorem Cp.sp {σ : Sg} {cs : List Int} {i : Nat} {c : Rcpe} {W : List (Int × Nat)} (h : Cp σ cs i c W) (k : Nat) : Cp (wI σ 625 14 (k : Int)) cs k c W := by
  obtain ⟨h1, h2, h3, h4, h5, h6, h7⟩ := h
  refine ⟨?_, ?_, ?_, fun j x hx => ?_, fun j x hx => ?_, ?_, fun j x hx => ?_⟩
  · rw [hI_w, if_pos ⟨rfl, rfl⟩]
  · rw [hI_w, if_neg (by omega)]; exact h2
  · rw [hI_w, if_neg (by omega)]; exact h3
  · rw [hI_off (by omega), hI_off (by omega)]; exact h4 j x hx
  · rw [hI_off (by omega), hI_off (by omega)]; exact h5 j x hx
  · rw [hI_w, if_neg (by omega)]; exact h6
  · rw [hI_off (by omega)]; exact h7 j x hx
theorem Cp.lay {σ : Sg} {cs : List Int} {i : Nat} {c : Rcpe} {W : List (Int × Nat)} (h : Cp σ cs i c W) {y : Int × Int} {w v : Int} (hw : oK y = w) (hv : oA y = v) : Cp (wI (wI (wI σ 632 c.length w) 633 c.length v) 625 10 ((c.length + 1 : Nat) : Int)) cs i (c ++ [y]) W := by
  obtain ⟨h1, h2, h3, h4, h5, h6, h7⟩ := h
  refine ⟨?_, ?_, ?_, fun j x hx => ?_, fun j x hx => ?_, ?_, fun j x hx => ?_⟩
  · rw [hI_w, if_neg (by omega), hI_off (by omega), hI_off (by omega)]; exact h1
  · rw [hI_w, if_pos ⟨rfl, rfl⟩, List.length_append]; rfl
  · rw [hI_w, if_neg (by omega), hI_off (by omega), hI_off (by omega)]; exact h3
  · rw [hI_off (by omega), hI_off (by omega), hI_w, hI_off (by omega), hI_w, hI_off (by omega)]
    by_cases e : j < c.length
    · rw [List.getElem?_append_left e] at hx
      rw [if_neg (by omega), if_neg (by omega)]
      exact h4 j x hx
    · have hj := (List.getElem?_eq_some_iff.mp hx).1
      rw [List.length_append] at hj
      have hj : j < c.length + 1 := hj
      have e2 : j = c.length := by omega
      subst e2
      rw [app_last] at hx
      cases hx
      rw [if_pos ⟨rfl, rfl⟩, if_pos ⟨rfl, rfl⟩]
      exact ⟨hw.symm, hv.symm⟩
  · rw [hI_off (by omega), hI_off (by omega), hI_off (by omega), hI_off (by omega), hI_off (by omega), hI_off (by omega)]; exact h5 j x hx
  · rw [hI_w, if_neg (by omega), hI_off (by omega), hI_off (by omega)]; exact h6
  · rw [hI_off (by omega), hI_off (by omega), hI_off (by omega)]; exact h7 j x hx
theorem Cp.exp {σ : Sg} {cs : List Int} {i : Nat} {c : Rcpe} {W : List (Int × Nat)} (h : Cp σ cs i c W) {y : Int × Nat} {w v : Int} (hw : dK y = w) (hv : dW y = v) : Cp (wI (wI (wI σ 634 W.length w) 635 W.length v) 625 13 ((W.length + 1 : Nat) : Int)) cs i c (y :: W) := by
  obtain ⟨h1, h2, h3, h4, h5, h6, h7⟩ := h
  refine ⟨?_, ?_, ?_, fun j x hx => ?_, fun j x hx => ?_, ?_, fun j x hx => ?_⟩
  · rw [hI_w, if_neg (by omega), hI_off (by omega), hI_off (by omega)]; exact h1
  · rw [hI_w, if_neg (by omega), hI_off (by omega), hI_off (by omega)]; exact h2
  · rw [hI_w, if_pos ⟨rfl, rfl⟩]; rfl
  · rw [hI_off (by omega), hI_off (by omega), hI_off (by omega), hI_off (by omega), hI_off (by omega), hI_off (by omega)]; exact h4 j x hx
  · rw [hI_off (by omega), hI_off (by omega), hI_w, hI_off (by omega), hI_w, hI_off (by omega)]
    rw [List.reverse_cons] at hx
    by_cases e : j < W.length
    · rw [List.getElem?_append_left (by rw [List.length_reverse]; exact e)] at hx
      rw [if_neg (by omega), if_neg (by omega)]
      exact h5 j x hx
    · have hj := (List.getElem?_eq_some_iff.mp hx).1
      rw [List.length_append, List.length_reverse] at hj
      have hj : j < W.length + 1 := hj
      have e2 : j = W.length := by omega
      subst e2
      rw [List.getElem?_append_right (by rw [List.length_reverse]; omega), List.length_reverse, Nat.sub_self] at hx
      cases hx
      rw [if_pos ⟨rfl, rfl⟩, if_pos ⟨rfl, rfl⟩]
      exact ⟨hw.symm, hv.symm⟩
  · rw [hI_w, if_neg (by omega), hI_off (by omega), hI_off (by omega)]; exact h6
  · rw [hI_off (by omega), hI_off (by omega), hI_off (by omega)]; exact h7 j x hx
theorem Cp.top {σ : Sg} {cs : List Int} {i : Nat} {c : Rcpe} {T : List (Int × Nat)} {x : Int × Nat} (h : Cp σ cs i c (x :: T)) : hI σ 625 13 = ((T.length + 1 : Nat) : Int) ∧ hI σ 634 T.length = dK x ∧ hI σ 635 T.length = dW x := by
  obtain ⟨h1, h2, h3, h4, h5, h6, h7⟩ := h
  refine ⟨h3, h5 T.length x ?_⟩
  rw [List.reverse_cons, List.getElem?_append_right (by rw [List.length_reverse]; omega), List.length_reverse, Nat.sub_self]
  rfl
theorem Cp.pop {σ : Sg} {cs : List Int} {i : Nat} {c : Rcpe} {T : List (Int × Nat)} {x : Int × Nat} (h : Cp σ cs i c (x :: T)) : Cp (wI σ 625 13 (T.length : Int)) cs i c T := by
  obtain ⟨h1, h2, h3, h4, h5, h6, h7⟩ := h
  refine ⟨?_, ?_, ?_, fun j x hx => ?_, fun j x hx => ?_, ?_, fun j x hx => ?_⟩
  · rw [hI_w, if_neg (by omega)]; exact h1
  · rw [hI_w, if_neg (by omega)]; exact h2
  · rw [hI_w, if_pos ⟨rfl, rfl⟩]
  · rw [hI_off (by omega), hI_off (by omega)]; exact h4 j x hx
  · rw [hI_off (by omega), hI_off (by omega)]
    have hj := (List.getElem?_eq_some_iff.mp hx).1
    refine h5 j x ?_
    rw [List.reverse_cons, List.getElem?_append_left hj]
    exact hx
  · rw [hI_w, if_neg (by omega)]; exact h6
  · rw [hI_off (by omega)]; exact h7 j x hx
theorem Cp.chg {σ : Sg} {cs : List Int} {i : Nat} {c : Rcpe} {T : List (Int × Nat)} {x y : Int × Nat} {w v : Int} (h : Cp σ cs i c (x :: T)) (hw : dK y = w) (hv : dW y = v) : Cp (wI (wI σ 634 T.length w) 635 T.length v) cs i c (y :: T) := by
  obtain ⟨h1, h2, h3, h4, h5, h6, h7⟩ := h
  refine ⟨?_, ?_, ?_, fun j z hz => ?_, fun j z hz => ?_, ?_, fun j z hz => ?_⟩
  · rw [hI_off (by omega), hI_off (by omega)]; exact h1
  · rw [hI_off (by omega), hI_off (by omega)]; exact h2
  · rw [hI_off (by omega), hI_off (by omega)]; exact h3
  · rw [hI_off (by omega), hI_off (by omega), hI_off (by omega), hI_off (by omega)]; exact h4 j z hz
  · rw [hI_off (by omega), hI_w, hI_w, hI_off (by omega)]
    rw [List.reverse_cons] at hz
    by_cases e : j < T.length
    · rw [List.getElem?_append_left (by rw [List.length_reverse]; exact e)] at hz
      rw [if_neg (by omega), if_neg (by omega)]
      refine h5 j z ?_
      rw [List.reverse_cons, List.getElem?_append_left (by rw [List.length_reverse]; exact e)]
      exact hz
    · have hj := (List.getElem?_eq_some_iff.mp hz).1
      rw [List.length_append, List.length_reverse] at hj
      have hj : j < T.length + 1 := hj
      have e2 : j = T.length := by omega
      subst e2
      rw [List.getElem?_append_right (by rw [List.length_reverse]; omega), List.length_reverse, Nat.sub_self] at hz
      cases hz
      rw [if_pos ⟨rfl, rfl⟩, if_pos ⟨rfl, rfl⟩]
      exact ⟨hw.symm, hv.symm⟩
  · rw [hI_off (by omega), hI_off (by omega)]; exact h6
  · rw [hI_off (by omega), hI_off (by omega)]; exact h7 j z hz
theorem Cp.arg {σ : Sg} {cs : List Int} {i e : Nat} {c : Rcpe} {W : List (Int × Nat)} {v w : Int} (h : Cp σ cs i c W) (hx : ∃ u, c[e]? = some (w, u)) (hw : 1 ≤ w) : Cp (wI σ 633 e v) cs i (setO c e v) W := by
  obtain ⟨h1, h2, h3, h4, h5, h6, h7⟩ := h
  obtain ⟨u, hu⟩ := hx
  refine ⟨?_, ?_, ?_, fun j z hz => ?_, fun j z hz => ?_, ?_, fun j z hz => ?_⟩
  · rw [hI_off (by omega)]; exact h1
  · rw [hI_off (by omega), setO_len]; exact h2
  · rw [hI_off (by omega)]; exact h3
  · rw [setO_at] at hz
    rw [hI_off (by omega), hI_w]
    cases hc : c[j]? with
    | none =>
      rw [hc] at hz
      cases hz
    | some q =>
      have h9 := h4 j q hc
      rw [hc, Option.map_some] at hz
      by_cases e2 : j = e
      · subst e2
        rw [hu] at hc
        cases hc
        rw [if_pos rfl] at hz
        cases hz
        rw [if_pos ⟨rfl, rfl⟩]
        refine ⟨?_, ?_⟩
        · rw [h9.1]
          unfold oK
          rw [if_neg (by show ¬ w = 0; omega), if_neg (by show ¬ w = 0; omega)]
        · unfold oA
          rw [if_neg (by show ¬ (w = 0 ∧ _); omega)]
      · rw [if_neg e2] at hz
        cases hz
        rw [if_neg (fun q => e2 q.2)]
        exact h9
  · rw [hI_off (by omega), hI_off (by omega)]; exact h5 j z hz
  · rw [hI_off (by omega)]; exact h6
  · rw [hI_off (by omega)]; exact h7 j z hz
section REF12
variable {G : GT} {d k n : Nat} {Q : Option AV → Sg → Prop}
theorem sp_X6_sign {σ : Sg} {cs : List Int} {i : Nat} {c : Rcpe} {W : List (Int × Nat)} (hS : Sh6 σ) (hc : Cp σ cs i c W) (hl : cs.length ≤ 60) (hi : i ≤ 100) (hQ : Q (some (Vi (sg cs i))) σ) : WA G d k n mX6_sign 0 [Va 625] [] σ Q := by
  obtain ⟨h1, h2, h3, h4, h5, h6, h7⟩ := hc
  have k625 := hS.k625
  have r6 := hS.r6
  have k631 := hS.k631
  refine ar_aload_n 1 rfl d_X6_sign_0 rfl ?_
  refine ar_giv (y := (i : Int)) 4 rfl d_X6_sign_1 fl_X6_97 rfl (by assumption) h1 ?_
  refine ar_aload_n 5 rfl d_X6_sign_4 rfl ?_
  refine ar_giv (y := (cs.length : Int)) 8 rfl d_X6_sign_5 fl_X6_101 rfl (by assumption) h6 ?_
  refine ar_icmp_ge 23 11 rfl rfl d_X6_sign_8 (by omega) (by omega) (fun g8 => ?_) (fun g8 => ?_)
  · refine ar_bipush 25 rfl d_X6_sign_23 rfl ?_
    refine WA.ret (some (Vi _)) ⟨d_X6_sign_25, rfl, Or.inl rfl⟩ ?_
    rw [sg_end (by omega)] at hQ
    exact hQ
  · obtain ⟨x, hx⟩ : ∃ x, cs[i]? = some x := ⟨_, List.getElem?_eq_getElem (by omega)⟩
    have hxx := h7 i x hx
    refine ar_aload_n 12 rfl d_X6_sign_11 rfl ?_
    refine ar_getA 15 rfl d_X6_sign_12 fl_X6_26 rfl (by assumption) (by assumption) ?_
    refine ar_aload_n 16 rfl d_X6_sign_15 rfl ?_
    refine ar_giv (y := (i : Int)) 19 rfl d_X6_sign_16 fl_X6_97 rfl (by assumption) h1 ?_
    refine ar_ilv (y := x) 20 rfl d_X6_sign_19 (by assumption) (by omega) (by rw [Int.toNat_natCast]; exact hxx) ?_
    refine ar_goto 25 rfl d_X6_sign_20 ?_
    refine WA.ret (some (Vi _)) ⟨d_X6_sign_25, rfl, Or.inl rfl⟩ ?_
    rw [sg_some hx] at hQ
    exact hQ
theorem sp_X6_lay {σ : Sg} {m : Nat} {w v : Int} (hS : Sh6 σ) (h1 : hI σ 625 10 = (m : Int)) (hm : m < 64) (hQ : Q none (wI (wI (wI σ 632 m w) 633 m v) 625 10 ((m + 1 : Nat) : Int))) : WA G d k n mX6_lay 0 [Va 625, Vi w, Vi v] [] σ Q := by
  have k625 := hS.k625
  have r8 := hS.r8
  have k632 := hS.k632
  have r9 := hS.r9
  have k633 := hS.k633
  refine ar_aload_n 1 rfl d_X6_lay_0 rfl ?_
  refine ar_getA 4 rfl d_X6_lay_1 fl_X6_29 rfl (by assumption) (by assumption) ?_
  refine ar_aload_n 5 rfl d_X6_lay_4 rfl ?_
  refine ar_giv (y := (m : Int)) 8 rfl d_X6_lay_5 fl_X6_104 rfl (by assumption) h1 ?_
  refine ar_iload_n 9 rfl d_X6_lay_8 rfl ?_
  refine ar_iasN m 10 rfl d_X6_lay_9 (by assumption) (by omega) (by omega) ?_
  refine ar_aload_n 11 rfl d_X6_lay_10 rfl ?_
  refine ar_getA 14 rfl d_X6_lay_11 fl_X6_32 rfl (by assumption) (by assumption) ?_
  refine ar_aload_n 15 rfl d_X6_lay_14 rfl ?_
  refine ar_giv (y := (m : Int)) 18 rfl d_X6_lay_15 fl_X6_104 rfl (by assumption) (by rw [hI_off (by omega)]; exact h1) ?_
  refine ar_iload_n 19 rfl d_X6_lay_18 rfl ?_
  refine ar_iasN m 20 rfl d_X6_lay_19 (by assumption) (by omega) (by omega) ?_
  refine ar_aload_n 21 rfl d_X6_lay_20 rfl ?_
  refine ar_dup 22 rfl d_X6_lay_21 (fun _ => rfl) ?_
  refine ar_giv (y := (m : Int)) 25 rfl d_X6_lay_22 fl_X6_104 rfl (by assumption) (by rw [hI_off (by omega), hI_off (by omega)]; exact h1) ?_
  refine ar_iconst 26 rfl d_X6_lay_25 ?_
  refine ar_iadd 27 rfl d_X6_lay_26 ?_
  refine ar_top (y := ((m + 1 : Nat) : Int)) (by omega) ?_
  refine ar_putI 30 rfl d_X6_lay_27 fl_X6_104 rfl rfl (by assumption) ?_
  refine WA.ret none ⟨d_X6_lay_30, rfl, rfl⟩ ?_
  exact hQ
theorem sp_X6_expect {σ : Sg} {m : Nat} {w v : Int} (hS : Sh6 σ) (h1 : hI σ 625 13 = (m : Int)) (hm : m < 64) (hQ : Q none (wI (wI (wI σ 634 m w) 635 m v) 625 13 ((m + 1 : Nat) : Int))) : WA G d k n mX6_expect 0 [Va 625, Vi w, Vi v] [] σ Q := by
  have k625 := hS.k625
  have r11 := hS.r11
  have k634 := hS.k634
  have r12 := hS.r12
  have k635 := hS.k635
  refine ar_aload_n 1 rfl d_X6_expect_0 rfl ?_
  refine ar_getA 4 rfl d_X6_expect_1 fl_X6_35 rfl (by assumption) (by assumption) ?_
  refine ar_aload_n 5 rfl d_X6_expect_4 rfl ?_
  refine ar_giv (y := (m : Int)) 8 rfl d_X6_expect_5 fl_X6_107 rfl (by assumption) h1 ?_
  refine ar_iload_n 9 rfl d_X6_expect_8 rfl ?_
  refine ar_iasN m 10 rfl d_X6_expect_9 (by assumption) (by omega) (by omega) ?_
  refine ar_aload_n 11 rfl d_X6_expect_10 rfl ?_
  refine ar_getA 14 rfl d_X6_expect_11 fl_X6_38 rfl (by assumption) (by assumption) ?_
  refine ar_aload_n 15 rfl d_X6_expect_14 rfl ?_
  refine ar_giv (y := (m : Int)) 18 rfl d_X6_expect_15 fl_X6_107 rfl (by assumption) (by rw [hI_off (by omega)]; exact h1) ?_
  refine ar_iload_n 19 rfl d_X6_expect_18 rfl ?_
  refine ar_iasN m 20 rfl d_X6_expect_19 (by assumption) (by omega) (by omega) ?_
  refine ar_aload_n 21 rfl d_X6_expect_20 rfl ?_
  refine ar_dup 22 rfl d_X6_expect_21 (fun _ => rfl) ?_
  refine ar_giv (y := (m : Int)) 25 rfl d_X6_expect_22 fl_X6_107 rfl (by assumption) (by rw [hI_off (by omega), hI_off (by omega)]; exact h1) ?_
  refine ar_iconst 26 rfl d_X6_expect_25 ?_
  refine ar_iadd 27 rfl d_X6_expect_26 ?_
  refine ar_top (y := ((m + 1 : Nat) : Int)) (by omega) ?_
  refine ar_putI 30 rfl d_X6_expect_27 fl_X6_107 rfl rfl (by assumption) ?_
  refine WA.ret none ⟨d_X6_expect_30, rfl, rfl⟩ ?_
  exact hQ
set_option maxHeartbeats 8000000 in
theorem sp_X6_readSimple {cs : List Int} {i0 : Nat} {σ0 : Sg} (hp : Pok cs) (hdp : 2 ≤ d)
    (KF : ∀ (σ' : Sg) (j : Nat), FrC σ0 σ' → hI σ' 625 14 = (j : Int) → ffA cs = (j : Int) → Q (some (Vi 0)) σ')
    (KT : ∀ (σ' : Sg) (j : Nat) (c' : Rcpe) (g' : Nat) (W' : List (Int × Nat)), FrC σ0 σ' → Cp σ' cs j c' W' → Rd cs j (c', g', W') → 2 ≤ g' → Aft cs j c' g' W' → i0 < j → Q (some (Vi 1)) σ') :
    ∀ (r i : Nat) (c : Rcpe) (W : List (Int × Nat)) (σ : Sg) (x1 x2 : AV), cs.length - i = r → i0 ≤ i → FrC σ0 σ → Sh6 σ → Cp σ cs i c W → Rd cs i (c, 0, W) → WA G d k n mX6_readSimple 0 [Va 625, x1, x2] [] σ Q := by
  intro r
  induction r using Nat.strongRecOn with
  | ind r ih =>
  intro i c W σ x1 x2 hr9 hi0 hf hS hC hR
  obtain ⟨b1, b2, b3, b4, b5⟩ := hR.bd hp
  have hsi := sg_i hp i
  have hsi2 := sg_i hp (i + 1)
  have k625 := hS.k625
  by_cases hch : sg cs i = 40
  · have hget : cs[i]? = some (sg cs i) := sg_get (by omega)
    have hlt := (List.getElem?_eq_some_iff.mp hget).1
    refine ar_aload_n 1 rfl d_X6_readSimple_0 rfl ?_
    refine ar_callV0 (M' := mX6_sign) (As := []) (ls' := [Va _]) 4 rfl d_X6_readSimple_1 ml_X6_110 mt_X6_sign (by assumption) rfl (Nat.le_of_ble_eq_true rfl) rfl (Nat.le_of_ble_eq_true rfl) (by omega) ?_
    refine sp_X6_sign hS hC hp.1 (by omega) ?_
    refine ar_bipush 6 rfl d_X6_readSimple_4 rfl ?_
    refine ar_icmp_eq 18 9 rfl rfl d_X6_readSimple_6 (by omega) (by omega) (fun g6 => ?_) (fun h => absurd hch h)
    refine ar_aload_n 19 rfl d_X6_readSimple_18 rfl ?_
    refine ar_aload_n 20 rfl d_X6_readSimple_19 rfl ?_
    refine ar_callV0 (M' := mX6_sign) (As := []) (ls' := [Va _]) 23 rfl d_X6_readSimple_20 ml_X6_110 mt_X6_sign (by assumption) rfl (Nat.le_of_ble_eq_true rfl) rfl (Nat.le_of_ble_eq_true rfl) (by omega) ?_
    refine sp_X6_sign hS hC hp.1 (by omega) ?_
    refine ar_bipush 25 rfl d_X6_readSimple_23 rfl ?_
    refine ar_icmp_ne 33 28 rfl rfl d_X6_readSimple_25 (by omega) (by omega) (fun h => absurd hch h) (fun g25 => ?_)
    refine ar_bipush 30 rfl d_X6_readSimple_28 rfl ?_
    refine ar_goto 35 rfl d_X6_readSimple_30 ?_
    refine ar_iconst 36 rfl d_X6_readSimple_35 ?_
    refine ar_callV0 (M' := mX6_expect) (As := [_, _]) (ls' := [Va _, Vi _, Vi _]) 39 rfl d_X6_readSimple_36 ml_X6_114 mt_X6_expect (by assumption) rfl (Nat.le_of_ble_eq_true rfl) rfl (Nat.le_of_ble_eq_true rfl) (by omega) ?_
    refine sp_X6_expect hS hC.2.2.1 (by omega) ?_
    have hC2 := hC.exp (y := (10, 0)) (w := 43) (v := 0) rfl rfl
    have hS2 : Sh6 (wI (wI (wI σ 634 W.length 43) 635 W.length 0) 625 13 ((W.length + 1 : Nat) : Int)) := hS.e rfl
    have hf2 : FrC σ (wI (wI (wI σ 634 W.length 43) 635 W.length 0) 625 13 ((W.length + 1 : Nat) : Int)) := (FrC.w (by omega)).tr ((FrC.w (by omega)).tr (FrC.w (by omega)))
    generalize wI (wI (wI σ 634 W.length 43) 635 W.length 0) 625 13 ((W.length + 1 : Nat) : Int) = σ2 at hC2 hS2 hf2
    have k625 := hS2.k625
    refine ar_aload_n 40 rfl d_X6_readSimple_39 rfl ?_
    refine ar_dup 41 rfl d_X6_readSimple_40 (fun _ => rfl) ?_
    refine ar_giv (y := (i : Int)) 44 rfl d_X6_readSimple_41 fl_X6_97 rfl (by assumption) hC2.1 ?_
    refine ar_iconst 45 rfl d_X6_readSimple_44 ?_
    refine ar_iadd 46 rfl d_X6_readSimple_45 ?_
    refine ar_top (y := ((i + 1 : Nat) : Int)) (by omega) ?_
    refine ar_putI 49 rfl d_X6_readSimple_46 fl_X6_97 rfl rfl (by assumption) ?_
    refine ar_goto 0 rfl d_X6_readSimple_49 ?_
    refine ih (cs.length - (i + 1)) (by omega) (i + 1) c ((10, 0) :: W) _ _ _ rfl (by omega) (hf.tr (hf2.tr (FrC.w (by omega)))) (hS2.e rfl) (hC2.sp (i + 1)) (hR.next hp hget ?_)
    rw [stp_g, if_pos rfl, if_pos hch]
  by_cases hch2 : sg cs i = 123
  · have hch := hch2
    have hget : cs[i]? = some (sg cs i) := sg_get (by omega)
    have hlt := (List.getElem?_eq_some_iff.mp hget).1
    refine ar_aload_n 1 rfl d_X6_readSimple_0 rfl ?_
    refine ar_callV0 (M' := mX6_sign) (As := []) (ls' := [Va _]) 4 rfl d_X6_readSimple_1 ml_X6_110 mt_X6_sign (by assumption) rfl (Nat.le_of_ble_eq_true rfl) rfl (Nat.le_of_ble_eq_true rfl) (by omega) ?_
    refine sp_X6_sign hS hC hp.1 (by omega) ?_
    refine ar_bipush 6 rfl d_X6_readSimple_4 rfl ?_
    refine ar_icmp_eq 18 9 rfl rfl d_X6_readSimple_6 (by omega) (by omega) (fun h => by omega) (fun g6 => ?_)
    refine ar_aload_n 10 rfl d_X6_readSimple_9 rfl ?_
    refine ar_callV0 (M' := mX6_sign) (As := []) (ls' := [Va _]) 13 rfl d_X6_readSimple_10 ml_X6_110 mt_X6_sign (by assumption) rfl (Nat.le_of_ble_eq_true rfl) rfl (Nat.le_of_ble_eq_true rfl) (by omega) ?_
    refine sp_X6_sign hS hC hp.1 (by omega) ?_
    refine ar_bipush 15 rfl d_X6_readSimple_13 rfl ?_
    refine ar_icmp_ne 52 18 rfl rfl d_X6_readSimple_15 (by omega) (by omega) (fun h => absurd hch h) (fun g15 => ?_)
    refine ar_aload_n 19 rfl d_X6_readSimple_18 rfl ?_
    refine ar_aload_n 20 rfl d_X6_readSimple_19 rfl ?_
    refine ar_callV0 (M' := mX6_sign) (As := []) (ls' := [Va _]) 23 rfl d_X6_readSimple_20 ml_X6_110 mt_X6_sign (by assumption) rfl (Nat.le_of_ble_eq_true rfl) rfl (Nat.le_of_ble_eq_true rfl) (by omega) ?_
    refine sp_X6_sign hS hC hp.1 (by omega) ?_
    refine ar_bipush 25 rfl d_X6_readSimple_23 rfl ?_
    refine ar_icmp_ne 33 28 rfl rfl d_X6_readSimple_25 (by omega) (by omega) (fun g25 => ?_) (fun h => by omega)
    refine ar_bipush 35 rfl d_X6_readSimple_33 rfl ?_
    refine ar_iconst 36 rfl d_X6_readSimple_35 ?_
    refine ar_callV0 (M' := mX6_expect) (As := [_, _]) (ls' := [Va _, Vi _, Vi _]) 39 rfl d_X6_readSimple_36 ml_X6_114 mt_X6_expect (by assumption) rfl (Nat.le_of_ble_eq_true rfl) rfl (Nat.le_of_ble_eq_true rfl) (by omega) ?_
    refine sp_X6_expect hS hC.2.2.1 (by omega) ?_
    have hC2 := hC.exp (y := (11, 0)) (w := 63) (v := 0) rfl rfl
    have hS2 : Sh6 (wI (wI (wI σ 634 W.length 63) 635 W.length 0) 625 13 ((W.length + 1 : Nat) : Int)) := hS.e rfl
    have hf2 : FrC σ (wI (wI (wI σ 634 W.length 63) 635 W.length 0) 625 13 ((W.length + 1 : Nat) : Int)) := (FrC.w (by omega)).tr ((FrC.w (by omega)).tr (FrC.w (by omega)))
    generalize wI (wI (wI σ 634 W.length 63) 635 W.length 0) 625 13 ((W.length + 1 : Nat) : Int) = σ2 at hC2 hS2 hf2
    have k625 := hS2.k625
    refine ar_aload_n 40 rfl d_X6_readSimple_39 rfl ?_
    refine ar_dup 41 rfl d_X6_readSimple_40 (fun _ => rfl) ?_
    refine ar_giv (y := (i : Int)) 44 rfl d_X6_readSimple_41 fl_X6_97 rfl (by assumption) hC2.1 ?_
    refine ar_iconst 45 rfl d_X6_readSimple_44 ?_
    refine ar_iadd 46 rfl d_X6_readSimple_45 ?_
    refine ar_top (y := ((i + 1 : Nat) : Int)) (by omega) ?_
    refine ar_putI 49 rfl d_X6_readSimple_46 fl_X6_97 rfl rfl (by assumption) ?_
    refine ar_goto 0 rfl d_X6_readSimple_49 ?_
    refine ih (cs.length - (i + 1)) (by omega) (i + 1) c ((11, 0) :: W) _ _ _ rfl (by omega) (hf.tr (hf2.tr (FrC.w (by omega)))) (hS2.e rfl) (hC2.sp (i + 1)) (hR.next hp hget ?_)
    rw [stp_g, if_pos rfl, if_neg (by omega), if_pos hch]
  refine ar_aload_n 1 rfl d_X6_readSimple_0 rfl ?_
  refine ar_callV0 (M' := mX6_sign) (As := []) (ls' := [Va _]) 4 rfl d_X6_readSimple_1 ml_X6_110 mt_X6_sign (by assumption) rfl (Nat.le_of_ble_eq_true rfl) rfl (Nat.le_of_ble_eq_true rfl) (by omega) ?_
  refine sp_X6_sign hS hC hp.1 (by omega) ?_
  refine ar_bipush 6 rfl d_X6_readSimple_4 rfl ?_
  refine ar_icmp_eq 18 9 rfl rfl d_X6_readSimple_6 (by omega) (by omega) (fun h => by omega) (fun g6 => ?_)
  refine ar_aload_n 10 rfl d_X6_readSimple_9 rfl ?_
  refine ar_callV0 (M' := mX6_sign) (As := []) (ls' := [Va _]) 13 rfl d_X6_readSimple_10 ml_X6_110 mt_X6_sign (by assumption) rfl (Nat.le_of_ble_eq_true rfl) rfl (Nat.le_of_ble_eq_true rfl) (by omega) ?_
  refine sp_X6_sign hS hC hp.1 (by omega) ?_
  refine ar_bipush 15 rfl d_X6_readSimple_13 rfl ?_
  refine ar_icmp_ne 52 18 rfl rfl d_X6_readSimple_15 (by omega) (by omega) (fun g15 => ?_) (fun h => absurd h hch2)
  refine ar_aload_n 53 rfl d_X6_readSimple_52 rfl ?_
  refine ar_callV0 (M' := mX6_sign) (As := []) (ls' := [Va _]) 56 rfl d_X6_readSimple_53 ml_X6_110 mt_X6_sign (by assumption) rfl (Nat.le_of_ble_eq_true rfl) rfl (Nat.le_of_ble_eq_true rfl) (by omega) ?_
  refine sp_X6_sign hS hC hp.1 (by omega) ?_
  refine ar_ist_1 57 rfl d_X6_readSimple_56 rfl (by intro _ h; cases h) ?_
  refine ar_iload_n 58 rfl d_X6_readSimple_57 rfl ?_
  refine ar_i2l 59 rfl d_X6_readSimple_58 hsi ?_
  refine ar_ldc2 97 62 rfl d_X6_readSimple_59 lc_X6_118 rfl ?_
  refine ar_ldc2 108 65 rfl d_X6_readSimple_62 lc_X6_120 rfl ?_
  refine ar_callS0 (M' := mX6_in) (As := [_, _, _]) (ls' := [Vl _, Vu, Vl _, Vu, Vl _, Vu]) 68 rfl d_X6_readSimple_65 ml_X6_91 mt_X6_in rfl (Nat.le_of_ble_eq_true rfl) rfl (Nat.le_of_ble_eq_true rfl) (by omega) ?_
  refine sp_X6_in (by constructor <;> omega) (by constructor <;> omega) (by constructor <;> omega) (fun g1 => ?_) (fun g1 => ?_)
  · have hget : cs[i]? = some (sg cs i) := sg_get (by omega)
    have hlt := (List.getElem?_eq_some_iff.mp hget).1
    have hR2 : Rd cs (i + 1) (c ++ [(0, sg cs i - 97)], 3, W) := hR.next hp hget (by
      rw [stp_g, if_pos rfl, if_neg hch, if_neg hch2, if_neg (by omega), if_neg (by omega), if_pos (by omega)])
    refine ar_if_eq 92 71 rfl rfl d_X6_readSimple_68 (by omega) (fun h => absurd h (by decide)) (fun g68 => ?_)
    refine ar_aload_n 72 rfl d_X6_readSimple_71 rfl ?_
    refine ar_iconst 73 rfl d_X6_readSimple_72 ?_
    refine ar_iload_n 74 rfl d_X6_readSimple_73 rfl ?_
    refine ar_bipush 76 rfl d_X6_readSimple_74 rfl ?_
    refine ar_isub 77 rfl d_X6_readSimple_76 ?_
    refine ar_callV0 (M' := mX6_lay) (As := [_, _]) (ls' := [Va _, Vi _, Vi _]) 80 rfl d_X6_readSimple_77 ml_X6_122 mt_X6_lay (by assumption) rfl (Nat.le_of_ble_eq_true rfl) rfl (Nat.le_of_ble_eq_true rfl) (by omega) ?_
    refine sp_X6_lay hS hC.2.1 (by omega) ?_
    have hC2 := hC.lay (y := (0, sg cs i - 97)) (w := 0) (v := sg cs i - 97) (by unfold oK; rw [if_pos rfl, if_pos (by show sg cs i - 97 < 20; omega)]) (by unfold oA; rw [if_neg (by show ¬ (_ ∧ 20 ≤ sg cs i - 97); omega)])
    have hS2 : Sh6 (wI (wI (wI σ 632 c.length 0) 633 c.length (sg cs i - 97)) 625 10 ((c.length + 1 : Nat) : Int)) := hS.e rfl
    have hf2 : FrC σ (wI (wI (wI σ 632 c.length 0) 633 c.length (sg cs i - 97)) 625 10 ((c.length + 1 : Nat) : Int)) := (FrC.w (by omega)).tr ((FrC.w (by omega)).tr (FrC.w (by omega)))
    generalize wI (wI (wI σ 632 c.length 0) 633 c.length (sg cs i - 97)) 625 10 ((c.length + 1 : Nat) : Int) = σ2 at hC2 hS2 hf2
    have k625 := hS2.k625
    refine ar_aload_n 81 rfl d_X6_readSimple_80 rfl ?_
    refine ar_dup 82 rfl d_X6_readSimple_81 (fun _ => rfl) ?_
    refine ar_giv (y := (i : Int)) 85 rfl d_X6_readSimple_82 fl_X6_97 rfl (by assumption) hC2.1 ?_
    refine ar_iconst 86 rfl d_X6_readSimple_85 ?_
    refine ar_iadd 87 rfl d_X6_readSimple_86 ?_
    refine ar_top (y := ((i + 1 : Nat) : Int)) (by omega) ?_
    refine ar_putI 90 rfl d_X6_readSimple_87 fl_X6_97 rfl rfl (by assumption) ?_
    refine ar_iconst 91 rfl d_X6_readSimple_90 ?_
    refine WA.ret (some (Vi _)) ⟨d_X6_readSimple_91, rfl, Or.inr ⟨rfl, Or.inr rfl⟩⟩ ?_
    exact KT _ (i + 1) _ 3 W (hf.tr (hf2.tr (FrC.w (by omega)))) (hC2.sp (i + 1)) hR2 (by decide) Aft.three (by omega)
  · refine ar_if_eq 92 71 rfl rfl d_X6_readSimple_68 (by omega) (fun g68 => ?_) (fun h => absurd h (by decide))
    refine ar_iload_n 93 rfl d_X6_readSimple_92 rfl ?_
    refine ar_bipush 95 rfl d_X6_readSimple_93 rfl ?_
    refine ar_icmp_ne 151 98 rfl rfl d_X6_readSimple_95 (by first | exact hsi | (constructor <;> omega)) (by first | exact hsi | (constructor <;> omega)) (fun g95 => ?_) (fun g95 => ?_)
    · refine ar_iload_n 152 rfl d_X6_readSimple_151 rfl ?_
      refine ar_i2l 153 rfl d_X6_readSimple_152 hsi ?_
      refine ar_ldc2 48 156 rfl d_X6_readSimple_153 lc_X6_125 rfl ?_
      refine ar_ldc2 57 159 rfl d_X6_readSimple_156 lc_X6_129 rfl ?_
      refine ar_callS0 (M' := mX6_in) (As := [_, _, _]) (ls' := [Vl _, Vu, Vl _, Vu, Vl _, Vu]) 162 rfl d_X6_readSimple_159 ml_X6_91 mt_X6_in rfl (Nat.le_of_ble_eq_true rfl) rfl (Nat.le_of_ble_eq_true rfl) (by omega) ?_
      refine sp_X6_in (by constructor <;> omega) (by constructor <;> omega) (by constructor <;> omega) (fun g2 => ?_) (fun g2 => ?_)
      · have hget : cs[i]? = some (sg cs i) := sg_get (by omega)
        have hlt := (List.getElem?_eq_some_iff.mp hget).1
        have hR2 : Rd cs (i + 1) (c ++ [(1, sg cs i - 48)], 2, W) := hR.next hp hget (by
          rw [stp_g, if_pos rfl, if_neg hch, if_neg hch2, if_neg g95, if_pos (by omega)])
        have hC2 := hC.sp (i + 1)
        have hS2 : Sh6 (wI σ 625 14 ((i + 1 : Nat) : Int)) := hS.e rfl
        have hf2 : FrC σ (wI σ 625 14 ((i + 1 : Nat) : Int)) := FrC.w (by omega)
        have h226 : ∀ (σ3 : Sg) (j : Nat) (v : Int), FrC σ σ3 → Sh6 σ3 → Cp σ3 cs j c W → Rd cs j (c ++ [(1, v)], 2, W) → Aft cs j (c ++ [(1, v)]) 2 W → i0 < j → WA G d k n mX6_readSimple 226 [Va 625, Vi (sg cs i), Vi v] [] σ3 Q := by
          intro σ3 j v q1 q2 q3 q4 q5 q6
          have k625 := q2.k625
          refine ar_aload_n 227 rfl d_X6_readSimple_226 rfl ?_
          refine ar_iconst 228 rfl d_X6_readSimple_227 ?_
          refine ar_iload_n 229 rfl d_X6_readSimple_228 rfl ?_
          refine ar_callV0 (M' := mX6_lay) (As := [_, _]) (ls' := [Va _, Vi _, Vi _]) 232 rfl d_X6_readSimple_229 ml_X6_122 mt_X6_lay (by assumption) rfl (Nat.le_of_ble_eq_true rfl) rfl (Nat.le_of_ble_eq_true rfl) (by omega) ?_
          refine sp_X6_lay q2 q3.2.1 (by omega) ?_
          have hC3 := q3.lay (y := (1, v)) (w := 2) (v := v) rfl (by unfold oA; rw [if_neg (by show ¬ ((1 : Int) = 0 ∧ _); omega)])
          have hf3 : FrC σ3 (wI (wI (wI σ3 632 c.length 2) 633 c.length v) 625 10 ((c.length + 1 : Nat) : Int)) := (FrC.w (by omega)).tr ((FrC.w (by omega)).tr (FrC.w (by omega)))
          refine ar_iconst 233 rfl d_X6_readSimple_232 ?_
          refine WA.ret (some (Vi _)) ⟨d_X6_readSimple_233, rfl, Or.inr ⟨rfl, Or.inr rfl⟩⟩ ?_
          exact KT _ j _ 2 W (hf.tr (q1.tr hf3)) hC3 q4 (by decide) q5 q6
        refine ar_if_ne 167 165 rfl rfl d_X6_readSimple_162 (by omega) (fun g162 => ?_) (fun h => absurd h (by decide))
        refine ar_iload_n 168 rfl d_X6_readSimple_167 rfl ?_
        refine ar_bipush 170 rfl d_X6_readSimple_168 rfl ?_
        refine ar_isub 171 rfl d_X6_readSimple_170 ?_
        refine ar_top (y := sg cs i - 48) rfl ?_
        refine ar_ist_2 172 rfl d_X6_readSimple_171 rfl (by intro _ h; cases h) ?_
        refine ar_aload_n 173 rfl d_X6_readSimple_172 rfl ?_
        refine ar_dup 174 rfl d_X6_readSimple_173 (fun _ => rfl) ?_
        refine ar_giv (y := (i : Int)) 177 rfl d_X6_readSimple_174 fl_X6_97 rfl (by assumption) hC.1 ?_
        refine ar_iconst 178 rfl d_X6_readSimple_177 ?_
        refine ar_iadd 179 rfl d_X6_readSimple_178 ?_
        refine ar_top (y := ((i + 1 : Nat) : Int)) (by omega) ?_
        refine ar_putI 182 rfl d_X6_readSimple_179 fl_X6_97 rfl rfl (by assumption) ?_
        generalize wI σ 625 14 ((i + 1 : Nat) : Int) = σ2 at hC2 hS2 hf2 ⊢
        have k625 := hS2.k625
        refine ar_iload_n 183 rfl d_X6_readSimple_182 rfl ?_
        refine ar_if_le 226 186 rfl rfl d_X6_readSimple_183 (by constructor <;> omega) (fun g183 => ?_) (fun g183 => ?_)
        · refine h226 σ2 (i + 1) (sg cs i - 48) hf2 hS2 hC2 hR2 (Aft.two (fun ch _ _ => Or.inl (by omega))) (by omega)
        · refine ar_aload_n 187 rfl d_X6_readSimple_186 rfl ?_
          refine ar_callV0 (M' := mX6_sign) (As := []) (ls' := [Va _]) 190 rfl d_X6_readSimple_187 ml_X6_110 mt_X6_sign (by assumption) rfl (Nat.le_of_ble_eq_true rfl) rfl (Nat.le_of_ble_eq_true rfl) (by omega) ?_
          refine sp_X6_sign hS2 hC2 hp.1 (by omega) ?_
          refine ar_i2l 191 rfl d_X6_readSimple_190 hsi2 ?_
          refine ar_ldc2 48 194 rfl d_X6_readSimple_191 lc_X6_125 rfl ?_
          refine ar_ldc2 57 197 rfl d_X6_readSimple_194 lc_X6_129 rfl ?_
          refine ar_callS0 (M' := mX6_in) (As := [_, _, _]) (ls' := [Vl _, Vu, Vl _, Vu, Vl _, Vu]) 200 rfl d_X6_readSimple_197 ml_X6_91 mt_X6_in rfl (Nat.le_of_ble_eq_true rfl) rfl (Nat.le_of_ble_eq_true rfl) (by omega) ?_
          refine sp_X6_in (by constructor <;> omega) (by constructor <;> omega) (by constructor <;> omega) (fun g3 => ?_) (fun g3 => ?_)
          · have hget2 : cs[i + 1]? = some (sg cs (i + 1)) := sg_get (by omega)
            have hlt2 := (List.getElem?_eq_some_iff.mp hget2).1
            have hR3 : Rd cs (i + 1 + 1) (c ++ [(1, (sg cs i - 48) * 10 + (sg cs (i + 1) - 48))], 2, W) := hR2.next hp hget2 (by
              rw [stp_g, if_neg (by decide), if_neg (by decide), if_pos ⟨rfl, by omega⟩, lastO_end]
              rw [if_neg (by show ¬ (sg cs i - 48 = 0 ∨ 100 ≤ (sg cs i - 48) * 10 + (sg cs (i + 1) - 48)); omega)]
              rw [show (c ++ [((1 : Int), sg cs i - 48)]).length - 1 = c.length by simp, setO_end])
            have hC3 := hC2.sp (i + 1 + 1)
            have hS3 : Sh6 (wI σ2 625 14 ((i + 1 + 1 : Nat) : Int)) := hS2.e rfl
            have hf3 : FrC σ2 (wI σ2 625 14 ((i + 1 + 1 : Nat) : Int)) := FrC.w (by omega)
            refine ar_if_eq 226 203 rfl rfl d_X6_readSimple_200 (by omega) (fun h => absurd h (by decide)) (fun g200 => ?_)
            refine ar_bipush 205 rfl d_X6_readSimple_203 rfl ?_
            refine ar_iload_n 206 rfl d_X6_readSimple_205 rfl ?_
            refine ar_imul 207 rfl d_X6_readSimple_206 ?_
            refine ar_aload_n 208 rfl d_X6_readSimple_207 rfl ?_
            refine ar_callV0 (M' := mX6_sign) (As := []) (ls' := [Va _]) 211 rfl d_X6_readSimple_208 ml_X6_110 mt_X6_sign (by assumption) rfl (Nat.le_of_ble_eq_true rfl) rfl (Nat.le_of_ble_eq_true rfl) (by omega) ?_
            refine sp_X6_sign hS2 hC2 hp.1 (by omega) ?_
            refine ar_iadd 212 rfl d_X6_readSimple_211 ?_
            refine ar_bipush 214 rfl d_X6_readSimple_212 rfl ?_
            refine ar_isub 215 rfl d_X6_readSimple_214 ?_
            refine ar_top (y := (sg cs i - 48) * 10 + (sg cs (i + 1) - 48)) (by omega) ?_
            refine ar_ist_2 216 rfl d_X6_readSimple_215 rfl (by intro _ h; cases h) ?_
            refine ar_aload_n 217 rfl d_X6_readSimple_216 rfl ?_
            refine ar_dup 218 rfl d_X6_readSimple_217 (fun _ => rfl) ?_
            refine ar_giv (y := ((i + 1 : Nat) : Int)) 221 rfl d_X6_readSimple_218 fl_X6_97 rfl (by assumption) hC2.1 ?_
            refine ar_iconst 222 rfl d_X6_readSimple_221 ?_
            refine ar_iadd 223 rfl d_X6_readSimple_222 ?_
            refine ar_top (y := ((i + 1 + 1 : Nat) : Int)) (by omega) ?_
            refine ar_putI 226 rfl d_X6_readSimple_223 fl_X6_97 rfl rfl (by assumption) ?_
            exact h226 _ (i + 1 + 1) _ (hf2.tr hf3) hS3 hC3 hR3 (Aft.two (fun ch _ hd => Or.inr (by omega))) (by omega)
          · refine ar_if_eq 226 203 rfl rfl d_X6_readSimple_200 (by omega) (fun g200 => ?_) (fun h => absurd h (by decide))
            refine h226 σ2 (i + 1) (sg cs i - 48) hf2 hS2 hC2 hR2 (Aft.two (fun ch hc9 hd => ?_)) (by omega)
            rw [sg_some hc9] at g3
            omega
      · refine ar_if_ne 167 165 rfl rfl d_X6_readSimple_162 (by omega) (fun h => absurd h (by decide)) (fun g162 => ?_)
        refine ar_iconst 166 rfl d_X6_readSimple_165 ?_
        refine WA.ret (some (Vi _)) ⟨d_X6_readSimple_166, rfl, Or.inr ⟨rfl, Or.inl rfl⟩⟩ ?_
        exact KF _ i hf hC.1 (hR.stuck0 hch hch2 g95 (by omega) (by omega))
    · have hget : cs[i]? = some (sg cs i) := sg_get (by omega)
      have hlt := (List.getElem?_eq_some_iff.mp hget).1
      have hR2 : Rd cs (i + 1) (c, 1, W) := hR.next hp hget (by
        rw [stp_g, if_pos rfl, if_neg hch, if_neg hch2, if_pos g95])
      have hC2 := hC.sp (i + 1)
      have hS2 : Sh6 (wI σ 625 14 ((i + 1 : Nat) : Int)) := hS.e rfl
      have hf2 : FrC σ (wI σ 625 14 ((i + 1 : Nat) : Int)) := FrC.w (by omega)
      refine ar_aload_n 99 rfl d_X6_readSimple_98 rfl ?_
      refine ar_dup 100 rfl d_X6_readSimple_99 (fun _ => rfl) ?_
      refine ar_giv (y := (i : Int)) 103 rfl d_X6_readSimple_100 fl_X6_97 rfl (by assumption) hC.1 ?_
      refine ar_iconst 104 rfl d_X6_readSimple_103 ?_
      refine ar_iadd 105 rfl d_X6_readSimple_104 ?_
      refine ar_top (y := ((i + 1 : Nat) : Int)) (by omega) ?_
      refine ar_putI 108 rfl d_X6_readSimple_105 fl_X6_97 rfl rfl (by assumption) ?_
      generalize wI σ 625 14 ((i + 1 : Nat) : Int) = σ2 at hC2 hS2 hf2 ⊢
      have k625 := hS2.k625
      refine ar_aload_n 109 rfl d_X6_readSimple_108 rfl ?_
      refine ar_callV0 (M' := mX6_sign) (As := []) (ls' := [Va _]) 112 rfl d_X6_readSimple_109 ml_X6_110 mt_X6_sign (by assumption) rfl (Nat.le_of_ble_eq_true rfl) rfl (Nat.le_of_ble_eq_true rfl) (by omega) ?_
      refine sp_X6_sign hS2 hC2 hp.1 (by omega) ?_
      refine ar_i2l 113 rfl d_X6_readSimple_112 hsi2 ?_
      refine ar_ldc2 48 116 rfl d_X6_readSimple_113 lc_X6_125 rfl ?_
      refine ar_ldc2 52 119 rfl d_X6_readSimple_116 lc_X6_127 rfl ?_
      refine ar_callS0 (M' := mX6_in) (As := [_, _, _]) (ls' := [Vl _, Vu, Vl _, Vu, Vl _, Vu]) 122 rfl d_X6_readSimple_119 ml_X6_91 mt_X6_in rfl (Nat.le_of_ble_eq_true rfl) rfl (Nat.le_of_ble_eq_true rfl) (by omega) ?_
      refine sp_X6_in (by constructor <;> omega) (by constructor <;> omega) (by constructor <;> omega) (fun g2 => ?_) (fun g2 => ?_)
      · have hget2 : cs[i + 1]? = some (sg cs (i + 1)) := sg_get (by omega)
        have hlt2 := (List.getElem?_eq_some_iff.mp hget2).1
        have hR3 : Rd cs (i + 1 + 1) (c ++ [(0, 20 + (sg cs (i + 1) - 48))], 3, W) := hR2.next hp hget2 (by
          rw [stp_g, if_neg (by decide), if_pos rfl, if_pos (by omega)])
        refine ar_if_ne 127 125 rfl rfl d_X6_readSimple_122 (by omega) (fun g122 => ?_) (fun h => absurd h (by decide))
        refine ar_aload_n 128 rfl d_X6_readSimple_127 rfl ?_
        refine ar_iconst 129 rfl d_X6_readSimple_128 ?_
        refine ar_aload_n 130 rfl d_X6_readSimple_129 rfl ?_
        refine ar_callV0 (M' := mX6_sign) (As := []) (ls' := [Va _]) 133 rfl d_X6_readSimple_130 ml_X6_110 mt_X6_sign (by assumption) rfl (Nat.le_of_ble_eq_true rfl) rfl (Nat.le_of_ble_eq_true rfl) (by omega) ?_
        refine sp_X6_sign hS2 hC2 hp.1 (by omega) ?_
        refine ar_bipush 135 rfl d_X6_readSimple_133 rfl ?_
        refine ar_isub 136 rfl d_X6_readSimple_135 ?_
        refine ar_callV0 (M' := mX6_lay) (As := [_, _]) (ls' := [Va _, Vi _, Vi _]) 139 rfl d_X6_readSimple_136 ml_X6_122 mt_X6_lay (by assumption) rfl (Nat.le_of_ble_eq_true rfl) rfl (Nat.le_of_ble_eq_true rfl) (by omega) ?_
        refine sp_X6_lay hS2 hC2.2.1 (by omega) ?_
        have hC3 := hC2.lay (y := (0, 20 + (sg cs (i + 1) - 48))) (w := 1) (v := sg cs (i + 1) - 48) (by unfold oK; rw [if_pos rfl, if_neg (by show ¬ (20 + (sg cs (i + 1) - 48) < 20); omega)]) (by unfold oA; rw [if_pos (by refine ⟨rfl, ?_⟩; show 20 ≤ 20 + (sg cs (i + 1) - 48); omega)]; show 20 + (sg cs (i + 1) - 48) - 20 = _; omega)
        have hS3 : Sh6 (wI (wI (wI σ2 632 c.length 1) 633 c.length (sg cs (i + 1) - 48)) 625 10 ((c.length + 1 : Nat) : Int)) := hS2.e rfl
        have hf3 : FrC σ2 (wI (wI (wI σ2 632 c.length 1) 633 c.length (sg cs (i + 1) - 48)) 625 10 ((c.length + 1 : Nat) : Int)) := (FrC.w (by omega)).tr ((FrC.w (by omega)).tr (FrC.w (by omega)))
        generalize wI (wI (wI σ2 632 c.length 1) 633 c.length (sg cs (i + 1) - 48)) 625 10 ((c.length + 1 : Nat) : Int) = σ3 at hC3 hS3 hf3
        have k625 := hS3.k625
        refine ar_aload_n 140 rfl d_X6_readSimple_139 rfl ?_
        refine ar_dup 141 rfl d_X6_readSimple_140 (fun _ => rfl) ?_
        refine ar_giv (y := ((i + 1 : Nat) : Int)) 144 rfl d_X6_readSimple_141 fl_X6_97 rfl (by assumption) hC3.1 ?_
        refine ar_iconst 145 rfl d_X6_readSimple_144 ?_
        refine ar_iadd 146 rfl d_X6_readSimple_145 ?_
        refine ar_top (y := ((i + 1 + 1 : Nat) : Int)) (by omega) ?_
        refine ar_putI 149 rfl d_X6_readSimple_146 fl_X6_97 rfl rfl (by assumption) ?_
        refine ar_iconst 150 rfl d_X6_readSimple_149 ?_
        refine WA.ret (some (Vi _)) ⟨d_X6_readSimple_150, rfl, Or.inr ⟨rfl, Or.inr rfl⟩⟩ ?_
        exact KT _ (i + 1 + 1) _ 3 W (hf.tr (hf2.tr (hf3.tr (FrC.w (by omega))))) (hC3.sp (i + 1 + 1)) hR3 (by decide) Aft.three (by omega)
      · refine ar_if_ne 127 125 rfl rfl d_X6_readSimple_122 (by omega) (fun h => absurd h (by decide)) (fun g122 => ?_)
        refine ar_iconst 126 rfl d_X6_readSimple_125 ?_
        refine WA.ret (some (Vi _)) ⟨d_X6_readSimple_126, rfl, Or.inr ⟨rfl, Or.inl rfl⟩⟩ ?_
        exact KF _ (i + 1) (hf.tr hf2) hC2.1 (hR2.stuck1 (by omega))
set_option maxHeartbeats 8000000 in
theorem sp_X6_goOut {cs : List Int} {j0 : Nat} {σ0 : Sg} (hp : Pok cs) (hdp : 2 ≤ d)
    (K0 : ∀ (σ' : Sg) (j : Nat), FrC σ0 σ' → hI σ' 625 14 = (j : Int) → ffA cs = (j : Int) → Q (some (Vi 0)) σ')
    (K1 : ∀ (σ' : Sg) (j : Nat) (c' : Rcpe) (W' : List (Int × Nat)), FrC σ0 σ' → Cp σ' cs j c' W' → Rd cs j (c', 0, W') → j0 < j → Q (some (Vi 1)) σ')
    (K2 : ∀ (σ' : Sg) (j : Nat) (c' : Rcpe) (g' : Nat), FrC σ0 σ' → Cp σ' cs j c' [] → Rd cs j (c', g', []) → 2 ≤ g' → Aft cs j c' g' [] → Q (some (Vi 2)) σ') :
    ∀ (r j : Nat) (c : Rcpe) (g : Nat) (W : List (Int × Nat)) (σ : Sg) (x1 x2 x3 : AV), cs.length - j = r → j0 ≤ j → FrC σ0 σ → Sh6 σ → Cp σ cs j c W → Rd cs j (c, g, W) → 2 ≤ g → Aft cs j c g W → WA G d k n mX6_goOut 0 [Va 625, x1, x2, x3] [] σ Q := by
  intro r
  induction r using Nat.strongRecOn with
  | ind r ih =>
  intro j c g W σ x1 x2 x3 hr9 hj0 hf hS hC hR hg haf
  obtain ⟨b1, b2, b3, b4, b5⟩ := hR.bd hp
  have hsj := sg_i hp j
  have k625 := hS.k625
  have r11 := hS.r11
  have k634 := hS.k634
  have r12 := hS.r12
  have k635 := hS.k635
  have r9 := hS.r9
  have k633 := hS.k633
  cases W with
  | nil =>
    have h13 : hI σ 625 13 = 0 := hC.2.2.1
    refine ar_aload_n 1 rfl d_X6_goOut_0 rfl ?_
    refine ar_giv (y := (0 : Int)) 4 rfl d_X6_goOut_1 fl_X6_107 rfl (by assumption) h13 ?_
    refine ar_if_le 270 7 rfl rfl d_X6_goOut_4 (by omega) (fun g4 => ?_) (fun h => absurd (Int.le_refl 0) h)
    refine ar_iconst 271 rfl d_X6_goOut_270 ?_
    refine WA.ret (some (Vi _)) ⟨d_X6_goOut_271, rfl, Or.inl rfl⟩ ?_
    exact K2 σ j c g hf hC hR hg haf
  | cons x T =>
    obtain ⟨o, e⟩ := x
    have hok : OkW c (o, e) := hR.2.2.1.2.2.2.2.1 (o, e) List.mem_cons_self
    have hTl : T.length + 1 ≤ j := b2
    have ht := hC.top
    have ht1 := ht.1
    have ht2 := ht.2.1
    have ht3 := ht.2.2
    by_cases w10 : o = 10
    · have hdk : dK (o, e) = 43 := by unfold dK; rw [if_pos w10]
      have hdw : dW (o, e) = (e : Int) := by unfold dW; rw [if_neg (by show ¬ (2 ≤ o ∧ o ≤ 4); omega)]
      refine ar_aload_n 1 rfl d_X6_goOut_0 rfl ?_
      refine ar_giv (y := ((T.length + 1 : Nat) : Int)) 4 rfl d_X6_goOut_1 fl_X6_107 rfl (by assumption) ht1 ?_
      refine ar_if_le 270 7 rfl rfl d_X6_goOut_4 (by omega) (fun h => by omega) (fun g4 => ?_)
      refine ar_aload_n 8 rfl d_X6_goOut_7 rfl ?_
      refine ar_callV0 (M' := mX6_sign) (As := []) (ls' := [Va _]) 11 rfl d_X6_goOut_8 ml_X6_110 mt_X6_sign (by assumption) rfl (Nat.le_of_ble_eq_true rfl) rfl (Nat.le_of_ble_eq_true rfl) (by omega) ?_
      refine sp_X6_sign hS hC hp.1 (by omega) ?_
      refine ar_ist_1 12 rfl d_X6_goOut_11 rfl (by intro _ h; cases h) ?_
      refine ar_aload_n 13 rfl d_X6_goOut_12 rfl ?_
      refine ar_getA 16 rfl d_X6_goOut_13 fl_X6_35 rfl (by assumption) (by assumption) ?_
      refine ar_aload_n 17 rfl d_X6_goOut_16 rfl ?_
      refine ar_giv (y := ((T.length + 1 : Nat) : Int)) 20 rfl d_X6_goOut_17 fl_X6_107 rfl (by assumption) ht1 ?_
      refine ar_iconst 21 rfl d_X6_goOut_20 ?_
      refine ar_isub 22 rfl d_X6_goOut_21 ?_
      refine ar_top (y := (T.length : Int)) (by omega) ?_
      refine ar_ilv (y := (43 : Int)) 23 rfl d_X6_goOut_22 (by assumption) (by omega) (by rw [Int.toNat_natCast, ht2]; exact hdk) ?_
      refine ar_ist_2 24 rfl d_X6_goOut_23 rfl (by intro _ h; cases h) ?_
      refine ar_aload_n 25 rfl d_X6_goOut_24 rfl ?_
      refine ar_getA 28 rfl d_X6_goOut_25 fl_X6_38 rfl (by assumption) (by assumption) ?_
      refine ar_aload_n 29 rfl d_X6_goOut_28 rfl ?_
      refine ar_giv (y := ((T.length + 1 : Nat) : Int)) 32 rfl d_X6_goOut_29 fl_X6_107 rfl (by assumption) ht1 ?_
      refine ar_iconst 33 rfl d_X6_goOut_32 ?_
      refine ar_isub 34 rfl d_X6_goOut_33 ?_
      refine ar_top (y := (T.length : Int)) (by omega) ?_
      refine ar_ilv (y := (e : Int)) 35 rfl d_X6_goOut_34 (by assumption) (by omega) (by rw [Int.toNat_natCast, ht3]; exact hdw) ?_
      refine ar_ist_3 36 rfl d_X6_goOut_35 rfl (by intro _ h; cases h) ?_
      refine ar_iload_n 37 rfl d_X6_goOut_36 rfl ?_
      refine ar_bipush 39 rfl d_X6_goOut_37 rfl ?_
      refine ar_icmp_ne 119 42 rfl rfl d_X6_goOut_39 (by omega) (by omega) (fun h => absurd rfl h) (fun g39 => ?_)
      refine ar_iload_n 43 rfl d_X6_goOut_42 rfl ?_
      refine ar_bipush 45 rfl d_X6_goOut_43 rfl ?_
      refine ar_icmp_eq 62 48 rfl rfl d_X6_goOut_45 (by first | exact hsj | (constructor <;> omega)) (by first | exact hsj | (constructor <;> omega)) (fun hch => ?_) (fun hch => ?_)
      · have hget : cs[j]? = some (sg cs j) := sg_get (by omega)
        have hlt := (List.getElem?_eq_some_iff.mp hget).1
        have hR2 : Rd cs (j + 1) (c, 0, (2, e) :: T) := hR.next hp hget (by
          rw [haf _ hget]
          unfold aft
          simp only []
          rw [if_pos w10, if_pos hch])
        have hC2 := hC.sp (j + 1)
        have hS2 : Sh6 (wI σ 625 14 ((j + 1 : Nat) : Int)) := hS.e rfl
        have hf2 : FrC σ (wI σ 625 14 ((j + 1 : Nat) : Int)) := FrC.w (by omega)
        refine ar_aload_n 63 rfl d_X6_goOut_62 rfl ?_
        refine ar_dup 64 rfl d_X6_goOut_63 (fun _ => rfl) ?_
        refine ar_giv (y := (j : Int)) 67 rfl d_X6_goOut_64 fl_X6_97 rfl (by assumption) hC.1 ?_
        refine ar_iconst 68 rfl d_X6_goOut_67 ?_
        refine ar_iadd 69 rfl d_X6_goOut_68 ?_
        refine ar_top (y := ((j + 1 : Nat) : Int)) (by omega) ?_
        refine ar_putI 72 rfl d_X6_goOut_69 fl_X6_97 rfl rfl (by assumption) ?_
        generalize wI σ 625 14 ((j + 1 : Nat) : Int) = σ2 at hC2 hS2 hf2 ⊢
        have ht1 := hC2.top.1
        have c10 := hC2.2.1
        have k625 := hS2.k625
        have r11 := hS2.r11
        have k634 := hS2.k634
        have r12 := hS2.r12
        have k635 := hS2.k635
        have r9 := hS2.r9
        have k633 := hS2.k633
        refine ar_aload_n 73 rfl d_X6_goOut_72 rfl ?_
        refine ar_getA 76 rfl d_X6_goOut_73 fl_X6_35 rfl (by assumption) (by assumption) ?_
        refine ar_aload_n 77 rfl d_X6_goOut_76 rfl ?_
        refine ar_giv (y := ((T.length + 1 : Nat) : Int)) 80 rfl d_X6_goOut_77 fl_X6_107 rfl (by assumption) ht1 ?_
        refine ar_iconst 81 rfl d_X6_goOut_80 ?_
        refine ar_isub 82 rfl d_X6_goOut_81 ?_
        refine ar_top (y := (T.length : Int)) (by omega) ?_
        refine ar_bipush 84 rfl d_X6_goOut_82 rfl ?_
        refine ar_iasN T.length 85 rfl d_X6_goOut_84 (by assumption) (by omega) (by omega) ?_
        refine ar_aload_n 86 rfl d_X6_goOut_85 rfl ?_
        refine ar_getA 89 rfl d_X6_goOut_86 fl_X6_38 rfl (by assumption) (by assumption) ?_
        refine ar_aload_n 90 rfl d_X6_goOut_89 rfl ?_
        refine ar_giv (y := ((T.length + 1 : Nat) : Int)) 93 rfl d_X6_goOut_90 fl_X6_107 rfl (by assumption) (by rw [hI_off (by omega)]; exact ht1) ?_
        refine ar_iconst 94 rfl d_X6_goOut_93 ?_
        refine ar_isub 95 rfl d_X6_goOut_94 ?_
        refine ar_top (y := (T.length : Int)) (by omega) ?_
        refine ar_iload_n 96 rfl d_X6_goOut_95 rfl ?_
        refine ar_bipush 98 rfl d_X6_goOut_96 rfl ?_
        refine ar_icmp_ne 105 101 rfl rfl d_X6_goOut_98 (by omega) (by omega) (fun h => absurd hch h) (fun g98 => ?_)
        refine ar_iconst 102 rfl d_X6_goOut_101 ?_
        refine ar_goto 116 rfl d_X6_goOut_102 ?_
        refine ar_iasN T.length 117 rfl d_X6_goOut_116 (by assumption) (by omega) (by omega) ?_
        refine ar_iconst 118 rfl d_X6_goOut_117 ?_
        refine WA.ret (some (Vi _)) ⟨d_X6_goOut_118, rfl, Or.inl rfl⟩ ?_
        refine K1 _ (j + 1) c ((2, e) :: T) (hf.tr (hf2.tr ((FrC.w (by omega)).tr (FrC.w (by omega))))) (hC2.chg (y := (2, e)) rfl rfl) hR2 (by omega)
      · refine ar_iload_n 49 rfl d_X6_goOut_48 rfl ?_
        refine ar_bipush 51 rfl d_X6_goOut_49 rfl ?_
        refine ar_icmp_eq 62 54 rfl rfl d_X6_goOut_51 (by first | exact hsj | (constructor <;> omega)) (by first | exact hsj | (constructor <;> omega)) (fun hch => ?_) (fun hch => ?_)
        · have hget : cs[j]? = some (sg cs j) := sg_get (by omega)
          have hlt := (List.getElem?_eq_some_iff.mp hget).1
          have hR2 : Rd cs (j + 1) (c, 0, (3, e) :: T) := hR.next hp hget (by
            rw [haf _ hget]
            unfold aft
            simp only []
            rw [if_pos w10, if_neg (by omega), if_pos hch])
          have hC2 := hC.sp (j + 1)
          have hS2 : Sh6 (wI σ 625 14 ((j + 1 : Nat) : Int)) := hS.e rfl
          have hf2 : FrC σ (wI σ 625 14 ((j + 1 : Nat) : Int)) := FrC.w (by omega)
          refine ar_aload_n 63 rfl d_X6_goOut_62 rfl ?_
          refine ar_dup 64 rfl d_X6_goOut_63 (fun _ => rfl) ?_
          refine ar_giv (y := (j : Int)) 67 rfl d_X6_goOut_64 fl_X6_97 rfl (by assumption) hC.1 ?_
          refine ar_iconst 68 rfl d_X6_goOut_67 ?_
          refine ar_iadd 69 rfl d_X6_goOut_68 ?_
          refine ar_top (y := ((j + 1 : Nat) : Int)) (by omega) ?_
          refine ar_putI 72 rfl d_X6_goOut_69 fl_X6_97 rfl rfl (by assumption) ?_
          generalize wI σ 625 14 ((j + 1 : Nat) : Int) = σ2 at hC2 hS2 hf2 ⊢
          have ht1 := hC2.top.1
          have c10 := hC2.2.1
          have k625 := hS2.k625
          have r11 := hS2.r11
          have k634 := hS2.k634
          have r12 := hS2.r12
          have k635 := hS2.k635
          have r9 := hS2.r9
          have k633 := hS2.k633
          refine ar_aload_n 73 rfl d_X6_goOut_72 rfl ?_
          refine ar_getA 76 rfl d_X6_goOut_73 fl_X6_35 rfl (by assumption) (by assumption) ?_
          refine ar_aload_n 77 rfl d_X6_goOut_76 rfl ?_
          refine ar_giv (y := ((T.length + 1 : Nat) : Int)) 80 rfl d_X6_goOut_77 fl_X6_107 rfl (by assumption) ht1 ?_
          refine ar_iconst 81 rfl d_X6_goOut_80 ?_
          refine ar_isub 82 rfl d_X6_goOut_81 ?_
          refine ar_top (y := (T.length : Int)) (by omega) ?_
          refine ar_bipush 84 rfl d_X6_goOut_82 rfl ?_
          refine ar_iasN T.length 85 rfl d_X6_goOut_84 (by assumption) (by omega) (by omega) ?_
          refine ar_aload_n 86 rfl d_X6_goOut_85 rfl ?_
          refine ar_getA 89 rfl d_X6_goOut_86 fl_X6_38 rfl (by assumption) (by assumption) ?_
          refine ar_aload_n 90 rfl d_X6_goOut_89 rfl ?_
          refine ar_giv (y := ((T.length + 1 : Nat) : Int)) 93 rfl d_X6_goOut_90 fl_X6_107 rfl (by assumption) (by rw [hI_off (by omega)]; exact ht1) ?_
          refine ar_iconst 94 rfl d_X6_goOut_93 ?_
          refine ar_isub 95 rfl d_X6_goOut_94 ?_
          refine ar_top (y := (T.length : Int)) (by omega) ?_
          refine ar_iload_n 96 rfl d_X6_goOut_95 rfl ?_
          refine ar_bipush 98 rfl d_X6_goOut_96 rfl ?_
          refine ar_icmp_ne 105 101 rfl rfl d_X6_goOut_98 (by omega) (by omega) (fun g98 => ?_) (fun h => by omega)
          refine ar_iload_n 106 rfl d_X6_goOut_105 rfl ?_
          refine ar_bipush 108 rfl d_X6_goOut_106 rfl ?_
          refine ar_icmp_ne 115 111 rfl rfl d_X6_goOut_108 (by omega) (by omega) (fun h => absurd hch h) (fun g108 => ?_)
          refine ar_iconst 112 rfl d_X6_goOut_111 ?_
          refine ar_goto 116 rfl d_X6_goOut_112 ?_
          refine ar_iasN T.length 117 rfl d_X6_goOut_116 (by assumption) (by omega) (by omega) ?_
          refine ar_iconst 118 rfl d_X6_goOut_117 ?_
          refine WA.ret (some (Vi _)) ⟨d_X6_goOut_118, rfl, Or.inl rfl⟩ ?_
          refine K1 _ (j + 1) c ((3, e) :: T) (hf.tr (hf2.tr ((FrC.w (by omega)).tr (FrC.w (by omega))))) (hC2.chg (y := (3, e)) rfl rfl) hR2 (by omega)
        · refine ar_iload_n 55 rfl d_X6_goOut_54 rfl ?_
          refine ar_bipush 57 rfl d_X6_goOut_55 rfl ?_
          refine ar_icmp_eq 62 60 rfl rfl d_X6_goOut_57 (by first | exact hsj | (constructor <;> omega)) (by first | exact hsj | (constructor <;> omega)) (fun hch => ?_) (fun hch => ?_)
          · have hget : cs[j]? = some (sg cs j) := sg_get (by omega)
            have hlt := (List.getElem?_eq_some_iff.mp hget).1
            have hR2 : Rd cs (j + 1) (c, 0, (4, e) :: T) := hR.next hp hget (by
              rw [haf _ hget]
              unfold aft
              simp only []
              rw [if_pos w10, if_neg (by omega), if_neg (by omega), if_pos hch])
            have hC2 := hC.sp (j + 1)
            have hS2 : Sh6 (wI σ 625 14 ((j + 1 : Nat) : Int)) := hS.e rfl
            have hf2 : FrC σ (wI σ 625 14 ((j + 1 : Nat) : Int)) := FrC.w (by omega)
            refine ar_aload_n 63 rfl d_X6_goOut_62 rfl ?_
            refine ar_dup 64 rfl d_X6_goOut_63 (fun _ => rfl) ?_
            refine ar_giv (y := (j : Int)) 67 rfl d_X6_goOut_64 fl_X6_97 rfl (by assumption) hC.1 ?_
            refine ar_iconst 68 rfl d_X6_goOut_67 ?_
            refine ar_iadd 69 rfl d_X6_goOut_68 ?_
            refine ar_top (y := ((j + 1 : Nat) : Int)) (by omega) ?_
            refine ar_putI 72 rfl d_X6_goOut_69 fl_X6_97 rfl rfl (by assumption) ?_
            generalize wI σ 625 14 ((j + 1 : Nat) : Int) = σ2 at hC2 hS2 hf2 ⊢
            have ht1 := hC2.top.1
            have c10 := hC2.2.1
            have k625 := hS2.k625
            have r11 := hS2.r11
            have k634 := hS2.k634
            have r12 := hS2.r12
            have k635 := hS2.k635
            have r9 := hS2.r9
            have k633 := hS2.k633
            refine ar_aload_n 73 rfl d_X6_goOut_72 rfl ?_
            refine ar_getA 76 rfl d_X6_goOut_73 fl_X6_35 rfl (by assumption) (by assumption) ?_
            refine ar_aload_n 77 rfl d_X6_goOut_76 rfl ?_
            refine ar_giv (y := ((T.length + 1 : Nat) : Int)) 80 rfl d_X6_goOut_77 fl_X6_107 rfl (by assumption) ht1 ?_
            refine ar_iconst 81 rfl d_X6_goOut_80 ?_
            refine ar_isub 82 rfl d_X6_goOut_81 ?_
            refine ar_top (y := (T.length : Int)) (by omega) ?_
            refine ar_bipush 84 rfl d_X6_goOut_82 rfl ?_
            refine ar_iasN T.length 85 rfl d_X6_goOut_84 (by assumption) (by omega) (by omega) ?_
            refine ar_aload_n 86 rfl d_X6_goOut_85 rfl ?_
            refine ar_getA 89 rfl d_X6_goOut_86 fl_X6_38 rfl (by assumption) (by assumption) ?_
            refine ar_aload_n 90 rfl d_X6_goOut_89 rfl ?_
            refine ar_giv (y := ((T.length + 1 : Nat) : Int)) 93 rfl d_X6_goOut_90 fl_X6_107 rfl (by assumption) (by rw [hI_off (by omega)]; exact ht1) ?_
            refine ar_iconst 94 rfl d_X6_goOut_93 ?_
            refine ar_isub 95 rfl d_X6_goOut_94 ?_
            refine ar_top (y := (T.length : Int)) (by omega) ?_
            refine ar_iload_n 96 rfl d_X6_goOut_95 rfl ?_
            refine ar_bipush 98 rfl d_X6_goOut_96 rfl ?_
            refine ar_icmp_ne 105 101 rfl rfl d_X6_goOut_98 (by omega) (by omega) (fun g98 => ?_) (fun h => by omega)
            refine ar_iload_n 106 rfl d_X6_goOut_105 rfl ?_
            refine ar_bipush 108 rfl d_X6_goOut_106 rfl ?_
            refine ar_icmp_ne 115 111 rfl rfl d_X6_goOut_108 (by omega) (by omega) (fun g108 => ?_) (fun h => by omega)
            refine ar_iconst 116 rfl d_X6_goOut_115 ?_
            refine ar_iasN T.length 117 rfl d_X6_goOut_116 (by assumption) (by omega) (by omega) ?_
            refine ar_iconst 118 rfl d_X6_goOut_117 ?_
            refine WA.ret (some (Vi _)) ⟨d_X6_goOut_118, rfl, Or.inl rfl⟩ ?_
            refine K1 _ (j + 1) c ((4, e) :: T) (hf.tr (hf2.tr ((FrC.w (by omega)).tr (FrC.w (by omega))))) (hC2.chg (y := (4, e)) rfl rfl) hR2 (by omega)
          · refine ar_iconst 61 rfl d_X6_goOut_60 ?_
            refine WA.ret (some (Vi _)) ⟨d_X6_goOut_61, rfl, Or.inl rfl⟩ ?_
            exact K0 _ j hf hC.1 (hR.stuckA haf (by
              unfold aft
              simp only []
              rw [if_pos w10, if_neg (by assumption), if_neg (by assumption), if_neg (by assumption)]) (Or.inl (by simp)))
    · by_cases w11 : o = 11
      · have hdk : dK (o, e) = 63 := by unfold dK; rw [if_neg w10, if_pos w11]
        have hdw : dW (o, e) = (e : Int) := by unfold dW; rw [if_neg (by show ¬ (2 ≤ o ∧ o ≤ 4); omega)]
        refine ar_aload_n 1 rfl d_X6_goOut_0 rfl ?_
        refine ar_giv (y := ((T.length + 1 : Nat) : Int)) 4 rfl d_X6_goOut_1 fl_X6_107 rfl (by assumption) ht1 ?_
        refine ar_if_le 270 7 rfl rfl d_X6_goOut_4 (by omega) (fun h => by omega) (fun g4 => ?_)
        refine ar_aload_n 8 rfl d_X6_goOut_7 rfl ?_
        refine ar_callV0 (M' := mX6_sign) (As := []) (ls' := [Va _]) 11 rfl d_X6_goOut_8 ml_X6_110 mt_X6_sign (by assumption) rfl (Nat.le_of_ble_eq_true rfl) rfl (Nat.le_of_ble_eq_true rfl) (by omega) ?_
        refine sp_X6_sign hS hC hp.1 (by omega) ?_
        refine ar_ist_1 12 rfl d_X6_goOut_11 rfl (by intro _ h; cases h) ?_
        refine ar_aload_n 13 rfl d_X6_goOut_12 rfl ?_
        refine ar_getA 16 rfl d_X6_goOut_13 fl_X6_35 rfl (by assumption) (by assumption) ?_
        refine ar_aload_n 17 rfl d_X6_goOut_16 rfl ?_
        refine ar_giv (y := ((T.length + 1 : Nat) : Int)) 20 rfl d_X6_goOut_17 fl_X6_107 rfl (by assumption) ht1 ?_
        refine ar_iconst 21 rfl d_X6_goOut_20 ?_
        refine ar_isub 22 rfl d_X6_goOut_21 ?_
        refine ar_top (y := (T.length : Int)) (by omega) ?_
        refine ar_ilv (y := (63 : Int)) 23 rfl d_X6_goOut_22 (by assumption) (by omega) (by rw [Int.toNat_natCast, ht2]; exact hdk) ?_
        refine ar_ist_2 24 rfl d_X6_goOut_23 rfl (by intro _ h; cases h) ?_
        refine ar_aload_n 25 rfl d_X6_goOut_24 rfl ?_
        refine ar_getA 28 rfl d_X6_goOut_25 fl_X6_38 rfl (by assumption) (by assumption) ?_
        refine ar_aload_n 29 rfl d_X6_goOut_28 rfl ?_
        refine ar_giv (y := ((T.length + 1 : Nat) : Int)) 32 rfl d_X6_goOut_29 fl_X6_107 rfl (by assumption) ht1 ?_
        refine ar_iconst 33 rfl d_X6_goOut_32 ?_
        refine ar_isub 34 rfl d_X6_goOut_33 ?_
        refine ar_top (y := (T.length : Int)) (by omega) ?_
        refine ar_ilv (y := (e : Int)) 35 rfl d_X6_goOut_34 (by assumption) (by omega) (by rw [Int.toNat_natCast, ht3]; exact hdw) ?_
        refine ar_ist_3 36 rfl d_X6_goOut_35 rfl (by intro _ h; cases h) ?_
        refine ar_iload_n 37 rfl d_X6_goOut_36 rfl ?_
        refine ar_bipush 39 rfl d_X6_goOut_37 rfl ?_
        refine ar_icmp_ne 119 42 rfl rfl d_X6_goOut_39 (by omega) (by omega) (fun g39 => ?_) (fun h => absurd h (by decide))
        refine ar_iload_n 120 rfl d_X6_goOut_119 rfl ?_
        refine ar_iload_n 121 rfl d_X6_goOut_120 rfl ?_
        refine ar_icmp_eq 126 124 rfl rfl d_X6_goOut_121 (by first | exact hsj | (constructor <;> omega)) (by first | exact hsj | (constructor <;> omega)) (fun g121 => ?_) (fun g121 => ?_)
        · have hget : cs[j]? = some (sg cs j) := sg_get (by omega)
          have hlt := (List.getElem?_eq_some_iff.mp hget).1
          have hR2 : Rd cs (j + 1) (c ++ [(5, 0)], 0, (12, c.length) :: T) := hR.next hp hget (by
            rw [haf _ hget]
            unfold aft
            simp only []
            rw [if_neg w10, if_pos w11]
            rw [if_pos g121])
          have hC2 := hC.sp (j + 1)
          have hS2 : Sh6 (wI σ 625 14 ((j + 1 : Nat) : Int)) := hS.e rfl
          have hf2 : FrC σ (wI σ 625 14 ((j + 1 : Nat) : Int)) := FrC.w (by omega)
          refine ar_aload_n 127 rfl d_X6_goOut_126 rfl ?_
          refine ar_dup 128 rfl d_X6_goOut_127 (fun _ => rfl) ?_
          refine ar_giv (y := (j : Int)) 131 rfl d_X6_goOut_128 fl_X6_97 rfl (by assumption) hC.1 ?_
          refine ar_iconst 132 rfl d_X6_goOut_131 ?_
          refine ar_iadd 133 rfl d_X6_goOut_132 ?_
          refine ar_top (y := ((j + 1 : Nat) : Int)) (by omega) ?_
          refine ar_putI 136 rfl d_X6_goOut_133 fl_X6_97 rfl rfl (by assumption) ?_
          generalize wI σ 625 14 ((j + 1 : Nat) : Int) = σ2 at hC2 hS2 hf2 ⊢
          have ht1 := hC2.top.1
          have c10 := hC2.2.1
          have k625 := hS2.k625
          have r11 := hS2.r11
          have k634 := hS2.k634
          have r12 := hS2.r12
          have k635 := hS2.k635
          have r9 := hS2.r9
          have k633 := hS2.k633
          refine ar_iload_n 137 rfl d_X6_goOut_136 rfl ?_
          refine ar_bipush 139 rfl d_X6_goOut_137 rfl ?_
          refine ar_icmp_ne 161 142 rfl rfl d_X6_goOut_139 (by omega) (by omega) (fun g139 => ?_) (fun h => absurd h (by decide))
          refine ar_iload_n 162 rfl d_X6_goOut_161 rfl ?_
          refine ar_bipush 164 rfl d_X6_goOut_162 rfl ?_
          refine ar_icmp_ne 190 167 rfl rfl d_X6_goOut_164 (by omega) (by omega) (fun g164 => ?_) (fun h => absurd h (by decide))
          refine ar_iload_n 191 rfl d_X6_goOut_190 rfl ?_
          refine ar_bipush 193 rfl d_X6_goOut_191 rfl ?_
          refine ar_icmp_ne 208 196 rfl rfl d_X6_goOut_193 (by omega) (by omega) (fun g193 => ?_) (fun h => absurd h (by decide))
          refine ar_aload_n 209 rfl d_X6_goOut_208 rfl ?_
          refine ar_getA 212 rfl d_X6_goOut_209 fl_X6_35 rfl (by assumption) (by assumption) ?_
          refine ar_aload_n 213 rfl d_X6_goOut_212 rfl ?_
          refine ar_giv (y := ((T.length + 1 : Nat) : Int)) 216 rfl d_X6_goOut_213 fl_X6_107 rfl (by assumption) (hC2.top.1) ?_
          refine ar_iconst 217 rfl d_X6_goOut_216 ?_
          refine ar_isub 218 rfl d_X6_goOut_217 ?_
          refine ar_top (y := (T.length : Int)) (by omega) ?_
          refine ar_iload_n 219 rfl d_X6_goOut_218 rfl ?_
          refine ar_bipush 221 rfl d_X6_goOut_219 rfl ?_
          refine ar_icmp_ne 229 224 rfl rfl d_X6_goOut_221 (by omega) (by omega) (fun h => absurd rfl h) (fun g221 => ?_)
          refine ar_bipush 226 rfl d_X6_goOut_224 rfl ?_
          refine ar_goto 231 rfl d_X6_goOut_226 ?_
          refine ar_iasN T.length 232 rfl d_X6_goOut_231 (by assumption) (by omega) (by omega) ?_
          refine ar_aload_n 233 rfl d_X6_goOut_232 rfl ?_
          refine ar_getA 236 rfl d_X6_goOut_233 fl_X6_38 rfl (by assumption) (by assumption) ?_
          refine ar_aload_n 237 rfl d_X6_goOut_236 rfl ?_
          refine ar_giv (y := ((T.length + 1 : Nat) : Int)) 240 rfl d_X6_goOut_237 fl_X6_107 rfl (by assumption) (by rw [hI_off (by omega)]; exact hC2.top.1) ?_
          refine ar_iconst 241 rfl d_X6_goOut_240 ?_
          refine ar_isub 242 rfl d_X6_goOut_241 ?_
          refine ar_top (y := (T.length : Int)) (by omega) ?_
          refine ar_aload_n 243 rfl d_X6_goOut_242 rfl ?_
          refine ar_giv (y := (c.length : Int)) 246 rfl d_X6_goOut_243 fl_X6_104 rfl (by assumption) (by rw [hI_off (by omega)]; exact c10) ?_
          refine ar_iasN T.length 247 rfl d_X6_goOut_246 (by assumption) (by omega) (by omega) ?_
          refine ar_aload_n 248 rfl d_X6_goOut_247 rfl ?_
          refine ar_iload_n 249 rfl d_X6_goOut_248 rfl ?_
          refine ar_bipush 251 rfl d_X6_goOut_249 rfl ?_
          refine ar_icmp_ne 259 254 rfl rfl d_X6_goOut_251 (by omega) (by omega) (fun h => absurd rfl h) (fun g251 => ?_)
          refine ar_bipush 256 rfl d_X6_goOut_254 rfl ?_
          refine ar_goto 261 rfl d_X6_goOut_256 ?_
          refine ar_iconst 262 rfl d_X6_goOut_261 ?_
          refine ar_callV0 (M' := mX6_lay) (As := [_, _]) (ls' := [Va _, Vi _, Vi _]) 265 rfl d_X6_goOut_262 ml_X6_122 mt_X6_lay (by assumption) rfl (Nat.le_of_ble_eq_true rfl) rfl (Nat.le_of_ble_eq_true rfl) (by omega) ?_
          have hC4 := hC2.chg (y := (12, c.length)) (w := 58) (v := (c.length : Int)) rfl rfl
          have hS4 : Sh6 (wI (wI σ2 634 T.length 58) 635 T.length (c.length : Int)) := hS2.e rfl
          have hf4 : FrC σ2 (wI (wI σ2 634 T.length 58) 635 T.length (c.length : Int)) := (FrC.w (by omega)).tr (FrC.w (by omega))
          generalize wI (wI σ2 634 T.length 58) 635 T.length (c.length : Int) = σ4 at hC4 hS4 hf4
          refine sp_X6_lay (m := c.length) hS4 hC4.2.1 (by omega) ?_
          have hC5 := hC4.lay (y := (5, 0)) (w := 6) (v := 0) rfl rfl
          have hf5 : FrC σ4 (wI (wI (wI σ4 632 c.length 6) 633 c.length 0) 625 10 ((c.length + 1 : Nat) : Int)) := (FrC.w (by omega)).tr ((FrC.w (by omega)).tr (FrC.w (by omega)))
          refine ar_iconst 266 rfl d_X6_goOut_265 ?_
          refine WA.ret (some (Vi _)) ⟨d_X6_goOut_266, rfl, Or.inl rfl⟩ ?_
          exact K1 _ (j + 1) _ _ (hf.tr (hf2.tr (hf4.tr hf5))) hC5 hR2 (by omega)
        · refine ar_iconst 125 rfl d_X6_goOut_124 ?_
          refine WA.ret (some (Vi _)) ⟨d_X6_goOut_125, rfl, Or.inl rfl⟩ ?_
          exact K0 _ j hf hC.1 (hR.stuckA haf (by
            unfold aft
            simp only []
            rw [if_neg w10, if_pos w11]
            rw [if_neg g121]) (Or.inl (by simp)))
      · by_cases w12 : o = 12
        · have hdk : dK (o, e) = 58 := by unfold dK; rw [if_neg w10, if_neg w11, if_pos w12]
          have hdw : dW (o, e) = (e : Int) := by unfold dW; rw [if_neg (by show ¬ (2 ≤ o ∧ o ≤ 4); omega)]
          refine ar_aload_n 1 rfl d_X6_goOut_0 rfl ?_
          refine ar_giv (y := ((T.length + 1 : Nat) : Int)) 4 rfl d_X6_goOut_1 fl_X6_107 rfl (by assumption) ht1 ?_
          refine ar_if_le 270 7 rfl rfl d_X6_goOut_4 (by omega) (fun h => by omega) (fun g4 => ?_)
          refine ar_aload_n 8 rfl d_X6_goOut_7 rfl ?_
          refine ar_callV0 (M' := mX6_sign) (As := []) (ls' := [Va _]) 11 rfl d_X6_goOut_8 ml_X6_110 mt_X6_sign (by assumption) rfl (Nat.le_of_ble_eq_true rfl) rfl (Nat.le_of_ble_eq_true rfl) (by omega) ?_
          refine sp_X6_sign hS hC hp.1 (by omega) ?_
          refine ar_ist_1 12 rfl d_X6_goOut_11 rfl (by intro _ h; cases h) ?_
          refine ar_aload_n 13 rfl d_X6_goOut_12 rfl ?_
          refine ar_getA 16 rfl d_X6_goOut_13 fl_X6_35 rfl (by assumption) (by assumption) ?_
          refine ar_aload_n 17 rfl d_X6_goOut_16 rfl ?_
          refine ar_giv (y := ((T.length + 1 : Nat) : Int)) 20 rfl d_X6_goOut_17 fl_X6_107 rfl (by assumption) ht1 ?_
          refine ar_iconst 21 rfl d_X6_goOut_20 ?_
          refine ar_isub 22 rfl d_X6_goOut_21 ?_
          refine ar_top (y := (T.length : Int)) (by omega) ?_
          refine ar_ilv (y := (58 : Int)) 23 rfl d_X6_goOut_22 (by assumption) (by omega) (by rw [Int.toNat_natCast, ht2]; exact hdk) ?_
          refine ar_ist_2 24 rfl d_X6_goOut_23 rfl (by intro _ h; cases h) ?_
          refine ar_aload_n 25 rfl d_X6_goOut_24 rfl ?_
          refine ar_getA 28 rfl d_X6_goOut_25 fl_X6_38 rfl (by assumption) (by assumption) ?_
          refine ar_aload_n 29 rfl d_X6_goOut_28 rfl ?_
          refine ar_giv (y := ((T.length + 1 : Nat) : Int)) 32 rfl d_X6_goOut_29 fl_X6_107 rfl (by assumption) ht1 ?_
          refine ar_iconst 33 rfl d_X6_goOut_32 ?_
          refine ar_isub 34 rfl d_X6_goOut_33 ?_
          refine ar_top (y := (T.length : Int)) (by omega) ?_
          refine ar_ilv (y := (e : Int)) 35 rfl d_X6_goOut_34 (by assumption) (by omega) (by rw [Int.toNat_natCast, ht3]; exact hdw) ?_
          refine ar_ist_3 36 rfl d_X6_goOut_35 rfl (by intro _ h; cases h) ?_
          refine ar_iload_n 37 rfl d_X6_goOut_36 rfl ?_
          refine ar_bipush 39 rfl d_X6_goOut_37 rfl ?_
          refine ar_icmp_ne 119 42 rfl rfl d_X6_goOut_39 (by omega) (by omega) (fun g39 => ?_) (fun h => absurd h (by decide))
          refine ar_iload_n 120 rfl d_X6_goOut_119 rfl ?_
          refine ar_iload_n 121 rfl d_X6_goOut_120 rfl ?_
          refine ar_icmp_eq 126 124 rfl rfl d_X6_goOut_121 (by first | exact hsj | (constructor <;> omega)) (by first | exact hsj | (constructor <;> omega)) (fun g121 => ?_) (fun g121 => ?_)
          · have hget : cs[j]? = some (sg cs j) := sg_get (by omega)
            have hlt := (List.getElem?_eq_some_iff.mp hget).1
            have hR2 : Rd cs (j + 1) (setO (c ++ [(6, 0)]) e ((c.length + 1 : Nat) : Int), 0, (13, c.length) :: T) := hR.next hp hget (by
              rw [haf _ hget]
              unfold aft
              simp only []
              rw [if_neg w10, if_neg w11, if_pos w12]
              rw [if_pos g121])
            have hC2 := hC.sp (j + 1)
            have hS2 : Sh6 (wI σ 625 14 ((j + 1 : Nat) : Int)) := hS.e rfl
            have hf2 : FrC σ (wI σ 625 14 ((j + 1 : Nat) : Int)) := FrC.w (by omega)
            have hx6 : ∃ v, c[e]? = some (5, v) := by
              rcases hok with e9 | e9 | e9 | e9 | e9
              · have : 2 ≤ o ∧ o ≤ 4 := e9
                omega
              · have : o = 10 := e9
                omega
              · have : o = 11 := e9
                omega
              · exact e9.2
              · have : o = 13 := e9.1
                omega
            have he : e < c.length := by
              obtain ⟨v, hv⟩ := hx6
              exact (List.getElem?_eq_some_iff.mp hv).1
            refine ar_aload_n 127 rfl d_X6_goOut_126 rfl ?_
            refine ar_dup 128 rfl d_X6_goOut_127 (fun _ => rfl) ?_
            refine ar_giv (y := (j : Int)) 131 rfl d_X6_goOut_128 fl_X6_97 rfl (by assumption) hC.1 ?_
            refine ar_iconst 132 rfl d_X6_goOut_131 ?_
            refine ar_iadd 133 rfl d_X6_goOut_132 ?_
            refine ar_top (y := ((j + 1 : Nat) : Int)) (by omega) ?_
            refine ar_putI 136 rfl d_X6_goOut_133 fl_X6_97 rfl rfl (by assumption) ?_
            generalize wI σ 625 14 ((j + 1 : Nat) : Int) = σ2 at hC2 hS2 hf2 ⊢
            have ht1 := hC2.top.1
            have c10 := hC2.2.1
            have k625 := hS2.k625
            have r11 := hS2.r11
            have k634 := hS2.k634
            have r12 := hS2.r12
            have k635 := hS2.k635
            have r9 := hS2.r9
            have k633 := hS2.k633
            refine ar_iload_n 137 rfl d_X6_goOut_136 rfl ?_
            refine ar_bipush 139 rfl d_X6_goOut_137 rfl ?_
            refine ar_icmp_ne 161 142 rfl rfl d_X6_goOut_139 (by omega) (by omega) (fun g139 => ?_) (fun h => absurd h (by decide))
            refine ar_iload_n 162 rfl d_X6_goOut_161 rfl ?_
            refine ar_bipush 164 rfl d_X6_goOut_162 rfl ?_
            refine ar_icmp_ne 190 167 rfl rfl d_X6_goOut_164 (by omega) (by omega) (fun g164 => ?_) (fun h => absurd h (by decide))
            refine ar_iload_n 191 rfl d_X6_goOut_190 rfl ?_
            refine ar_bipush 193 rfl d_X6_goOut_191 rfl ?_
            refine ar_icmp_ne 208 196 rfl rfl d_X6_goOut_193 (by omega) (by omega) (fun h => absurd rfl h) (fun g193 => ?_)
            refine ar_aload_n 197 rfl d_X6_goOut_196 rfl ?_
            refine ar_getA 200 rfl d_X6_goOut_197 fl_X6_32 rfl (by assumption) (by assumption) ?_
            refine ar_iload_n 201 rfl d_X6_goOut_200 rfl ?_
            refine ar_aload_n 202 rfl d_X6_goOut_201 rfl ?_
            refine ar_giv (y := (c.length : Int)) 205 rfl d_X6_goOut_202 fl_X6_104 rfl (by assumption) c10 ?_
            refine ar_iconst 206 rfl d_X6_goOut_205 ?_
            refine ar_iadd 207 rfl d_X6_goOut_206 ?_
            refine ar_top (y := ((c.length + 1 : Nat) : Int)) (by omega) ?_
            refine ar_iasN e 208 rfl d_X6_goOut_207 (by assumption) (by omega) (by omega) ?_
            have hC3 := hC2.arg (v := ((c.length + 1 : Nat) : Int)) hx6 (by decide)
            have hS3 : Sh6 (wI σ2 633 e ((c.length + 1 : Nat) : Int)) := hS2.e rfl
            have hf3 : FrC σ2 (wI σ2 633 e ((c.length + 1 : Nat) : Int)) := FrC.w (by omega)
            generalize wI σ2 633 e ((c.length + 1 : Nat) : Int) = σ3 at hC3 hS3 hf3
            have c103 : hI σ3 625 10 = (c.length : Int) := by rw [hC3.2.1, setO_len]
            have k625 := hS3.k625
            have r11 := hS3.r11
            have k634 := hS3.k634
            have r12 := hS3.r12
            have k635 := hS3.k635
            have r9 := hS3.r9
            have k633 := hS3.k633
            refine ar_aload_n 209 rfl d_X6_goOut_208 rfl ?_
            refine ar_getA 212 rfl d_X6_goOut_209 fl_X6_35 rfl (by assumption) (by assumption) ?_
            refine ar_aload_n 213 rfl d_X6_goOut_212 rfl ?_
            refine ar_giv (y := ((T.length + 1 : Nat) : Int)) 216 rfl d_X6_goOut_213 fl_X6_107 rfl (by assumption) (hC3.top.1) ?_
            refine ar_iconst 217 rfl d_X6_goOut_216 ?_
            refine ar_isub 218 rfl d_X6_goOut_217 ?_
            refine ar_top (y := (T.length : Int)) (by omega) ?_
            refine ar_iload_n 219 rfl d_X6_goOut_218 rfl ?_
            refine ar_bipush 221 rfl d_X6_goOut_219 rfl ?_
            refine ar_icmp_ne 229 224 rfl rfl d_X6_goOut_221 (by omega) (by omega) (fun g221 => ?_) (fun h => absurd h (by decide))
            refine ar_bipush 231 rfl d_X6_goOut_229 rfl ?_
            refine ar_iasN T.length 232 rfl d_X6_goOut_231 (by assumption) (by omega) (by omega) ?_
            refine ar_aload_n 233 rfl d_X6_goOut_232 rfl ?_
            refine ar_getA 236 rfl d_X6_goOut_233 fl_X6_38 rfl (by assumption) (by assumption) ?_
            refine ar_aload_n 237 rfl d_X6_goOut_236 rfl ?_
            refine ar_giv (y := ((T.length + 1 : Nat) : Int)) 240 rfl d_X6_goOut_237 fl_X6_107 rfl (by assumption) (by rw [hI_off (by omega)]; exact hC3.top.1) ?_
            refine ar_iconst 241 rfl d_X6_goOut_240 ?_
            refine ar_isub 242 rfl d_X6_goOut_241 ?_
            refine ar_top (y := (T.length : Int)) (by omega) ?_
            refine ar_aload_n 243 rfl d_X6_goOut_242 rfl ?_
            refine ar_giv (y := (c.length : Int)) 246 rfl d_X6_goOut_243 fl_X6_104 rfl (by assumption) (by rw [hI_off (by omega)]; exact c103) ?_
            refine ar_iasN T.length 247 rfl d_X6_goOut_246 (by assumption) (by omega) (by omega) ?_
            refine ar_aload_n 248 rfl d_X6_goOut_247 rfl ?_
            refine ar_iload_n 249 rfl d_X6_goOut_248 rfl ?_
            refine ar_bipush 251 rfl d_X6_goOut_249 rfl ?_
            refine ar_icmp_ne 259 254 rfl rfl d_X6_goOut_251 (by omega) (by omega) (fun g251 => ?_) (fun h => absurd h (by decide))
            refine ar_bipush 261 rfl d_X6_goOut_259 rfl ?_
            refine ar_iconst 262 rfl d_X6_goOut_261 ?_
            refine ar_callV0 (M' := mX6_lay) (As := [_, _]) (ls' := [Va _, Vi _, Vi _]) 265 rfl d_X6_goOut_262 ml_X6_122 mt_X6_lay (by assumption) rfl (Nat.le_of_ble_eq_true rfl) rfl (Nat.le_of_ble_eq_true rfl) (by omega) ?_
            have hC4 := hC3.chg (y := (13, c.length)) (w := 125) (v := (c.length : Int)) rfl rfl
            have hS4 : Sh6 (wI (wI σ3 634 T.length 125) 635 T.length (c.length : Int)) := hS3.e rfl
            have hf4 : FrC σ3 (wI (wI σ3 634 T.length 125) 635 T.length (c.length : Int)) := (FrC.w (by omega)).tr (FrC.w (by omega))
            generalize wI (wI σ3 634 T.length 125) 635 T.length (c.length : Int) = σ4 at hC4 hS4 hf4
            have hlen9 : (setO c e ((c.length + 1 : Nat) : Int)).length = c.length := setO_len _ _ _
            refine sp_X6_lay (m := c.length) hS4 (by rw [hC4.2.1, setO_len]) (by omega) ?_
            have hC5 := hC4.lay (y := (6, 0)) (w := 7) (v := 0) rfl rfl
            rw [hlen9] at hC5
            rw [← setO_app c (6, 0) e _ he] at hC5
            have hf5 : FrC σ4 (wI (wI (wI σ4 632 c.length 7) 633 c.length 0) 625 10 ((c.length + 1 : Nat) : Int)) := (FrC.w (by omega)).tr ((FrC.w (by omega)).tr (FrC.w (by omega)))
            refine ar_iconst 266 rfl d_X6_goOut_265 ?_
            refine WA.ret (some (Vi _)) ⟨d_X6_goOut_266, rfl, Or.inl rfl⟩ ?_
            exact K1 _ (j + 1) _ _ (hf.tr (hf2.tr (hf3.tr (hf4.tr hf5)))) hC5 hR2 (by omega)
          · refine ar_iconst 125 rfl d_X6_goOut_124 ?_
            refine WA.ret (some (Vi _)) ⟨d_X6_goOut_125, rfl, Or.inl rfl⟩ ?_
            exact K0 _ j hf hC.1 (hR.stuckA haf (by
              unfold aft
              simp only []
              rw [if_neg w10, if_neg w11, if_pos w12]
              rw [if_neg g121]) (Or.inl (by simp)))
        · by_cases w13 : o = 13
          · have hdk : dK (o, e) = 125 := by unfold dK; rw [if_neg w10, if_neg w11, if_neg w12, if_pos w13]
            have hdw : dW (o, e) = (e : Int) := by unfold dW; rw [if_neg (by show ¬ (2 ≤ o ∧ o ≤ 4); omega)]
            refine ar_aload_n 1 rfl d_X6_goOut_0 rfl ?_
            refine ar_giv (y := ((T.length + 1 : Nat) : Int)) 4 rfl d_X6_goOut_1 fl_X6_107 rfl (by assumption) ht1 ?_
            refine ar_if_le 270 7 rfl rfl d_X6_goOut_4 (by omega) (fun h => by omega) (fun g4 => ?_)
            refine ar_aload_n 8 rfl d_X6_goOut_7 rfl ?_
            refine ar_callV0 (M' := mX6_sign) (As := []) (ls' := [Va _]) 11 rfl d_X6_goOut_8 ml_X6_110 mt_X6_sign (by assumption) rfl (Nat.le_of_ble_eq_true rfl) rfl (Nat.le_of_ble_eq_true rfl) (by omega) ?_
            refine sp_X6_sign hS hC hp.1 (by omega) ?_
            refine ar_ist_1 12 rfl d_X6_goOut_11 rfl (by intro _ h; cases h) ?_
            refine ar_aload_n 13 rfl d_X6_goOut_12 rfl ?_
            refine ar_getA 16 rfl d_X6_goOut_13 fl_X6_35 rfl (by assumption) (by assumption) ?_
            refine ar_aload_n 17 rfl d_X6_goOut_16 rfl ?_
            refine ar_giv (y := ((T.length + 1 : Nat) : Int)) 20 rfl d_X6_goOut_17 fl_X6_107 rfl (by assumption) ht1 ?_
            refine ar_iconst 21 rfl d_X6_goOut_20 ?_
            refine ar_isub 22 rfl d_X6_goOut_21 ?_
            refine ar_top (y := (T.length : Int)) (by omega) ?_
            refine ar_ilv (y := (125 : Int)) 23 rfl d_X6_goOut_22 (by assumption) (by omega) (by rw [Int.toNat_natCast, ht2]; exact hdk) ?_
            refine ar_ist_2 24 rfl d_X6_goOut_23 rfl (by intro _ h; cases h) ?_
            refine ar_aload_n 25 rfl d_X6_goOut_24 rfl ?_
            refine ar_getA 28 rfl d_X6_goOut_25 fl_X6_38 rfl (by assumption) (by assumption) ?_
            refine ar_aload_n 29 rfl d_X6_goOut_28 rfl ?_
            refine ar_giv (y := ((T.length + 1 : Nat) : Int)) 32 rfl d_X6_goOut_29 fl_X6_107 rfl (by assumption) ht1 ?_
            refine ar_iconst 33 rfl d_X6_goOut_32 ?_
            refine ar_isub 34 rfl d_X6_goOut_33 ?_
            refine ar_top (y := (T.length : Int)) (by omega) ?_
            refine ar_ilv (y := (e : Int)) 35 rfl d_X6_goOut_34 (by assumption) (by omega) (by rw [Int.toNat_natCast, ht3]; exact hdw) ?_
            refine ar_ist_3 36 rfl d_X6_goOut_35 rfl (by intro _ h; cases h) ?_
            refine ar_iload_n 37 rfl d_X6_goOut_36 rfl ?_
            refine ar_bipush 39 rfl d_X6_goOut_37 rfl ?_
            refine ar_icmp_ne 119 42 rfl rfl d_X6_goOut_39 (by omega) (by omega) (fun g39 => ?_) (fun h => absurd h (by decide))
            refine ar_iload_n 120 rfl d_X6_goOut_119 rfl ?_
            refine ar_iload_n 121 rfl d_X6_goOut_120 rfl ?_
            refine ar_icmp_eq 126 124 rfl rfl d_X6_goOut_121 (by first | exact hsj | (constructor <;> omega)) (by first | exact hsj | (constructor <;> omega)) (fun g121 => ?_) (fun g121 => ?_)
            · have hget : cs[j]? = some (sg cs j) := sg_get (by omega)
              have hlt := (List.getElem?_eq_some_iff.mp hget).1
              have hR2 : Rd cs (j + 1) (setO c e (c.length : Int), 3, T) := hR.next hp hget (by
                rw [haf _ hget]
                unfold aft
                simp only []
                rw [if_neg w10, if_neg w11, if_neg w12, if_pos w13]
                rw [if_pos g121])
              have hC2 := hC.sp (j + 1)
              have hS2 : Sh6 (wI σ 625 14 ((j + 1 : Nat) : Int)) := hS.e rfl
              have hf2 : FrC σ (wI σ 625 14 ((j + 1 : Nat) : Int)) := FrC.w (by omega)
              have hx6 : ∃ v, c[e]? = some (6, v) := by
                rcases hok with e9 | e9 | e9 | e9 | e9
                · have : 2 ≤ o ∧ o ≤ 4 := e9
                  omega
                · have : o = 10 := e9
                  omega
                · have : o = 11 := e9
                  omega
                · have : o = 12 := e9.1
                  omega
                · exact e9.2
              have he : e < c.length := by
                obtain ⟨v, hv⟩ := hx6
                exact (List.getElem?_eq_some_iff.mp hv).1
              refine ar_aload_n 127 rfl d_X6_goOut_126 rfl ?_
              refine ar_dup 128 rfl d_X6_goOut_127 (fun _ => rfl) ?_
              refine ar_giv (y := (j : Int)) 131 rfl d_X6_goOut_128 fl_X6_97 rfl (by assumption) hC.1 ?_
              refine ar_iconst 132 rfl d_X6_goOut_131 ?_
              refine ar_iadd 133 rfl d_X6_goOut_132 ?_
              refine ar_top (y := ((j + 1 : Nat) : Int)) (by omega) ?_
              refine ar_putI 136 rfl d_X6_goOut_133 fl_X6_97 rfl rfl (by assumption) ?_
              generalize wI σ 625 14 ((j + 1 : Nat) : Int) = σ2 at hC2 hS2 hf2 ⊢
              have ht1 := hC2.top.1
              have c10 := hC2.2.1
              have k625 := hS2.k625
              have r11 := hS2.r11
              have k634 := hS2.k634
              have r12 := hS2.r12
              have k635 := hS2.k635
              have r9 := hS2.r9
              have k633 := hS2.k633
              refine ar_iload_n 137 rfl d_X6_goOut_136 rfl ?_
              refine ar_bipush 139 rfl d_X6_goOut_137 rfl ?_
              refine ar_icmp_ne 161 142 rfl rfl d_X6_goOut_139 (by omega) (by omega) (fun g139 => ?_) (fun h => absurd h (by decide))
              refine ar_iload_n 162 rfl d_X6_goOut_161 rfl ?_
              refine ar_bipush 164 rfl d_X6_goOut_162 rfl ?_
              refine ar_icmp_ne 190 167 rfl rfl d_X6_goOut_164 (by omega) (by omega) (fun h => absurd rfl h) (fun g164 => ?_)
              refine ar_aload_n 168 rfl d_X6_goOut_167 rfl ?_
              refine ar_getA 171 rfl d_X6_goOut_168 fl_X6_32 rfl (by assumption) (by assumption) ?_
              refine ar_iload_n 172 rfl d_X6_goOut_171 rfl ?_
              refine ar_aload_n 173 rfl d_X6_goOut_172 rfl ?_
              refine ar_giv (y := (c.length : Int)) 176 rfl d_X6_goOut_173 fl_X6_104 rfl (by assumption) c10 ?_
              refine ar_iasN e 177 rfl d_X6_goOut_176 (by assumption) (by omega) (by omega) ?_
              have hC3 := hC2.arg (v := (c.length : Int)) hx6 (by decide)
              have hS3 : Sh6 (wI σ2 633 e (c.length : Int)) := hS2.e rfl
              have hf3 : FrC σ2 (wI σ2 633 e (c.length : Int)) := FrC.w (by omega)
              generalize wI σ2 633 e (c.length : Int) = σ3 at hC3 hS3 hf3
              have ht3 := hC3.top.1
              have k625 := hS3.k625
              refine ar_aload_n 178 rfl d_X6_goOut_177 rfl ?_
              refine ar_dup 179 rfl d_X6_goOut_178 (fun _ => rfl) ?_
              refine ar_giv (y := ((T.length + 1 : Nat) : Int)) 182 rfl d_X6_goOut_179 fl_X6_107 rfl (by assumption) ht3 ?_
              refine ar_iconst 183 rfl d_X6_goOut_182 ?_
              refine ar_isub 184 rfl d_X6_goOut_183 ?_
              refine ar_top (y := (T.length : Int)) (by omega) ?_
              refine ar_putI 187 rfl d_X6_goOut_184 fl_X6_107 rfl rfl (by assumption) ?_
              refine ar_goto 267 rfl d_X6_goOut_187 ?_
              refine ar_goto 0 rfl d_X6_goOut_267 ?_
              exact ih (cs.length - (j + 1)) (by omega) (j + 1) _ 3 T _ _ _ _ rfl (by omega) (hf.tr (hf2.tr (hf3.tr (FrC.w (by omega))))) (hS3.e rfl) hC3.pop hR2 (by decide) Aft.three
            · refine ar_iconst 125 rfl d_X6_goOut_124 ?_
              refine WA.ret (some (Vi _)) ⟨d_X6_goOut_125, rfl, Or.inl rfl⟩ ?_
              exact K0 _ j hf hC.1 (hR.stuckA haf (by
                unfold aft
                simp only []
                rw [if_neg w10, if_neg w11, if_neg w12, if_pos w13]
                rw [if_neg g121]) (Or.inl (by simp)))
          · have ho : 2 ≤ o ∧ o ≤ 4 := by
              rcases hok with e9 | e9 | e9 | e9 | e9
              · exact e9
              · exact absurd e9 w10
              · exact absurd e9 w11
              · exact absurd e9.1 w12
              · exact absurd e9.1 w13
            have hdk : dK (o, e) = 41 := by unfold dK; rw [if_neg w10, if_neg w11, if_neg w12, if_neg w13]
            have hdw : dW (o, e) = o + 1 := by unfold dW; rw [if_pos ho]
            refine ar_aload_n 1 rfl d_X6_goOut_0 rfl ?_
            refine ar_giv (y := ((T.length + 1 : Nat) : Int)) 4 rfl d_X6_goOut_1 fl_X6_107 rfl (by assumption) ht1 ?_
            refine ar_if_le 270 7 rfl rfl d_X6_goOut_4 (by omega) (fun h => by omega) (fun g4 => ?_)
            refine ar_aload_n 8 rfl d_X6_goOut_7 rfl ?_
            refine ar_callV0 (M' := mX6_sign) (As := []) (ls' := [Va _]) 11 rfl d_X6_goOut_8 ml_X6_110 mt_X6_sign (by assumption) rfl (Nat.le_of_ble_eq_true rfl) rfl (Nat.le_of_ble_eq_true rfl) (by omega) ?_
            refine sp_X6_sign hS hC hp.1 (by omega) ?_
            refine ar_ist_1 12 rfl d_X6_goOut_11 rfl (by intro _ h; cases h) ?_
            refine ar_aload_n 13 rfl d_X6_goOut_12 rfl ?_
            refine ar_getA 16 rfl d_X6_goOut_13 fl_X6_35 rfl (by assumption) (by assumption) ?_
            refine ar_aload_n 17 rfl d_X6_goOut_16 rfl ?_
            refine ar_giv (y := ((T.length + 1 : Nat) : Int)) 20 rfl d_X6_goOut_17 fl_X6_107 rfl (by assumption) ht1 ?_
            refine ar_iconst 21 rfl d_X6_goOut_20 ?_
            refine ar_isub 22 rfl d_X6_goOut_21 ?_
            refine ar_top (y := (T.length : Int)) (by omega) ?_
            refine ar_ilv (y := (41 : Int)) 23 rfl d_X6_goOut_22 (by assumption) (by omega) (by rw [Int.toNat_natCast, ht2]; exact hdk) ?_
            refine ar_ist_2 24 rfl d_X6_goOut_23 rfl (by intro _ h; cases h) ?_
            refine ar_aload_n 25 rfl d_X6_goOut_24 rfl ?_
            refine ar_getA 28 rfl d_X6_goOut_25 fl_X6_38 rfl (by assumption) (by assumption) ?_
            refine ar_aload_n 29 rfl d_X6_goOut_28 rfl ?_
            refine ar_giv (y := ((T.length + 1 : Nat) : Int)) 32 rfl d_X6_goOut_29 fl_X6_107 rfl (by assumption) ht1 ?_
            refine ar_iconst 33 rfl d_X6_goOut_32 ?_
            refine ar_isub 34 rfl d_X6_goOut_33 ?_
            refine ar_top (y := (T.length : Int)) (by omega) ?_
            refine ar_ilv (y := (o + 1)) 35 rfl d_X6_goOut_34 (by assumption) (by omega) (by rw [Int.toNat_natCast, ht3]; exact hdw) ?_
            refine ar_ist_3 36 rfl d_X6_goOut_35 rfl (by intro _ h; cases h) ?_
            refine ar_iload_n 37 rfl d_X6_goOut_36 rfl ?_
            refine ar_bipush 39 rfl d_X6_goOut_37 rfl ?_
            refine ar_icmp_ne 119 42 rfl rfl d_X6_goOut_39 (by omega) (by omega) (fun g39 => ?_) (fun h => absurd h (by decide))
            refine ar_iload_n 120 rfl d_X6_goOut_119 rfl ?_
            refine ar_iload_n 121 rfl d_X6_goOut_120 rfl ?_
            refine ar_icmp_eq 126 124 rfl rfl d_X6_goOut_121 (by first | exact hsj | (constructor <;> omega)) (by first | exact hsj | (constructor <;> omega)) (fun g121 => ?_) (fun g121 => ?_)
            · have hget : cs[j]? = some (sg cs j) := sg_get (by omega)
              have hlt := (List.getElem?_eq_some_iff.mp hget).1
              have hR2 : Rd cs (j + 1) (c ++ [(o, 0)], 3, T) := hR.next hp hget (by
                rw [haf _ hget]
                unfold aft
                simp only []
                rw [if_neg w10, if_neg w11, if_neg w12, if_neg w13]
                rw [if_pos g121])
              have hC2 := hC.sp (j + 1)
              have hS2 : Sh6 (wI σ 625 14 ((j + 1 : Nat) : Int)) := hS.e rfl
              have hf2 : FrC σ (wI σ 625 14 ((j + 1 : Nat) : Int)) := FrC.w (by omega)
              refine ar_aload_n 127 rfl d_X6_goOut_126 rfl ?_
              refine ar_dup 128 rfl d_X6_goOut_127 (fun _ => rfl) ?_
              refine ar_giv (y := (j : Int)) 131 rfl d_X6_goOut_128 fl_X6_97 rfl (by assumption) hC.1 ?_
              refine ar_iconst 132 rfl d_X6_goOut_131 ?_
              refine ar_iadd 133 rfl d_X6_goOut_132 ?_
              refine ar_top (y := ((j + 1 : Nat) : Int)) (by omega) ?_
              refine ar_putI 136 rfl d_X6_goOut_133 fl_X6_97 rfl rfl (by assumption) ?_
              generalize wI σ 625 14 ((j + 1 : Nat) : Int) = σ2 at hC2 hS2 hf2 ⊢
              have ht1 := hC2.top.1
              have c10 := hC2.2.1
              have k625 := hS2.k625
              have r11 := hS2.r11
              have k634 := hS2.k634
              have r12 := hS2.r12
              have k635 := hS2.k635
              have r9 := hS2.r9
              have k633 := hS2.k633
              refine ar_iload_n 137 rfl d_X6_goOut_136 rfl ?_
              refine ar_bipush 139 rfl d_X6_goOut_137 rfl ?_
              refine ar_icmp_ne 161 142 rfl rfl d_X6_goOut_139 (by omega) (by omega) (fun h => absurd rfl h) (fun g139 => ?_)
              refine ar_aload_n 143 rfl d_X6_goOut_142 rfl ?_
              refine ar_iload_n 144 rfl d_X6_goOut_143 rfl ?_
              refine ar_iconst 145 rfl d_X6_goOut_144 ?_
              refine ar_callV0 (M' := mX6_lay) (As := [_, _]) (ls' := [Va _, Vi _, Vi _]) 148 rfl d_X6_goOut_145 ml_X6_122 mt_X6_lay (by assumption) rfl (Nat.le_of_ble_eq_true rfl) rfl (Nat.le_of_ble_eq_true rfl) (by omega) ?_
              refine sp_X6_lay hS2 c10 (by omega) ?_
              have hC3 := hC2.lay (y := (o, 0)) (w := o + 1) (v := 0) (by unfold oK; rw [if_neg (by show ¬ o = 0; omega)]) (by unfold oA; rw [if_neg (by show ¬ (o = 0 ∧ _); omega)])
              have hS3 : Sh6 (wI (wI (wI σ2 632 c.length (o + 1)) 633 c.length 0) 625 10 ((c.length + 1 : Nat) : Int)) := hS2.e rfl
              have hf3 : FrC σ2 (wI (wI (wI σ2 632 c.length (o + 1)) 633 c.length 0) 625 10 ((c.length + 1 : Nat) : Int)) := (FrC.w (by omega)).tr ((FrC.w (by omega)).tr (FrC.w (by omega)))
              generalize wI (wI (wI σ2 632 c.length (o + 1)) 633 c.length 0) 625 10 ((c.length + 1 : Nat) : Int) = σ3 at hC3 hS3 hf3
              have ht3 := hC3.top.1
              have k625 := hS3.k625
              refine ar_aload_n 149 rfl d_X6_goOut_148 rfl ?_
              refine ar_dup 150 rfl d_X6_goOut_149 (fun _ => rfl) ?_
              refine ar_giv (y := ((T.length + 1 : Nat) : Int)) 153 rfl d_X6_goOut_150 fl_X6_107 rfl (by assumption) ht3 ?_
              refine ar_iconst 154 rfl d_X6_goOut_153 ?_
              refine ar_isub 155 rfl d_X6_goOut_154 ?_
              refine ar_top (y := (T.length : Int)) (by omega) ?_
              refine ar_putI 158 rfl d_X6_goOut_155 fl_X6_107 rfl rfl (by assumption) ?_
              refine ar_goto 267 rfl d_X6_goOut_158 ?_
              refine ar_goto 0 rfl d_X6_goOut_267 ?_
              exact ih (cs.length - (j + 1)) (by omega) (j + 1) _ 3 T _ _ _ _ rfl (by omega) (hf.tr (hf2.tr (hf3.tr (FrC.w (by omega))))) (hS3.e rfl) hC3.pop hR2 (by decide) Aft.three
            · refine ar_iconst 125 rfl d_X6_goOut_124 ?_
              refine WA.ret (some (Vi _)) ⟨d_X6_goOut_125, rfl, Or.inl rfl⟩ ?_
              exact K0 _ j hf hC.1 (hR.stuckA haf (by
                unfold aft
                simp only []
                rw [if_neg w10, if_neg w11, if_neg w12, if_neg w13]
                rw [if_neg g121]) (Or.inl (by simp)))
theorem sp_X6_compile {cs : List Int} {σ0 : Sg} (hS0 : Sh6 σ0) (hp : Pok cs) (h7 : hI σ0 625 7 = (cs.length : Int)) (hpad : ∀ (j : Nat) (x : Int), cs[j]? = some x → hI σ0 631 j = x) (hdp : 4 ≤ d)
    (hQ : ∀ σ', FrC σ0 σ' → (ffA cs = -6 → ∃ (c : Rcpe) (g : Nat), (rdT ([], 0, []) cs).2 = (c, g, []) ∧ Rd cs cs.length (c, g, []) ∧ 2 ≤ g ∧ Cp σ' cs cs.length c []) → Q (some (Vi (ffA cs))) σ') : WA G d k n mX6_compile 0 [Va 625, Vu] [] σ0 Q := by
  have hl60 := hp.1
  have fault : ∀ (σ' : Sg) (j : Nat), FrC σ0 σ' → ffA cs = (j : Int) → Q (some (Vi (j : Int))) σ' := by
    intro σ' j hf he
    rw [← he]
    exact hQ σ' hf (fun e => by omega)
  have loop : ∀ (r i : Nat) (c : Rcpe) (W : List (Int × Nat)) (σ : Sg), cs.length - i = r → FrC σ0 σ → Cp σ cs i c W → Rd cs i (c, 0, W) → WA G d k n mX6_compile 17 [Va 625, Vi 1] [] σ Q := by
    intro r
    induction r using Nat.strongRecOn with
    | ind r ih =>
    intro i c W σ hr9 hf hC hR
    have hS := hS0.e hf.1
    have k625 := hS.k625
    refine ar_iload_n 18 rfl d_X6_compile_17 rfl ?_
    refine ar_iconst 19 rfl d_X6_compile_18 ?_
    refine ar_icmp_ne 42 22 rfl rfl d_X6_compile_19 (by omega) (by omega) (fun h => absurd rfl h) (fun g19 => ?_)
    refine ar_aload_n 23 rfl d_X6_compile_22 rfl ?_
    refine ar_callV0 (M' := mX6_readSimple) (As := []) (ls' := [Va _, Vu, Vu]) 26 rfl d_X6_compile_23 ml_X6_131 mt_X6_readSimple (by assumption) rfl (Nat.le_of_ble_eq_true rfl) rfl (Nat.le_of_ble_eq_true rfl) (by omega) ?_
    refine sp_X6_readSimple (i0 := i) (σ0 := σ0) hp (by omega) (fun σ1 j f1 f2 f3 => ?_) (fun σ1 j c1 g1 W1 f1 f2 f3 f4 f5 f6 => ?_) _ i c W σ _ _ rfl (Nat.le_refl _) hf hS hC hR
    · have k625 := (hS0.e f1.1).k625
      refine ar_if_ne 34 29 rfl rfl d_X6_compile_26 (by omega) (fun h => absurd rfl h) (fun g26 => ?_)
      refine ar_aload_n 30 rfl d_X6_compile_29 rfl ?_
      refine ar_giv (y := (j : Int)) 33 rfl d_X6_compile_30 fl_X6_97 rfl (by assumption) f2 ?_
      refine WA.ret (some (Vi _)) ⟨d_X6_compile_33, rfl, Or.inl rfl⟩ ?_
      exact fault σ1 j f1 f3
    · have hS1 := hS0.e f1.1
      have k625 := hS1.k625
      obtain ⟨b1, b2, b3, b4, b5⟩ := f3.bd hp
      refine ar_if_ne 34 29 rfl rfl d_X6_compile_26 (by omega) (fun g26 => ?_) (fun h => absurd h (by decide))
      refine ar_aload_n 35 rfl d_X6_compile_34 rfl ?_
      refine ar_callV0 (M' := mX6_goOut) (As := []) (ls' := [Va _, Vu, Vu, Vu]) 38 rfl d_X6_compile_35 ml_X6_135 mt_X6_goOut (by assumption) rfl (Nat.le_of_ble_eq_true rfl) rfl (Nat.le_of_ble_eq_true rfl) (by omega) ?_
      refine sp_X6_goOut (j0 := j) (σ0 := σ0) hp (by omega) (fun σ2 j2 e1 e2 e3 => ?_) (fun σ2 j2 c2 W2 e1 e2 e3 e4 => ?_) (fun σ2 j2 c2 g2 e1 e2 e3 e4 e5 => ?_) _ j c1 g1 W1 σ1 _ _ _ rfl (Nat.le_refl _) f1 hS1 f2 f3 f4 f5
      · have k625 := (hS0.e e1.1).k625
        refine ar_ist_1 39 rfl d_X6_compile_38 rfl (by intro _ h; cases h) ?_
        refine ar_goto 17 rfl d_X6_compile_39 ?_
        refine ar_iload_n 18 rfl d_X6_compile_17 rfl ?_
        refine ar_iconst 19 rfl d_X6_compile_18 ?_
        refine ar_icmp_ne 42 22 rfl rfl d_X6_compile_19 (by omega) (by omega) (fun g19 => ?_) (fun h => absurd h (by decide))
        refine ar_iload_n 43 rfl d_X6_compile_42 rfl ?_
        refine ar_if_eq 57 46 rfl rfl d_X6_compile_43 (by omega) (fun g43 => ?_) (fun h => absurd rfl h)
        refine ar_aload_n 58 rfl d_X6_compile_57 rfl ?_
        refine ar_giv (y := (j2 : Int)) 61 rfl d_X6_compile_58 fl_X6_97 rfl (by assumption) e2 ?_
        refine ar_goto 66 rfl d_X6_compile_61 ?_
        refine WA.ret (some (Vi _)) ⟨d_X6_compile_66, rfl, Or.inl rfl⟩ ?_
        exact fault σ2 j2 e1 e3
      · refine ar_ist_1 39 rfl d_X6_compile_38 rfl (by intro _ h; cases h) ?_
        refine ar_goto 17 rfl d_X6_compile_39 ?_
        have := e3.1
        exact ih (cs.length - j2) (by omega) j2 c2 W2 σ2 rfl e1 e2 e3
      · have k625 := (hS0.e e1.1).k625
        obtain ⟨d1, d2, d3, d4, d5⟩ := e3.bd hp
        have q14 := e2.1
        have q7 := e2.2.2.2.2.2.1
        refine ar_ist_1 39 rfl d_X6_compile_38 rfl (by intro _ h; cases h) ?_
        refine ar_goto 17 rfl d_X6_compile_39 ?_
        refine ar_iload_n 18 rfl d_X6_compile_17 rfl ?_
        refine ar_iconst 19 rfl d_X6_compile_18 ?_
        refine ar_icmp_ne 42 22 rfl rfl d_X6_compile_19 (by omega) (by omega) (fun g19 => ?_) (fun h => absurd h (by decide))
        refine ar_iload_n 43 rfl d_X6_compile_42 rfl ?_
        refine ar_if_eq 57 46 rfl rfl d_X6_compile_43 (by omega) (fun h => absurd h (by decide)) (fun g43 => ?_)
        refine ar_aload_n 47 rfl d_X6_compile_46 rfl ?_
        refine ar_giv (y := (j2 : Int)) 50 rfl d_X6_compile_47 fl_X6_97 rfl (by assumption) q14 ?_
        refine ar_aload_n 51 rfl d_X6_compile_50 rfl ?_
        refine ar_giv (y := (cs.length : Int)) 54 rfl d_X6_compile_51 fl_X6_101 rfl (by assumption) q7 ?_
        refine ar_icmp_ge 64 57 rfl rfl d_X6_compile_54 (by omega) (by omega) (fun g54 => ?_) (fun g54 => ?_)
        · refine ar_bipush 66 rfl d_X6_compile_64 rfl ?_
          refine WA.ret (some (Vi _)) ⟨d_X6_compile_66, rfl, Or.inl rfl⟩ ?_
          have hj : j2 = cs.length := by omega
          subst hj
          have hfin := e3.fin
          have hff : ffA cs = -6 := by
            rw [hfin.2, if_pos ⟨by show g2 = 3 ∨ g2 = 2; omega, rfl⟩]
          have h9 := hQ σ2 e1 (fun _ => ⟨c2, g2, hfin.1, e3, e4, e2⟩)
          rw [hff] at h9
          exact h9
        · refine ar_aload_n 58 rfl d_X6_compile_57 rfl ?_
          refine ar_giv (y := (j2 : Int)) 61 rfl d_X6_compile_58 fl_X6_97 rfl (by assumption) q14 ?_
          refine ar_goto 66 rfl d_X6_compile_61 ?_
          refine WA.ret (some (Vi _)) ⟨d_X6_compile_66, rfl, Or.inl rfl⟩ ?_
          exact fault σ2 j2 e1 (e3.stuckA e5 rfl (Or.inr (by omega)))
  have k625 := hS0.k625
  have hC0 : Cp (wI (wI (wI σ0 625 14 0) 625 13 0) 625 10 0) cs 0 [] [] := by
    refine ⟨?_, ?_, ?_, fun j x h => (by simp at h), fun j x h => (by simp at h), ?_, fun j x hx => ?_⟩
    · rw [hI_w, if_neg (by omega), hI_w, if_neg (by omega), hI_w, if_pos ⟨rfl, rfl⟩]; rfl
    · rw [hI_w, if_pos ⟨rfl, rfl⟩]; rfl
    · rw [hI_w, if_neg (by omega), hI_w, if_pos ⟨rfl, rfl⟩]; rfl
    · rw [hI_w, if_neg (by omega), hI_w, if_neg (by omega), hI_w, if_neg (by omega)]; exact h7
    · rw [hI_off (by omega), hI_off (by omega), hI_off (by omega)]; exact hpad j x hx
  refine ar_aload_n 1 rfl d_X6_compile_0 rfl ?_
  refine ar_iconst 2 rfl d_X6_compile_1 ?_
  refine ar_putI 5 rfl d_X6_compile_2 fl_X6_97 rfl rfl (by assumption) ?_
  refine ar_aload_n 6 rfl d_X6_compile_5 rfl ?_
  refine ar_iconst 7 rfl d_X6_compile_6 ?_
  refine ar_putI 10 rfl d_X6_compile_7 fl_X6_107 rfl rfl (by assumption) ?_
  refine ar_aload_n 11 rfl d_X6_compile_10 rfl ?_
  refine ar_iconst 12 rfl d_X6_compile_11 ?_
  refine ar_putI 15 rfl d_X6_compile_12 fl_X6_104 rfl rfl (by assumption) ?_
  refine ar_iconst 16 rfl d_X6_compile_15 ?_
  refine ar_ist_1 17 rfl d_X6_compile_16 rfl (by intro _ h; cases h) ?_
  exact loop _ 0 [] [] _ rfl ((FrC.w (by omega)).tr ((FrC.w (by omega)).tr (FrC.w (by omega)))) hC0 (Rd.zero cs)
end REF12
