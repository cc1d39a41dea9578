-- ===== reading a recipe, in plain terms =====
abbrev RA : Type := Rcpe × Nat × List (Int × Nat)
def setO : Rcpe → Nat → Int → Rcpe
  | [], _, _ => []
  | x :: t, 0, v => (x.1, v) :: t
  | x :: t, k + 1, v => x :: setO t k v
def lastO (c : Rcpe) : Int := (c.getLast?.map (fun x => x.2)).getD 0
def aft (c : Rcpe) (W : List (Int × Nat)) (ch : Int) : Option RA :=
  match W with
  | [] => none
  | x :: T =>
    if x.1 = 10 then (if ch = 43 then some (c, 0, (2, x.2) :: T) else if ch = 45 then some (c, 0, (3, x.2) :: T) else if ch = 42 then some (c, 0, (4, x.2) :: T) else none)
    else if x.1 = 11 then (if ch = 63 then some (c ++ [(5, 0)], 0, (12, c.length) :: T) else none)
    else if x.1 = 12 then (if ch = 58 then some (setO (c ++ [(6, 0)]) x.2 ((c.length + 1 : Nat) : Int), 0, (13, c.length) :: T) else none)
    else if x.1 = 13 then (if ch = 125 then some (setO c x.2 (c.length : Int), 3, T) else none)
    else (if ch = 41 then some (c ++ [(x.1, 0)], 3, T) else none)
def stp (st : RA) (ch : Int) : Option RA :=
  if st.2.1 = 0 then
    (if ch = 40 then some (st.1, 0, (10, 0) :: st.2.2) else if ch = 123 then some (st.1, 0, (11, 0) :: st.2.2) else if ch = 35 then some (st.1, 1, st.2.2)
     else if 48 ≤ ch ∧ ch ≤ 57 then some (st.1 ++ [(1, ch - 48)], 2, st.2.2) else if 97 ≤ ch ∧ ch < 109 then some (st.1 ++ [(0, ch - 97)], 3, st.2.2) else none)
  else if st.2.1 = 1 then (if 48 ≤ ch ∧ ch < 53 then some (st.1 ++ [(0, 20 + (ch - 48))], 3, st.2.2) else none)
  else if st.2.1 = 2 ∧ 48 ≤ ch ∧ ch ≤ 57 then (if lastO st.1 = 0 ∨ 100 ≤ lastO st.1 * 10 + (ch - 48) then none else some (setO st.1 (st.1.length - 1) (lastO st.1 * 10 + (ch - 48)), 2, st.2.2))
  else aft st.1 st.2.2 ch
theorem setO_len : ∀ (c : Rcpe) (k : Nat) (v : Int), (setO c k v).length = c.length
  | [], _, _ => rfl
  | _ :: _, 0, _ => rfl
  | x :: t, k + 1, v => by
    rw [setO, List.length_cons, List.length_cons, setO_len t k v]
theorem setO_at : ∀ (c : Rcpe) (k i : Nat) (v : Int), (setO c k v)[i]? = (c[i]?).map (fun x => if i = k then (x.1, v) else x)
  | [], _, _, _ => rfl
  | x :: t, 0, i, v => by
    cases i with
    | zero => rfl
    | succ i =>
      rw [setO, List.getElem?_cons_succ, List.getElem?_cons_succ]
      cases t[i]? <;> simp
  | x :: t, k + 1, i, v => by
    cases i with
    | zero =>
      rw [setO]
      simp
    | succ i =>
      rw [setO, List.getElem?_cons_succ, List.getElem?_cons_succ, setO_at t k i v]
      cases t[i]? <;> simp
theorem setO_mem {c : Rcpe} {k : Nat} {v : Int} {y : Int × Int} (h : y ∈ setO c k v) : y ∈ c ∨ ∃ x ∈ c, c[k]? = some x ∧ y = (x.1, v) := by
  obtain ⟨i, hi⟩ := List.getElem?_of_mem h
  rw [setO_at] at hi
  cases hx : c[i]? with
  | none =>
    rw [hx] at hi
    cases hi
  | some x =>
    rw [hx, Option.map_some] at hi
    by_cases e : i = k
    · rw [if_pos e] at hi
      exact Or.inr ⟨x, List.mem_of_getElem? hx, e ▸ hx, (Option.some.inj hi).symm⟩
    · rw [if_neg e] at hi
      exact Or.inl (Option.some.inj hi ▸ List.mem_of_getElem? hx)
theorem setO_cnt : ∀ (c : Rcpe) (k : Nat) (v : Int) (x : Int × Int), c[k]? = some x → x.1 ≠ 0 → cParts (setO c k v) = cParts c ∧ cSh (setO c k v) = cSh c ∧ cLo (setO c k v) = cLo c
  | [], _, _, _, h, _ => by simp at h
  | y :: t, 0, v, x, h, hx => by
    simp only [List.getElem?_cons_zero] at h
    cases h
    refine ⟨?_, ?_, ?_⟩
    · unfold cParts
      rw [setO, List.filter_cons, List.filter_cons]
      split <;> rfl
    · rw [setO, cSh, cSh, if_neg (fun h => hx h.1), if_neg (fun h => hx h.1)]
    · rw [setO, cLo, cLo, if_neg (fun h => hx h.1), if_neg (fun h => hx h.1)]
  | y :: t, k + 1, v, x, h, hx => by
    rw [List.getElem?_cons_succ] at h
    obtain ⟨h1, h2, h3⟩ := setO_cnt t k v x h hx
    refine ⟨?_, ?_, ?_⟩
    · unfold cParts at h1 ⊢
      rw [setO, List.filter_cons, List.filter_cons]
      split
      · rw [List.length_cons, List.length_cons]
        omega
      · exact h1
    · rw [setO, cSh, cSh, h2]
    · rw [setO, cLo, cLo, h3]
theorem cSh_app : ∀ (c : Rcpe) (x : Int × Int), cSh (c ++ [x]) = cSh c ||| (if x.1 = 0 ∧ x.2 < 20 then 2 ^ x.2.toNat else 0)
  | [], x => by
    show (if x.1 = 0 ∧ x.2 < 20 then 2 ^ x.2.toNat else 0) ||| 0 = 0 ||| _
    rw [Nat.or_zero, Nat.zero_or]
  | y :: t, x => by
    rw [List.cons_append, cSh, cSh, cSh_app t x, Nat.or_assoc]
theorem cLo_app : ∀ (c : Rcpe) (x : Int × Int), cLo (c ++ [x]) = cLo c ||| (if x.1 = 0 ∧ 20 ≤ x.2 then 2 ^ (x.2 - 20).toNat else 0)
  | [], x => by
    show (if x.1 = 0 ∧ 20 ≤ x.2 then 2 ^ (x.2 - 20).toNat else 0) ||| 0 = 0 ||| _
    rw [Nat.or_zero, Nat.zero_or]
  | y :: t, x => by
    rw [List.cons_append, cLo, cLo, cLo_app t x, Nat.or_assoc]
theorem cParts_app (c : Rcpe) (x : Int × Int) : cParts (c ++ [x]) = cParts c + (if x.1 = 6 then 0 else 1) := by
  unfold cParts
  rw [List.filter_append, List.length_append]
  by_cases e : x.1 = 6
  · rw [if_pos e, List.filter_cons_of_neg (by simp [e])]
    simp
  · rw [if_neg e, List.filter_cons_of_pos (by simp [e])]
    simp
/-- an order of a recipe that is read -/
def Ok1 (x : Int × Int) : Prop := 0 ≤ x.1 ∧ x.1 ≤ 6 ∧ (x.1 = 0 → (0 ≤ x.2 ∧ x.2 < 12) ∨ (20 ≤ x.2 ∧ x.2 < 25)) ∧ (x.1 = 1 → 0 ≤ x.2 ∧ x.2 < 100) ∧ 0 ≤ x.2 ∧ x.2 ≤ 1000
/-- an open bracket -/
def OkW (c : Rcpe) (x : Int × Nat) : Prop := (2 ≤ x.1 ∧ x.1 ≤ 4) ∨ x.1 = 10 ∨ x.1 = 11 ∨ (x.1 = 12 ∧ ∃ v, c[x.2]? = some (5, v)) ∨ (x.1 = 13 ∧ ∃ v, c[x.2]? = some (6, v))
/-- what holds behind i characters -/
def RI (i : Nat) (st : RA) : Prop := st.1.length ≤ i ∧ st.2.2.length ≤ i ∧ st.2.1 ≤ 3 ∧ (st.2.1 = 2 → ∃ c' v, st.1 = c' ++ [(1, v)]) ∧ (∀ x ∈ st.2.2, OkW st.1 x) ∧ (∀ x ∈ st.1, Ok1 x) ∧ (st.1.length < i ∨ (i = 0 ∧ st.2.1 = 0) ∨ (i = 1 ∧ st.2.2 = [] ∧ 2 ≤ st.2.1))
theorem OkW.app {c : Rcpe} {x : Int × Nat} (h : OkW c x) (y : Int × Int) : OkW (c ++ [y]) x := by
  have key : ∀ z, c[x.2]? = some z → (c ++ [y])[x.2]? = some z := by
    intro z hz
    rw [List.getElem?_append_left (List.getElem?_eq_some_iff.mp hz).1]
    exact hz
  rcases h with h | h | h | ⟨h, v, hv⟩ | ⟨h, v, hv⟩
  · exact Or.inl h
  · exact Or.inr (Or.inl h)
  · exact Or.inr (Or.inr (Or.inl h))
  · exact Or.inr (Or.inr (Or.inr (Or.inl ⟨h, v, key _ hv⟩)))
  · exact Or.inr (Or.inr (Or.inr (Or.inr ⟨h, v, key _ hv⟩)))
theorem OkW.set {c : Rcpe} {x : Int × Nat} (h : OkW c x) (k : Nat) (v : Int) : OkW (setO c k v) x := by
  have key : ∀ o z, c[x.2]? = some (o, z) → ∃ z', (setO c k v)[x.2]? = some (o, z') := by
    intro o z hz
    rw [setO_at, hz, Option.map_some]
    by_cases e : x.2 = k
    · exact ⟨v, by rw [if_pos e]⟩
    · exact ⟨z, by rw [if_neg e]⟩
  rcases h with h | h | h | ⟨h, z, hz⟩ | ⟨h, z, hz⟩
  · exact Or.inl h
  · exact Or.inr (Or.inl h)
  · exact Or.inr (Or.inr (Or.inl h))
  · exact Or.inr (Or.inr (Or.inr (Or.inl ⟨h, key _ _ hz⟩)))
  · exact Or.inr (Or.inr (Or.inr (Or.inr ⟨h, key _ _ hz⟩)))
theorem ok_app {c : Rcpe} {y : Int × Int} (h : ∀ x ∈ c, Ok1 x) (hy : Ok1 y) : ∀ x ∈ c ++ [y], Ok1 x := by
  intro x hx
  rcases List.mem_append.mp hx with e | e
  · exact h x e
  · rw [List.mem_singleton.mp e]
    exact hy
theorem ok_set {c : Rcpe} {k : Nat} {v : Int} (h : ∀ x ∈ c, Ok1 x) (hv : ∀ x, c[k]? = some x → Ok1 (x.1, v)) : ∀ x ∈ setO c k v, Ok1 x := by
  intro x hx
  rcases setO_mem hx with e | ⟨y, _, e1, e2⟩
  · exact h x e
  · rw [e2]
    exact hv y e1
theorem app_last (c : Rcpe) (y : Int × Int) : (c ++ [y])[c.length]? = some y := by
  rw [List.getElem?_append_right (Nat.le_refl _), Nat.sub_self]
  rfl
theorem RI.next {i : Nat} {st st' : RA} {ch : Int} (h : RI i st) (hi : i < 60) (hs : stp st ch = some st') : RI (i + 1) st' := by
  obtain ⟨c, g, W⟩ := st
  obtain ⟨h1, h2, h3, h4, h5, h6, h7⟩ := h
  have h1 : c.length ≤ i := h1
  have h2 : W.length ≤ i := h2
  have h3 : g ≤ 3 := h3
  have h4 : g = 2 → ∃ c' v, c = c' ++ [(1, v)] := h4
  have h5 : ∀ x ∈ W, OkW c x := h5
  have h6 : ∀ x ∈ c, Ok1 x := h6
  have h7 : c.length < i ∨ (i = 0 ∧ g = 0) ∨ (i = 1 ∧ W = [] ∧ 2 ≤ g) := h7
  unfold stp at hs
  simp only [] at hs
  by_cases g0 : g = 0
  · rw [if_pos g0] at hs
    have h7 : c.length < i ∨ i = 0 := by omega
    by_cases c1 : ch = 40
    · rw [if_pos c1] at hs
      cases hs
      refine ⟨by show c.length ≤ i + 1; omega, by simp only [List.length_cons]; omega, (by dsimp only; omega), (fun h => by cases h), fun x hx => ?_, h6, Or.inl (by show c.length < i + 1; omega)⟩
      rcases List.mem_cons.mp hx with e | e
      · rw [e]
        exact Or.inr (Or.inl rfl)
      · exact h5 x e
    · rw [if_neg c1] at hs
      by_cases c2 : ch = 123
      · rw [if_pos c2] at hs
        cases hs
        refine ⟨by show c.length ≤ i + 1; omega, by simp only [List.length_cons]; omega, (by dsimp only; omega), (fun h => by cases h), fun x hx => ?_, h6, Or.inl (by show c.length < i + 1; omega)⟩
        rcases List.mem_cons.mp hx with e | e
        · rw [e]
          exact Or.inr (Or.inr (Or.inl rfl))
        · exact h5 x e
      · rw [if_neg c2] at hs
        by_cases c3 : ch = 35
        · rw [if_pos c3] at hs
          cases hs
          exact ⟨by show c.length ≤ i + 1; omega, by show W.length ≤ i + 1; omega, (by dsimp only; omega), (fun h => by cases h), h5, h6, Or.inl (by show c.length < i + 1; omega)⟩
        · rw [if_neg c3] at hs
          have hW : i = 0 → W = [] := fun e => List.length_eq_zero_iff.mp (by omega)
          by_cases c4 : 48 ≤ ch ∧ ch ≤ 57
          · rw [if_pos c4] at hs
            cases hs
            refine ⟨by simp only [List.length_append, List.length_cons, List.length_nil]; omega, by show W.length ≤ i + 1; omega, (by dsimp only; omega), fun _ => ⟨c, _, rfl⟩, fun x hx => (h5 x hx).app _, ok_app h6 ?_, ?_⟩
            · refine ⟨(by dsimp only; omega), (by dsimp only; omega), (fun h => by cases h), fun _ => ?_, ?_, ?_⟩ <;> simp only [] <;> omega
            · simp only [List.length_append, List.length_cons, List.length_nil]
              rcases h7 with e | e
              · exact Or.inl (by omega)
              · exact Or.inr (Or.inr ⟨by omega, hW e, by omega⟩)
          · rw [if_neg c4] at hs
            by_cases c5 : 97 ≤ ch ∧ ch < 109
            · rw [if_pos c5] at hs
              cases hs
              refine ⟨by simp only [List.length_append, List.length_cons, List.length_nil]; omega, by show W.length ≤ i + 1; omega, (by dsimp only; omega), (fun h => by cases h), fun x hx => (h5 x hx).app _, ok_app h6 ?_, ?_⟩
              · refine ⟨(by dsimp only; omega), (by dsimp only; omega), fun _ => ?_, (fun h => by cases h), ?_, ?_⟩ <;> simp only [] <;> omega
              · simp only [List.length_append, List.length_cons, List.length_nil]
                rcases h7 with e | e
                · exact Or.inl (by omega)
                · exact Or.inr (Or.inr ⟨by omega, hW e, by omega⟩)
            · rw [if_neg c5] at hs
              cases hs
  · rw [if_neg g0] at hs
    by_cases g1 : g = 1
    · rw [if_pos g1] at hs
      by_cases c1 : 48 ≤ ch ∧ ch < 53
      · rw [if_pos c1] at hs
        cases hs
        refine ⟨by simp only [List.length_append, List.length_cons, List.length_nil]; omega, by show W.length ≤ i + 1; omega, (by dsimp only; omega), (fun h => by cases h), fun x hx => (h5 x hx).app _, ok_app h6 ?_, Or.inl ?_⟩
        · refine ⟨(by dsimp only; omega), (by dsimp only; omega), fun _ => ?_, (fun h => by cases h), ?_, ?_⟩ <;> simp only [] <;> omega
        · simp only [List.length_append, List.length_cons, List.length_nil]
          omega
      · rw [if_neg c1] at hs
        cases hs
    · rw [if_neg g1] at hs
      by_cases g2 : g = 2 ∧ 48 ≤ ch ∧ ch ≤ 57
      · rw [if_pos g2] at hs
        obtain ⟨c', v, rfl⟩ := h4 g2.1
        have hl : lastO (c' ++ [(1, v)]) = v := by
          unfold lastO
          rw [List.getLast?_append]
          simp
        rw [hl] at hs
        have hlen : (c' ++ [((1 : Int), v)]).length - 1 = c'.length := by simp
        have hok := h6 (1, v) (by simp)
        by_cases c1 : v = 0 ∨ 100 ≤ v * 10 + (ch - 48)
        · rw [if_pos c1] at hs
          cases hs
        · rw [if_neg c1, hlen] at hs
          cases hs
          have hv := hok.2.2.2.1 rfl
          have hv : 0 ≤ v ∧ v < 100 := hv
          have hset : ∀ (a : Rcpe), setO (a ++ [((1 : Int), v)]) a.length (v * 10 + (ch - 48)) = a ++ [(1, v * 10 + (ch - 48))] := by
            intro a
            induction a with
            | nil => rfl
            | cons x t ih =>
              show x :: setO (t ++ [((1 : Int), v)]) t.length _ = _
              rw [ih]
              rfl
          refine ⟨by rw [setO_len]; omega, by show W.length ≤ i + 1; omega, (by dsimp only; omega), fun _ => ⟨c', _, hset c'⟩, fun x hx => (h5 x hx).set _ _, ok_set h6 (fun x hx => ?_), Or.inl (by rw [setO_len]; omega)⟩
          rw [app_last] at hx
          cases hx
          refine ⟨(by dsimp only; omega), (by dsimp only; omega), (fun h => by cases h), fun _ => ?_, ?_, ?_⟩ <;> simp only [] <;> omega
      · rw [if_neg g2] at hs
        unfold aft at hs
        cases W with
        | nil => cases hs
        | cons x T =>
          have h7 : c.length < i := by
            rcases h7 with e | e | e
            · exact e
            · exact absurd e.2 g0
            · exact absurd e.2.1 (by simp)
          have hx := h5 x List.mem_cons_self
          have hT : ∀ y ∈ T, OkW c y := fun y hy => h5 y (List.mem_cons_of_mem _ hy)
          have h2 : T.length + 1 ≤ i := h2
          simp only [] at hs
          have hop : ∀ o : Int, 2 ≤ o ∧ o ≤ 4 → RI (i + 1) (c, 0, (o, x.2) :: T) := by
            intro o ho
            refine ⟨by show c.length ≤ i + 1; omega, by simp only [List.length_cons]; omega, (by dsimp only; omega), (fun h => by cases h), fun y hy => ?_, h6, Or.inl (by show c.length < i + 1; omega)⟩
            rcases List.mem_cons.mp hy with e | e
            · rw [e]
              exact Or.inl ho
            · exact hT y e
          by_cases w10 : x.1 = 10
          · rw [if_pos w10] at hs
            by_cases c1 : ch = 43
            · rw [if_pos c1] at hs
              cases hs
              exact hop 2 (by decide)
            · rw [if_neg c1] at hs
              by_cases c2 : ch = 45
              · rw [if_pos c2] at hs
                cases hs
                exact hop 3 (by decide)
              · rw [if_neg c2] at hs
                by_cases c3 : ch = 42
                · rw [if_pos c3] at hs
                  cases hs
                  exact hop 4 (by decide)
                · rw [if_neg c3] at hs
                  cases hs
          · rw [if_neg w10] at hs
            by_cases w11 : x.1 = 11
            · rw [if_pos w11] at hs
              by_cases c1 : ch = 63
              · rw [if_pos c1] at hs
                cases hs
                refine ⟨by simp only [List.length_append, List.length_cons, List.length_nil]; omega, by simp only [List.length_cons]; omega, (by dsimp only; omega), (fun h => by cases h), fun y hy => ?_, ok_app h6 ?_, Or.inl (by simp only [List.length_append, List.length_cons, List.length_nil]; omega)⟩
                · rcases List.mem_cons.mp hy with e | e
                  · rw [e]
                    exact Or.inr (Or.inr (Or.inr (Or.inl ⟨rfl, 0, app_last c _⟩)))
                  · exact (hT y e).app _
                · exact ⟨(by dsimp only; omega), (by dsimp only; omega), (fun h => by cases h), (fun h => by cases h), (by dsimp only; omega), (by dsimp only; omega)⟩
              · rw [if_neg c1] at hs
                cases hs
            · rw [if_neg w11] at hs
              by_cases w12 : x.1 = 12
              · rw [if_pos w12] at hs
                by_cases c1 : ch = 58
                · rw [if_pos c1] at hs
                  cases hs
                  refine ⟨by rw [setO_len]; simp only [List.length_append, List.length_cons, List.length_nil]; omega, by simp only [List.length_cons]; omega, (by dsimp only; omega), (fun h => by cases h), fun y hy => ?_, ok_set (ok_app h6 ?_) (fun y hy => ?_), Or.inl (by rw [setO_len]; simp only [List.length_append, List.length_cons, List.length_nil]; omega)⟩
                  · refine OkW.set ?_ _ _
                    rcases List.mem_cons.mp hy with e | e
                    · rw [e]
                      exact Or.inr (Or.inr (Or.inr (Or.inr ⟨rfl, 0, app_last c _⟩)))
                    · exact (hT y e).app _
                  · exact ⟨(by dsimp only; omega), (by dsimp only; omega), (fun h => by cases h), (fun h => by cases h), (by dsimp only; omega), (by dsimp only; omega)⟩
                  · have hx5 : ∃ v, c[x.2]? = some (5, v) := by
                      rcases hx with e | e | e | e | e
                      · omega
                      · omega
                      · omega
                      · exact e.2
                      · omega
                    obtain ⟨v, hv⟩ := hx5
                    rw [List.getElem?_append_left (List.getElem?_eq_some_iff.mp hv).1, hv] at hy
                    cases hy
                    refine ⟨(by dsimp only; omega), (by dsimp only; omega), (fun h => by cases h), (fun h => by cases h), ?_, ?_⟩ <;> simp only [] <;> omega
                · rw [if_neg c1] at hs
                  cases hs
              · rw [if_neg w12] at hs
                by_cases w13 : x.1 = 13
                · rw [if_pos w13] at hs
                  by_cases c1 : ch = 125
                  · rw [if_pos c1] at hs
                    cases hs
                    refine ⟨by rw [setO_len]; omega, by show T.length ≤ i + 1; omega, (by dsimp only; omega), (fun h => by cases h), fun y hy => (hT y hy).set _ _, ok_set h6 (fun y hy => ?_), Or.inl (by rw [setO_len]; omega)⟩
                    have hx6 : ∃ v, c[x.2]? = some (6, v) := by
                      rcases hx with e | e | e | e | e
                      · omega
                      · omega
                      · omega
                      · omega
                      · exact e.2
                    obtain ⟨v, hv⟩ := hx6
                    rw [hv] at hy
                    cases hy
                    refine ⟨(by dsimp only; omega), (by dsimp only; omega), (fun h => by cases h), (fun h => by cases h), ?_, ?_⟩ <;> simp only [] <;> omega
                  · rw [if_neg c1] at hs
                    cases hs
                · rw [if_neg w13] at hs
                  by_cases c1 : ch = 41
                  · rw [if_pos c1] at hs
                    cases hs
                    have ho : 2 ≤ x.1 ∧ x.1 ≤ 4 := by
                      rcases hx with e | e | e | e | e
                      · exact e
                      · omega
                      · omega
                      · omega
                      · omega
                    refine ⟨by simp only [List.length_append, List.length_cons, List.length_nil]; omega, by show T.length ≤ i + 1; omega, (by dsimp only; omega), (fun h => by cases h), fun y hy => (hT y hy).app _, ok_app h6 ?_, Or.inl (by simp only [List.length_append, List.length_cons, List.length_nil]; omega)⟩
                    refine ⟨?_, ?_, (fun h => ?_), (fun h => ?_), ?_, ?_⟩ <;> simp only [] at * <;> omega
                  · rw [if_neg c1] at hs
                    cases hs
