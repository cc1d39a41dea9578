-- ===== how high the pile is: reading gives it =====
def sH : List (Int × Nat) → Nat
  | [] => 0
  | x :: T => (if 2 ≤ x.1 ∧ x.1 ≤ 4 then 1 else 0) + sH T
def wW : List (Int × Nat) → Nat
  | [] => 0
  | x :: T => (if 2 ≤ x.1 ∧ x.1 ≤ 4 then 3 else 1) + wW T
theorem sH_w : ∀ W, 3 * sH W ≤ wW W
  | [] => Nat.le_refl _
  | x :: T => by
    have := sH_w T
    rw [sH, wW]
    split <;> omega
def gv (g : Nat) : Nat := if 2 ≤ g then 1 else 0
def PW (n : Nat) (hs : Nat → Nat) : List (Int × Nat) → Prop
  | [] => True
  | x :: T => ((x.1 = 12 ∨ x.1 = 13) → x.2 < n ∧ hs x.2 = sH T + 1) ∧ PW n hs T
def HO (c : Rcpe) (hs : Nat → Nat) (W : List (Int × Nat)) : Prop := ∀ i x, c[i]? = some x → (x.1 ≤ 1 → hs (i + 1) = hs i + 1) ∧ (2 ≤ x.1 → x.1 ≤ 4 → 2 ≤ hs i ∧ hs (i + 1) + 1 = hs i) ∧ (x.1 = 5 → 1 ≤ hs i ∧ hs (i + 1) + 1 = hs i ∧ ((12, i) ∈ W ∨ (i < x.2.toNat ∧ x.2.toNat ≤ c.length ∧ hs x.2.toNat + 1 = hs i))) ∧ (x.1 = 6 → ((13, i) ∈ W ∨ (i < x.2.toNat ∧ x.2.toNat ≤ c.length ∧ hs x.2.toNat = hs i)))
def HV (i : Nat) (st : RA) : Prop := ∃ hs : Nat → Nat, hs 0 = 0 ∧ hs st.1.length = sH st.2.2 + gv st.2.1 ∧ (∀ j, j ≤ st.1.length → hs j ≤ 38) ∧ HO st.1 hs st.2.2 ∧ PW st.1.length hs st.2.2 ∧ wW st.2.2 + gv st.2.1 ≤ i
theorem HV.ht {i : Nat} {c : Rcpe} {g : Nat} (h : HV i (c, g, [])) (hg : 2 ≤ g) : ∃ hs, HtC c hs := by
  obtain ⟨hs, h0, h1, h2, h3, h4, h5⟩ := h
  refine ⟨hs, h0, ?_, h2, fun j x hx => ?_⟩
  · have h1 : hs c.length = sH [] + gv g := h1
    rw [h1]
    unfold gv
    rw [if_pos hg]
    rfl
  · obtain ⟨a1, a2, a3, a4⟩ := h3 j x hx
    refine ⟨a1, a2, fun e => ?_, fun e => ?_⟩
    · obtain ⟨b1, b2, b3⟩ := a3 e
      rcases b3 with b | b
      · exact absurd b (List.not_mem_nil)
      · exact ⟨b1, b2, b⟩
    · rcases a4 e with b | b
      · exact absurd b (List.not_mem_nil)
      · exact b
def uh (hs : Nat → Nat) (k v : Nat) : Nat → Nat := fun j => if j = k then v else hs j
theorem uh_s (hs : Nat → Nat) (k v : Nat) : uh hs k v k = v := if_pos rfl
theorem uh_n {hs : Nat → Nat} {k v j : Nat} (h : j ≠ k) : uh hs k v j = hs j := if_neg h
theorem PW.app {n v : Nat} {hs : Nat → Nat} : ∀ {W : List (Int × Nat)}, PW n hs W → PW (n + 1) (uh hs (n + 1) v) W
  | [], _ => trivial
  | x :: T, h => ⟨fun e => by
      have h1 := h.1 e
      rw [uh_n (by omega)]
      exact ⟨by omega, h1.2⟩, PW.app h.2⟩
theorem HO.mono {c : Rcpe} {hs : Nat → Nat} {W W' : List (Int × Nat)} (h : HO c hs W) (hW : ∀ p ∈ W, p.1 = 12 ∨ p.1 = 13 → p ∈ W') : HO c hs W' := by
  intro i x hx
  obtain ⟨a1, a2, a3, a4⟩ := h i x hx
  refine ⟨a1, a2, fun e => ?_, fun e => ?_⟩
  · obtain ⟨b1, b2, b3⟩ := a3 e
    exact ⟨b1, b2, b3.imp (fun m => hW _ m (Or.inl rfl)) id⟩
  · exact (a4 e).imp (fun m => hW _ m (Or.inr rfl)) id
theorem HO.app {c : Rcpe} {hs : Nat → Nat} {W : List (Int × Nat)} {y : Int × Int} {v : Nat} (h : HO c hs W) (hy : (y.1 ≤ 1 → v = hs c.length + 1) ∧ (2 ≤ y.1 → y.1 ≤ 4 → 2 ≤ hs c.length ∧ v + 1 = hs c.length) ∧ (y.1 = 5 → 1 ≤ hs c.length ∧ v + 1 = hs c.length ∧ (12, c.length) ∈ W) ∧ (y.1 = 6 → (13, c.length) ∈ W)) : HO (c ++ [y]) (uh hs (c.length + 1) v) W := by
  intro i x hx
  have hi := (List.getElem?_eq_some_iff.mp hx).1
  rw [List.length_append] at hi
  have hi : i < c.length + 1 := hi
  by_cases e : i < c.length
  · rw [List.getElem?_append_left e] at hx
    obtain ⟨a1, a2, a3, a4⟩ := h i x hx
    rw [uh_n (by omega), uh_n (by omega)]
    refine ⟨a1, a2, fun e5 => ?_, fun e6 => ?_⟩
    · obtain ⟨b1, b2, b3⟩ := a3 e5
      refine ⟨b1, b2, b3.imp id (fun q => ?_)⟩
      rw [uh_n (by omega), List.length_append]
      exact ⟨q.1, by omega, q.2.2⟩
    · refine (a4 e6).imp id (fun q => ?_)
      rw [uh_n (by omega), List.length_append]
      exact ⟨q.1, by omega, q.2.2⟩
  · have e2 : i = c.length := by omega
    subst e2
    rw [app_last] at hx
    cases hx
    rw [uh_s, uh_n (by omega)]
    exact ⟨hy.1, hy.2.1, fun e5 => ⟨(hy.2.2.1 e5).1, (hy.2.2.1 e5).2.1, Or.inl (hy.2.2.1 e5).2.2⟩, fun e6 => Or.inl (hy.2.2.2 e6)⟩
theorem HO.set {c : Rcpe} {hs : Nat → Nat} {W W' : List (Int × Nat)} {k v : Nat} {x : Int × Int} (h : HO c hs W) (hx : c[k]? = some x) (h5 : x.1 = 5 → k < v ∧ v ≤ c.length ∧ hs v + 1 = hs k) (h6 : x.1 = 6 → k < v ∧ v ≤ c.length ∧ hs v = hs k) (hW : ∀ p ∈ W, p.1 = 12 ∨ p.1 = 13 → p.2 ≠ k → p ∈ W') : HO (setO c k (v : Int)) hs W' := by
  intro i y hy
  rw [setO_at] at hy
  rw [setO_len]
  by_cases e : i = k
  · subst e
    rw [hx] at hy
    rw [Option.map_some, if_pos rfl] at hy
    cases hy
    obtain ⟨a1, a2, a3, a4⟩ := h i x hx
    refine ⟨a1, a2, fun e5 => ⟨(a3 e5).1, (a3 e5).2.1, Or.inr ?_⟩, fun e6 => Or.inr ?_⟩
    · show i < ((v : Int)).toNat ∧ ((v : Int)).toNat ≤ c.length ∧ hs ((v : Int)).toNat + 1 = hs i
      rw [Int.toNat_natCast]
      exact h5 e5
    · show i < ((v : Int)).toNat ∧ ((v : Int)).toNat ≤ c.length ∧ hs ((v : Int)).toNat = hs i
      rw [Int.toNat_natCast]
      exact h6 e6
  · cases hc : c[i]? with
    | none =>
      rw [hc] at hy
      cases hy
    | some z =>
      rw [hc, Option.map_some, if_neg e] at hy
      cases hy
      obtain ⟨a1, a2, a3, a4⟩ := h i y hc
      refine ⟨a1, a2, fun e5 => ⟨(a3 e5).1, (a3 e5).2.1, (a3 e5).2.2.imp (fun m => hW _ m (Or.inl rfl) e) id⟩, fun e6 => (a4 e6).imp (fun m => hW _ m (Or.inr rfl) e) id⟩
theorem HO.setn {c : Rcpe} {hs : Nat → Nat} {W : List (Int × Nat)} {k : Nat} {v : Int} {x : Int × Int} (h : HO c hs W) (hx : c[k]? = some x) (h1 : x.1 ≤ 4) : HO (setO c k v) hs W := by
  intro i y hy
  rw [setO_at] at hy
  rw [setO_len]
  cases hc : c[i]? with
  | none =>
    rw [hc] at hy
    cases hy
  | some z =>
    have h9 := h i z hc
    rw [hc, Option.map_some] at hy
    by_cases e : i = k
    · subst e
      rw [hx] at hc
      cases hc
      rw [if_pos rfl] at hy
      cases hy
      exact ⟨h9.1, h9.2.1, fun e5 => absurd e5 (by show ¬ x.1 = 5; omega), fun e6 => absurd e6 (by show ¬ x.1 = 6; omega)⟩
    · rw [if_neg e] at hy
      cases hy
      exact h9
theorem bd_app {hs : Nat → Nat} {n v : Nat} (h : ∀ j, j ≤ n → hs j ≤ 38) (hv : v ≤ 38) : ∀ j, j ≤ n + 1 → uh hs (n + 1) v j ≤ 38 := by
  intro j hj
  unfold uh
  split
  · exact hv
  · exact h j (by omega)
theorem HV.next {i : Nat} {st st' : RA} {ch : Int} (h : HV i st) (hr : RI i st) (hi : i < 60) (hs : stp st ch = some st') : HV (i + 1) st' := by
  obtain ⟨c, g, W⟩ := st
  obtain ⟨hh, p0, p1, p2, p3, p4, p5⟩ := h
  obtain ⟨h1, h2, h3, h4, h5, h6, h7⟩ := hr
  have p1 : hh c.length = sH W + gv g := p1
  have p2 : ∀ j, j ≤ c.length → hh j ≤ 38 := p2
  have p3 : HO c hh W := p3
  have p4 : PW c.length hh W := p4
  have p5 : wW W + gv g ≤ i := p5
  have h4 : g = 2 → ∃ c' v, c = c' ++ [(1, v)] := h4
  have h5 : ∀ x ∈ W, OkW c x := h5
  have hsw := sH_w W
  have hla : ∀ y : Int × Int, (c ++ [y]).length = c.length + 1 := fun y => by rw [List.length_append]; rfl
  unfold stp at hs
  simp only [] at hs
  have simple : gv g = 0 → ∀ (y : Int × Int) (g' : Nat), 0 ≤ y.1 → y.1 ≤ 1 → 2 ≤ g' → HV (i + 1) (c ++ [y], g', W) := by
    intro hg0 y g' hy0 hy1 hg'
    refine ⟨uh hh (c.length + 1) (sH W + 1), ?_, ?_, ?_, p3.app ⟨fun _ => by omega, fun e => by omega, fun e => by omega, fun e => by omega⟩, ?_, ?_⟩
    · rw [uh_n (by omega)]; exact p0
    · show uh hh (c.length + 1) (sH W + 1) (c ++ [y]).length = sH W + gv g'
      rw [hla, uh_s]
      unfold gv
      rw [if_pos hg']
    · show ∀ j, j ≤ (c ++ [y]).length → _
      rw [hla]
      exact bd_app p2 (by omega)
    · show PW (c ++ [y]).length _ W
      rw [hla]
      exact p4.app
    · show wW W + gv g' ≤ i + 1
      unfold gv
      rw [if_pos hg']
      omega
  have open9 : gv g = 0 → ∀ o : Int, o = 10 ∨ o = 11 → HV (i + 1) (c, 0, (o, 0) :: W) := by
    intro hg0 o ho
    have e1 : sH ((o, 0) :: W) = sH W := by
      rw [sH, if_neg (by show ¬ (2 ≤ o ∧ o ≤ 4); omega), Nat.zero_add]
    have e2 : wW ((o, 0) :: W) = 1 + wW W := by
      rw [wW, if_neg (by show ¬ (2 ≤ o ∧ o ≤ 4); omega)]
    refine ⟨hh, p0, ?_, p2, p3.mono (fun p hp _ => List.mem_cons_of_mem _ hp), ⟨fun e => ?_, p4⟩, ?_⟩
    · show hh c.length = sH ((o, 0) :: W) + gv 0
      rw [e1, p1, hg0]
      rfl
    · have e : o = 12 ∨ o = 13 := e
      omega
    · show wW ((o, 0) :: W) + gv 0 ≤ i + 1
      rw [e2]
      show 1 + wW W + 0 ≤ i + 1
      omega
  by_cases g0 : g = 0
  · have hg0 : gv g = 0 := by unfold gv; rw [if_neg (by omega)]
    rw [if_pos g0] at hs
    by_cases c1 : ch = 40
    · rw [if_pos c1] at hs
      cases hs
      exact open9 hg0 10 (Or.inl rfl)
    · rw [if_neg c1] at hs
      by_cases c2 : ch = 123
      · rw [if_pos c2] at hs
        cases hs
        exact open9 hg0 11 (Or.inr rfl)
      · rw [if_neg c2] at hs
        by_cases c3 : ch = 35
        · rw [if_pos c3] at hs
          cases hs
          refine ⟨hh, p0, ?_, p2, p3, p4, ?_⟩
          · show hh c.length = sH W + gv 1
            rw [p1, hg0]
            rfl
          · show wW W + gv 1 ≤ i + 1
            show wW W + 0 ≤ i + 1
            omega
        · rw [if_neg c3] at hs
          by_cases c4 : 48 ≤ ch ∧ ch ≤ 57
          · rw [if_pos c4] at hs
            cases hs
            exact simple hg0 _ _ (by show (0 : Int) ≤ 1; decide) (by show (1 : Int) ≤ 1; decide) (by decide)
          · rw [if_neg c4] at hs
            by_cases c5 : 97 ≤ ch ∧ ch < 109
            · rw [if_pos c5] at hs
              cases hs
              exact simple hg0 _ _ (by show (0 : Int) ≤ 0; decide) (by show (0 : Int) ≤ 1; decide) (by decide)
            · rw [if_neg c5] at hs
              cases hs
  · rw [if_neg g0] at hs
    by_cases g1 : g = 1
    · have hg0 : gv g = 0 := by unfold gv; rw [if_neg (by omega)]
      rw [if_pos g1] at hs
      by_cases c1 : 48 ≤ ch ∧ ch < 53
      · rw [if_pos c1] at hs
        cases hs
        exact simple hg0 _ _ (by show (0 : Int) ≤ 0; decide) (by show (0 : Int) ≤ 1; decide) (by decide)
      · rw [if_neg c1] at hs
        cases hs
    · have hg1 : gv g = 1 := by unfold gv; rw [if_pos (by omega)]
      rw [if_neg g1] at hs
      by_cases g2 : g = 2 ∧ 48 ≤ ch ∧ ch ≤ 57
      · rw [if_pos g2] at hs
        by_cases c1 : lastO c = 0 ∨ 100 ≤ lastO c * 10 + (ch - 48)
        · rw [if_pos c1] at hs
          cases hs
        · rw [if_neg c1] at hs
          cases hs
          obtain ⟨c', v, hcv⟩ := h4 g2.1
          have hlast : c[c.length - 1]? = some (1, v) := by
            rw [hcv]
            have : (c' ++ [((1 : Int), v)]).length - 1 = c'.length := by simp
            rw [this, app_last]
          refine ⟨hh, p0, ?_, ?_, p3.setn hlast (by show (1 : Int) ≤ 4; decide), ?_, ?_⟩
          · show hh (setO c (c.length - 1) _).length = sH W + gv 2
            rw [setO_len, p1, hg1]
            rfl
          · show ∀ j, j ≤ (setO c (c.length - 1) _).length → _
            rw [setO_len]
            exact p2
          · show PW (setO c (c.length - 1) _).length hh W
            rw [setO_len]
            exact p4
          · show wW W + 1 ≤ i + 1
            omega
      · rw [if_neg g2] at hs
        unfold aft at hs
        cases W with
        | nil => cases hs
        | cons x T =>
          obtain ⟨o, e⟩ := x
          have hx := h5 (o, e) List.mem_cons_self
          obtain ⟨q1, q2⟩ := p4
          have hsT := sH_w T
          simp only [] at hs
          have hop : o = 10 → ∀ o' : Int, 2 ≤ o' ∧ o' ≤ 4 → HV (i + 1) (c, 0, (o', e) :: T) := by
            intro ho o' ho'
            have e1 : sH ((o, e) :: T) = sH T := by
              rw [sH, if_neg (by show ¬ (2 ≤ o ∧ o ≤ 4); omega), Nat.zero_add]
            have e2 : wW ((o, e) :: T) = 1 + wW T := by
              rw [wW, if_neg (by show ¬ (2 ≤ o ∧ o ≤ 4); omega)]
            have e3 : sH ((o', e) :: T) = 1 + sH T := by
              rw [sH, if_pos (by show 2 ≤ o' ∧ o' ≤ 4; omega)]
            have e4 : wW ((o', e) :: T) = 3 + wW T := by
              rw [wW, if_pos (by show 2 ≤ o' ∧ o' ≤ 4; omega)]
            refine ⟨hh, p0, ?_, p2, p3.mono (fun p hp h9 => ?_), ⟨fun h9 => ?_, q2⟩, ?_⟩
            · show hh c.length = sH ((o', e) :: T) + 0
              rw [e3, p1, e1, hg1]
              omega
            · rcases List.mem_cons.mp hp with e9 | e9
              · rw [e9] at h9
                have h9 : o = 12 ∨ o = 13 := h9
                omega
              · exact List.mem_cons_of_mem _ e9
            · have h9 : o' = 12 ∨ o' = 13 := h9
              omega
            · show wW ((o', e) :: T) + 0 ≤ i + 1
              rw [e4]
              rw [e2, hg1] at p5
              omega
          by_cases w10 : o = 10
          · rw [if_pos w10] at hs
            by_cases c1 : ch = 43
            · rw [if_pos c1] at hs
              cases hs
              exact hop w10 2 (by decide)
            · rw [if_neg c1] at hs
              by_cases c2 : ch = 45
              · rw [if_pos c2] at hs
                cases hs
                exact hop w10 3 (by decide)
              · rw [if_neg c2] at hs
                by_cases c3 : ch = 42
                · rw [if_pos c3] at hs
                  cases hs
                  exact hop w10 4 (by decide)
                · rw [if_neg c3] at hs
                  cases hs
          · rw [if_neg w10] at hs
            by_cases w11 : o = 11
            · rw [if_pos w11] at hs
              by_cases c1 : ch = 63
              · rw [if_pos c1] at hs
                cases hs
                have e1 : sH ((o, e) :: T) = sH T := by
                  rw [sH, if_neg (by show ¬ (2 ≤ o ∧ o ≤ 4); omega), Nat.zero_add]
                have e2 : wW ((o, e) :: T) = 1 + wW T := by
                  rw [wW, if_neg (by show ¬ (2 ≤ o ∧ o ≤ 4); omega)]
                have e3 : sH (((12 : Int), c.length) :: T) = sH T := by
                  rw [sH, if_neg (by show ¬ ((2 : Int) ≤ 12 ∧ (12 : Int) ≤ 4); decide), Nat.zero_add]
                have e4 : wW (((12 : Int), c.length) :: T) = 1 + wW T := by
                  rw [wW, if_neg (by show ¬ ((2 : Int) ≤ 12 ∧ (12 : Int) ≤ 4); decide)]
                rw [e1, hg1] at p1
                rw [e2, hg1] at p5
                have p3' : HO c hh (((12 : Int), c.length) :: T) := p3.mono (fun p hp h9 => by
                  rcases List.mem_cons.mp hp with e9 | e9
                  · rw [e9] at h9
                    have h9 : o = 12 ∨ o = 13 := h9
                    omega
                  · exact List.mem_cons_of_mem _ e9)
                refine ⟨uh hh (c.length + 1) (sH T), ?_, ?_, ?_, p3'.app ⟨fun h9 => absurd h9 (by decide), fun _ h9 => absurd h9 (by decide), fun _ => ⟨by omega, by omega, List.mem_cons_self⟩, fun h9 => absurd h9 (by decide)⟩, ?_, ?_⟩
                · rw [uh_n (by omega)]; exact p0
                · show uh hh (c.length + 1) (sH T) (c ++ [((5 : Int), (0 : Int))]).length = sH (((12 : Int), c.length) :: T) + 0
                  rw [hla, uh_s, e3]
                  rfl
                · show ∀ j, j ≤ (c ++ [((5 : Int), (0 : Int))]).length → _
                  rw [hla]
                  exact bd_app p2 (by omega)
                · show PW (c ++ [((5 : Int), (0 : Int))]).length _ (((12 : Int), c.length) :: T)
                  rw [hla]
                  refine ⟨fun _ => ⟨?_, ?_⟩, q2.app⟩
                  · show c.length < c.length + 1
                    omega
                  · show uh hh (c.length + 1) (sH T) c.length = sH T + 1
                    rw [uh_n (by omega)]
                    exact p1
                · show wW (((12 : Int), c.length) :: T) + 0 ≤ i + 1
                  rw [e4]
                  omega
              · rw [if_neg c1] at hs
                cases hs
            · rw [if_neg w11] at hs
              by_cases w12 : o = 12
              · rw [if_pos w12] at hs
                by_cases c1 : ch = 58
                · rw [if_pos c1] at hs
                  cases hs
                  have hq := q1 (Or.inl w12)
                  have hq1 : e < c.length := hq.1
                  have hq2 : hh e = sH T + 1 := hq.2
                  have e1 : sH ((o, e) :: T) = sH T := by
                    rw [sH, if_neg (by show ¬ (2 ≤ o ∧ o ≤ 4); omega), Nat.zero_add]
                  have e2 : wW ((o, e) :: T) = 1 + wW T := by
                    rw [wW, if_neg (by show ¬ (2 ≤ o ∧ o ≤ 4); omega)]
                  have e3 : sH (((13 : Int), c.length) :: T) = sH T := by
                    rw [sH, if_neg (by show ¬ ((2 : Int) ≤ 13 ∧ (13 : Int) ≤ 4); decide), Nat.zero_add]
                  have e4 : wW (((13 : Int), c.length) :: T) = 1 + wW T := by
                    rw [wW, if_neg (by show ¬ ((2 : Int) ≤ 13 ∧ (13 : Int) ≤ 4); decide)]
                  rw [e1, hg1] at p1
                  rw [e2, hg1] at p5
                  have hx5 : ∃ v, c[e]? = some (5, v) := by
                    rcases hx with e9 | e9 | e9 | e9 | e9
                    · have : 2 ≤ o ∧ o ≤ 4 := e9
                      omega
                    · have : o = 10 := e9
                      omega
                    · have : o = 11 := e9
                      omega
                    · exact e9.2
                    · have : o = 13 := e9.1
                      omega
                  obtain ⟨v, hv⟩ := hx5
                  have p3' : HO c hh (((13 : Int), c.length) :: (o, e) :: T) := p3.mono (fun p hp _ => List.mem_cons_of_mem _ hp)
                  have p3a : HO (c ++ [((6 : Int), (0 : Int))]) (uh hh (c.length + 1) (sH T)) (((13 : Int), c.length) :: (o, e) :: T) := p3'.app ⟨fun h9 => absurd h9 (by decide), fun _ h9 => absurd h9 (by decide), fun h9 => absurd h9 (by decide), fun _ => List.mem_cons_self⟩
                  have hv2 : (c ++ [((6 : Int), (0 : Int))])[e]? = some (5, v) := by
                    rw [List.getElem?_append_left hq1]
                    exact hv
                  refine ⟨uh hh (c.length + 1) (sH T), ?_, ?_, ?_, p3a.set hv2 (fun _ => ⟨by omega, by rw [hla]; omega, ?_⟩) (fun h9 => absurd h9 (by show ¬ ((5 : Int) = 6); decide)) (fun p hp h9 h8 => ?_), ?_, ?_⟩
                  · rw [uh_n (by omega)]; exact p0
                  · show uh hh (c.length + 1) (sH T) (setO (c ++ [((6 : Int), (0 : Int))]) e _).length = sH (((13 : Int), c.length) :: T) + 0
                    rw [setO_len, hla, uh_s, e3]
                    rfl
                  · show ∀ j, j ≤ (setO (c ++ [((6 : Int), (0 : Int))]) e _).length → _
                    rw [setO_len, hla]
                    exact bd_app p2 (by omega)
                  · rw [uh_s, uh_n (by omega)]
                    exact hq2.symm
                  · rcases List.mem_cons.mp hp with e9 | e9
                    · rw [e9]
                      exact List.mem_cons_self
                    · rcases List.mem_cons.mp e9 with e9 | e9
                      · exact absurd (by rw [e9]) h8
                      · exact List.mem_cons_of_mem _ e9
                  · show PW (setO (c ++ [((6 : Int), (0 : Int))]) e _).length _ (((13 : Int), c.length) :: T)
                    rw [setO_len, hla]
                    refine ⟨fun _ => ⟨?_, ?_⟩, q2.app⟩
                    · show c.length < c.length + 1
                      omega
                    · show uh hh (c.length + 1) (sH T) c.length = sH T + 1
                      rw [uh_n (by omega)]
                      exact p1
                  · show wW (((13 : Int), c.length) :: T) + 0 ≤ i + 1
                    rw [e4]
                    omega
                · rw [if_neg c1] at hs
                  cases hs
              · rw [if_neg w12] at hs
                by_cases w13 : o = 13
                · rw [if_pos w13] at hs
                  by_cases c1 : ch = 125
                  · rw [if_pos c1] at hs
                    cases hs
                    have hq := q1 (Or.inr w13)
                    have hq1 : e < c.length := hq.1
                    have hq2 : hh e = sH T + 1 := hq.2
                    have e1 : sH ((o, e) :: T) = sH T := by
                      rw [sH, if_neg (by show ¬ (2 ≤ o ∧ o ≤ 4); omega), Nat.zero_add]
                    have e2 : wW ((o, e) :: T) = 1 + wW T := by
                      rw [wW, if_neg (by show ¬ (2 ≤ o ∧ o ≤ 4); omega)]
                    rw [e1, hg1] at p1
                    rw [e2, hg1] at p5
                    have hx6 : ∃ v, c[e]? = some (6, v) := by
                      rcases hx with e9 | e9 | e9 | e9 | e9
                      · have : 2 ≤ o ∧ o ≤ 4 := e9
                        omega
                      · have : o = 10 := e9
                        omega
                      · have : o = 11 := e9
                        omega
                      · have : o = 12 := e9.1
                        omega
                      · exact e9.2
                    obtain ⟨v, hv⟩ := hx6
                    refine ⟨hh, p0, ?_, ?_, p3.set hv (fun h9 => absurd h9 (by show ¬ ((6 : Int) = 5); decide)) (fun _ => ⟨hq1, Nat.le_refl _, by rw [p1, hq2]⟩) (fun p hp h9 h8 => ?_), ?_, ?_⟩
                    · show hh (setO c e _).length = sH T + 1
                      rw [setO_len]
                      exact p1
                    · show ∀ j, j ≤ (setO c e _).length → _
                      rw [setO_len]
                      exact p2
                    · rcases List.mem_cons.mp hp with e9 | e9
                      · exact absurd (by rw [e9]) h8
                      · exact e9
                    · show PW (setO c e _).length hh T
                      rw [setO_len]
                      exact q2
                    · show wW T + 1 ≤ i + 1
                      omega
                  · rw [if_neg c1] at hs
                    cases hs
                · rw [if_neg w13] at hs
                  by_cases c1 : ch = 41
                  · rw [if_pos c1] at hs
                    cases hs
                    have ho : 2 ≤ o ∧ o ≤ 4 := by
                      rcases hx with e9 | e9 | e9 | e9 | e9
                      · exact e9
                      · exact absurd e9 w10
                      · exact absurd e9 w11
                      · exact absurd e9.1 w12
                      · exact absurd e9.1 w13
                    have e1 : sH ((o, e) :: T) = 1 + sH T := by
                      rw [sH, if_pos ho]
                    have e2 : wW ((o, e) :: T) = 3 + wW T := by
                      rw [wW, if_pos ho]
                    rw [e1, hg1] at p1
                    rw [e2, hg1] at p5
                    have p3' : HO c hh T := p3.mono (fun p hp h9 => by
                      rcases List.mem_cons.mp hp with e9 | e9
                      · rw [e9] at h9
                        have h9 : o = 12 ∨ o = 13 := h9
                        omega
                      · exact e9)
                    refine ⟨uh hh (c.length + 1) (sH T + 1), ?_, ?_, ?_, p3'.app ⟨fun h9 => absurd h9 (by show ¬ o ≤ 1; omega), fun _ _ => ⟨by omega, by omega⟩, fun h9 => absurd h9 (by show ¬ o = 5; omega), fun h9 => absurd h9 (by show ¬ o = 6; omega)⟩, ?_, ?_⟩
                    · rw [uh_n (by omega)]; exact p0
                    · show uh hh (c.length + 1) (sH T + 1) (c ++ [(o, (0 : Int))]).length = sH T + 1
                      rw [hla, uh_s]
                    · show ∀ j, j ≤ (c ++ [(o, (0 : Int))]).length → _
                      rw [hla]
                      exact bd_app p2 (by omega)
                    · show PW (c ++ [(o, (0 : Int))]).length _ T
                      rw [hla]
                      exact q2.app
                    · show wW T + 1 ≤ i + 1
                      omega
                  · rw [if_neg c1] at hs
                    cases hs
theorem HV.zero : HV 0 ([], 0, []) := ⟨fun _ => 0, rfl, rfl, fun j _ => (by show 0 ≤ 38; decide), fun i x h => (by simp at h), trivial, Nat.le_refl _⟩
