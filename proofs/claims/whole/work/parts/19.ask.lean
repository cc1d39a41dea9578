-- ===== asking, in plain terms =====
def uf (f : Nat → Int) (i : Nat) (v : Int) : Nat → Int := fun j => if j = i then v else f j
theorem uf_s (f : Nat → Int) (i : Nat) (v : Int) : uf f i v i = v := if_pos rfl
theorem uf_n {f : Nat → Int} {i j : Nat} {v : Int} (h : j ≠ i) : uf f i v j = f j := if_neg h
/-- a shelf's value -/
def sv (f : Nat → Int) (k : Int) : Int := if 0 ≤ k ∧ k < 12 ∧ f (14 + k.toNat) = 0 then f (2 + k.toNat) else 100
abbrev AF : Type := Int → SS → SS × Int
def valA (A : AF) (key : Int) (S : SS) : SS × Int := if 20 ≤ key then A (key - 20) S else (S, sv S.1 key)
def hasS (L : List Mem) (i : Int) : Bool := L.any (fun M => mSer M == i)
def okA (A : AF) (i : Int) : List (Int × Int) → SS → SS × Bool
  | [], S => (S, true)
  | x :: t, S => if hasS (valA A x.1 S).1.2.1 i = true ∧ x.2 = (valA A x.1 S).2 then okA A i t (valA A x.1 S).1 else ((valA A x.1 S).1, false)
def plS (L : List Mem) (i : Int) : Option Nat := L.findIdx? (fun M => mSer M == i)
def fitA (A : AF) : List Int → SS → SS × Option Nat
  | [], S => (S, none)
  | i :: t, S => match S.2.1.find? (fun M => mSer M == i) with
    | none => fitA A t S
    | some M => if (okA A i (mLk M) S).2 = true then ((okA A i (mLk M) S).1, plS (okA A i (mLk M) S).1.2.1 i) else fitA A t (okA A i (mLk M) S).1
def useS (l p : Nat) (M : Mem) (S : SS) : SS := (uf (uf S.1 (806 + l) (S.1 (806 + l) + 1)) 813 (S.1 813 + mSteps M), useL S.2.1 p, S.2.2)
def bakeS (l : Nat) (S : SS) (d : List (Int × Int)) (n v : Int) : SS :=
  if v ≠ 100 ∨ S.1 1 = 1 then (uf (uf (uf S.1 (800 + l) (S.1 (800 + l) + 1)) 812 (S.1 812 + n)) 815 (S.1 815 + 1), keepL S.2.1 ((l : Int), v, n, 0, 0, d) (S.1 815 + 1) (S.1 0).toNat, S.2.2)
  else (uf (uf S.1 (800 + l) (S.1 (800 + l) + 1)) 812 (S.1 812 + n), S.2.1, S.2.2)
def lkG {τ : Type} (va : Int → τ → τ × Int) (mk : Int → τ → τ) (key : Int) (d : List (Int × Int)) (t : τ) : τ × List (Int × Int) × Int :=
  match d.find? (fun x => x.1 == key) with
  | some x => (t, d, x.2)
  | none => ((va key (mk key t)).1, (if d.length < 18 then d ++ [(key, (va key (mk key t)).2)] else d), (va key (mk key t)).2)
def askR (A : AF) (l : Nat) (S S1 : SS) : SS × List (Int × Int) × Int × Int := runG (lkG (valA A) (fun _ t => t)) (S.2.2 l) (S.2.2 l).length 0 [] [] 0 S1
def askB (A : AF) (l : Nat) (S : SS) : SS × Int :=
  match (fitA A ((S.2.1.filter (isOf l)).map mSer) S).2 with
  | some p => (match (fitA A ((S.2.1.filter (isOf l)).map mSer) S).1.2.1[p]? with
    | some M => (useS l p M (fitA A ((S.2.1.filter (isOf l)).map mSer) S).1, mRes M)
    | none => ((fitA A ((S.2.1.filter (isOf l)).map mSer) S).1, 100))
  | none => (bakeS l (askR A l S (fitA A ((S.2.1.filter (isOf l)).map mSer) S).1).1 (askR A l S (fitA A ((S.2.1.filter (isOf l)).map mSer) S).1).2.1 (askR A l S (fitA A ((S.2.1.filter (isOf l)).map mSer) S).1).2.2.1 (askR A l S (fitA A ((S.2.1.filter (isOf l)).map mSer) S).1).2.2.2, (askR A l S (fitA A ((S.2.1.filter (isOf l)).map mSer) S).1).2.2.2)
def askF : Nat → Int → SS → SS × Int
  | 0, _, S => (S, 100)
  | b + 1, k, S => if k < 0 ∨ (b : Int) < k then (S, 100) else if k < (b : Int) then askF b k S else if S.2.2 b = [] then (S, 100) else askB (askF b) b S
-- what is right about a state
def VK (l : Nat) (k : Int) : Prop := (0 ≤ k ∧ k < 12) ∨ (20 ≤ k ∧ k < 20 + (l : Int))
def WFl (l : Nat) (d : List (Int × Int)) : Prop := (∀ x ∈ d, VK l x.1 ∧ 0 ≤ x.2 ∧ x.2 ≤ 100) ∧ (d.map (fun x => x.1)).Nodup
def WFc (l : Nat) (c : Rcpe) : Prop := c.length < 60 ∧ ∀ x ∈ c, 0 ≤ x.1 ∧ x.1 ≤ 6 ∧ (x.1 = 0 → VK l x.2) ∧ (x.1 = 1 → 0 ≤ x.2 ∧ x.2 < 100) ∧ 0 ≤ x.2 ∧ x.2 ≤ 1000
def WFM (z : Int) (M : Mem) : Prop := 0 ≤ mLoaf M ∧ mLoaf M < 6 ∧ 0 ≤ mRes M ∧ mRes M ≤ 100 ∧ 0 < mSer M ∧ mSer M ≤ z ∧ WFl (mLoaf M).toNat (mLk M)
def WFS (S : SS) : Prop := (1 ≤ S.1 0 ∧ S.1 0 ≤ 16) ∧ (S.1 1 = 0 ∨ S.1 1 = 1) ∧ (∀ i, i < 12 → 0 ≤ S.1 (2 + i) ∧ S.1 (2 + i) < 100) ∧ (∀ i, i < 12 → S.1 (14 + i) = 0 ∨ S.1 (14 + i) = 1) ∧ 0 ≤ S.1 815 ∧ (S.2.1.length : Int) ≤ S.1 0 ∧ (∀ M ∈ S.2.1, WFM (S.1 815) M) ∧ (S.2.1.map mSer).Nodup ∧ ∀ l, l < 6 → WFc l (S.2.2 l)
/-- keys that differ: how many there may be, and what they may cost -/
theorem nd_le : ∀ (n : Nat) (L : List Nat), L.Nodup → (∀ x ∈ L, x < n) → L.length ≤ n
  | 0, L, _, h => by
    cases L with
    | nil => exact Nat.le_refl _
    | cons x t => exact absurd (h x List.mem_cons_self) (by omega)
  | n + 1, L, hd, h => by
    by_cases hn : n ∈ L
    · have h1 := nd_le n (L.erase n) (hd.erase n) (fun x hx => by
        have := (hd.mem_erase_iff).mp hx
        have := h x this.2
        omega)
      rw [List.length_erase_of_mem hn] at h1
      omega
    · have h1 := nd_le n L hd (fun x hx => by
        have h2 := h x hx
        have : x ≠ n := fun e => hn (e ▸ hx)
        omega)
      omega
theorem nd_cost : ∀ (n : Nat) (L : List Nat), L.Nodup → (∀ x ∈ L, x < n) → 17 * (L.map (fun k => 18 ^ k)).sum + 1 ≤ 18 ^ n
  | 0, L, _, h => by
    cases L with
    | nil => exact Nat.le_refl _
    | cons x t => exact absurd (h x List.mem_cons_self) (by omega)
  | n + 1, L, hd, h => by
    by_cases hn : n ∈ L
    · have h1 := nd_cost n (L.erase n) (hd.erase n) (fun x hx => by
        have := (hd.mem_erase_iff).mp hx
        have := h x this.2
        omega)
      have h2 := ((List.perm_cons_erase hn).map (fun k => 18 ^ k)).sum_nat
      rw [List.map_cons, List.sum_cons] at h2
      rw [h2, Nat.pow_succ]
      omega
    · have h1 := nd_cost n L hd (fun x hx => by
        have h2 := h x hx
        have : x ≠ n := fun e => hn (e ▸ hx)
        omega)
      rw [Nat.pow_succ]
      have : 1 ≤ 18 ^ n := Nat.one_le_pow _ _ (by decide)
      omega
def wt (k : Int) : Nat := if 20 ≤ k then 18 ^ (k - 20).toNat else 0
def cD (d : List (Int × Int)) : Nat := (d.map (fun x => wt x.1)).sum
theorem cD_le {l : Nat} {d : List (Int × Int)} (h : WFl l d) : 17 * cD d + 1 ≤ 18 ^ l := by
  obtain ⟨h1, h2⟩ := h
  have h3 := nd_cost l ((d.filter (fun x => decide (20 ≤ x.1))).map (fun x => (x.1 - 20).toNat)) ?_ ?_
  · have e : cD d = (((d.filter (fun x => decide (20 ≤ x.1))).map (fun x => (x.1 - 20).toNat)).map (fun k => 18 ^ k)).sum := by
      clear h1 h2 h3
      unfold cD
      induction d with
      | nil => rfl
      | cons x t ih =>
        rw [List.map_cons, List.sum_cons, ih]
        by_cases hx : 20 ≤ x.1
        · rw [List.filter_cons_of_pos (by simpa using hx), List.map_cons, List.map_cons, List.sum_cons]
          unfold wt
          rw [if_pos hx]
        · rw [List.filter_cons_of_neg (by simpa using hx)]
          unfold wt
          rw [if_neg hx, Nat.zero_add]
    rw [e]
    exact h3
  · have h4 : ((d.filter (fun x => decide (20 ≤ x.1))).map (fun x => x.1)).Nodup := h2.sublist (List.filter_sublist.map _)
    have h5 : ∀ x ∈ (d.filter (fun x => decide (20 ≤ x.1))).map (fun x => x.1), 20 ≤ x := by
      intro x hx
      obtain ⟨y, hy, rfl⟩ := List.mem_map.mp hx
      simpa using (List.mem_filter.mp hy).2
    have h6 : (d.filter (fun x => decide (20 ≤ x.1))).map (fun x => (x.1 - 20).toNat) = ((d.filter (fun x => decide (20 ≤ x.1))).map (fun x => x.1)).map (fun k => (k - 20).toNat) := by rw [List.map_map]; rfl
    rw [h6]
    generalize (d.filter (fun x => decide (20 ≤ x.1))).map (fun x => x.1) = K at h4 h5
    clear h6 h1 h2
    induction K with
    | nil => exact List.nodup_nil
    | cons x t ih =>
      rw [List.map_cons]
      rw [List.nodup_cons] at h4 ⊢
      refine ⟨fun hx => ?_, ih h4.2 (fun y hy => h5 y (List.mem_cons_of_mem _ hy))⟩
      obtain ⟨y, hy, e⟩ := List.mem_map.mp hx
      have a := h5 x List.mem_cons_self
      have b := h5 y (List.mem_cons_of_mem _ hy)
      have : x = y := by omega
      exact h4.1 (this ▸ hy)
  · intro k hk
    obtain ⟨x, hx, rfl⟩ := List.mem_map.mp hk
    have hx2 := (List.mem_filter.mp hx)
    have h20 : 20 ≤ x.1 := by simpa using hx2.2
    rcases (h1 x hx2.1).1 with e | e <;> omega
theorem WFl_len {l : Nat} {d : List (Int × Int)} (h : WFl l d) : d.length ≤ 12 + l := by
  obtain ⟨h1, h2⟩ := h
  have h3 := nd_le (12 + l) ((d.map (fun x => x.1)).map (fun k => (if k < 12 then k else k - 8).toNat)) ?_ ?_
  · simpa using h3
  · have h5 : ∀ k ∈ d.map (fun x => x.1), VK l k := by
      intro k hk
      obtain ⟨x, hx, rfl⟩ := List.mem_map.mp hk
      exact (h1 x hx).1
    generalize d.map (fun x => x.1) = K at h2 h5
    clear h1
    induction K with
    | nil => exact List.nodup_nil
    | cons x t ih =>
      rw [List.map_cons]
      rw [List.nodup_cons] at h2 ⊢
      refine ⟨fun hx => ?_, ih h2.2 (fun y hy => h5 y (List.mem_cons_of_mem _ hy))⟩
      obtain ⟨y, hy, e⟩ := List.mem_map.mp hx
      have a := h5 x List.mem_cons_self
      have b := h5 y (List.mem_cons_of_mem _ hy)
      have : x = y := by
        rcases a with a | a <;> rcases b with b | b <;> split at e <;> split at e <;> omega
      exact h2.1 (this ▸ hy)
  · intro k hk
    obtain ⟨j, hj, rfl⟩ := List.mem_map.mp hk
    obtain ⟨x, hx, rfl⟩ := List.mem_map.mp hj
    rcases (h1 x hx).1 with e | e
    · rw [if_pos (by omega)]; omega
    · rw [if_neg (by omega)]; omega
/-- what a run of looks keeps -/
theorem iRm_n {x : Int} (h : 0 ≤ x ∧ x ≤ 1000000) : 0 ≤ iRm x 100 ∧ iRm x 100 < 100 := by
  obtain ⟨n, rfl⟩ : ∃ n : Nat, x = (n : Int) := ⟨x.toNat, by omega⟩
  unfold iRm
  rw [on_I, show Int32.ofInt 100 = nI 100 from rfl, pk_rem (by omega) (by decide) (by decide), nI_toInt (by omega)]
  omega
theorem jn_r {w x y : Int} (hx : 0 ≤ x ∧ x < 100) (hy : 0 ≤ y ∧ y < 100) : 0 ≤ jn w x y ∧ jn w x y < 100 := by
  unfold jn
  split
  · exact iRm_n (by omega)
  · split
    · exact iRm_n (by omega)
    · refine iRm_n ⟨Int.mul_nonneg hx.1 hy.1, ?_⟩
      have := Int.mul_le_mul (show x ≤ 100 by omega) (show y ≤ 100 by omega) hy.1 (by decide)
      omega
theorem run_inv {τ : Type} {lk : Int → List (Int × Int) → τ → τ × List (Int × Int) × Int} {c : Rcpe} {V : Int → Prop} {P : List (Int × Int) → τ → Prop}
    (hlk : ∀ key d t, V key → P d t → P (lk key d t).2.1 (lk key d t).1 ∧ 0 ≤ (lk key d t).2.2 ∧ (lk key d t).2.2 ≤ 100)
    (hc : ∀ x ∈ c, (x.1 = 0 → V x.2) ∧ (x.1 = 1 → 0 ≤ x.2 ∧ x.2 < 100)) : ∀ (u a : Nat) (p : List Int) (d : List (Int × Int)) (n : Int) (t : τ), P d t → (∀ x ∈ p, 0 ≤ x ∧ x < 100) →
    P (runG lk c u a p d n t).2.1 (runG lk c u a p d n t).1 ∧ 0 ≤ (runG lk c u a p d n t).2.2.2 ∧ (runG lk c u a p d n t).2.2.2 ≤ 100 := by
  have hd : ∀ p : List Int, (∀ x ∈ p, 0 ≤ x ∧ x < 100) → 0 ≤ p.headD 100 ∧ p.headD 100 ≤ 100 := by
    intro p hp
    cases p with
    | nil => exact ⟨by decide, by decide⟩
    | cons x q =>
      have := hp x List.mem_cons_self
      show 0 ≤ x ∧ x ≤ 100
      omega
  intro u
  induction u with
  | zero =>
    intro a p d n t hP hp
    exact ⟨hP, hd p hp⟩
  | succ u ih =>
    intro a p d n t hP hp
    rw [runG]
    cases hx : c[a]? with
    | none => exact ⟨hP, hd p hp⟩
    | some x =>
      have hcx := hc x (List.mem_of_getElem? hx)
      simp only []
      by_cases e6 : x.1 = 6
      · rw [if_pos e6]
        exact ih _ p d n t hP hp
      · rw [if_neg e6]
        by_cases e0 : x.1 = 0
        · rw [if_pos e0]
          have h1 := hlk x.2 d t (hcx.1 e0) hP
          by_cases e : (lk x.2 d t).2.2 = 100 ∨ 60 ≤ p.length
          · rw [if_pos e]
            exact ⟨h1.1, (by decide : (0 : Int) ≤ 100), (by decide : (100 : Int) ≤ 100)⟩
          · rw [if_neg e]
            refine ih _ _ _ _ _ h1.1 (fun y hy => ?_)
            rcases List.mem_cons.mp hy with e2 | e2
            · rw [e2]
              omega
            · exact hp y e2
        · rw [if_neg e0]
          by_cases e1 : x.1 = 1
          · rw [if_pos e1]
            by_cases e : x.2 = 100 ∨ 60 ≤ p.length
            · rw [if_pos e]
              exact ⟨hP, (by decide : (0 : Int) ≤ 100), (by decide : (100 : Int) ≤ 100)⟩
            · rw [if_neg e]
              refine ih _ _ _ _ _ hP (fun y hy => ?_)
              rcases List.mem_cons.mp hy with e2 | e2
              · rw [e2]
                exact hcx.2 e1
              · exact hp y e2
          · rw [if_neg e1]
            by_cases e5 : x.1 = 5
            · rw [if_pos e5]
              cases p with
              | nil => exact ih _ _ _ _ _ hP hp
              | cons y q => exact ih _ _ _ _ _ hP (fun z hz => hp z (List.mem_cons_of_mem _ hz))
            · rw [if_neg e5]
              rcases p with _ | ⟨y, _ | ⟨w, q⟩⟩
              · exact ih _ _ _ _ _ hP hp
              · exact ih _ _ _ _ _ hP hp
              · refine ih _ _ _ _ _ hP (fun z hz => ?_)
                rcases List.mem_cons.mp hz with e2 | e2
                · rw [e2]
                  exact jn_r (hp w (by simp)) (hp y (by simp))
                · exact hp z (by simp [e2])
