-- ===== baking freshly, in plain terms =====
def vlF (f : Nat → Int) (V : Nat → Int) (key : Int) : Int := if 20 ≤ key then V (key - 20).toNat else sv f key
def stF (Z : Nat → Nat) (key : Int) : Nat := if 20 ≤ key then Z (key - 20).toNat else 2 ^ key.toNat
def lkF (f V : Nat → Int) (Z : Nat → Nat) (key : Int) (d : List (Int × Int)) (t : Nat) : Nat × List (Int × Int) × Int := (t ||| stF Z key, d, vlF f V key)
def frB (f : Nat → Int) (rc : Nat → Rcpe) : Nat → (Nat → Int) × (Nat → Nat)
  | 0 => (fun _ => 100, fun _ => 0)
  | l + 1 => (fun k => if k = l then (if rc l = [] then 100 else (runG (lkF f (frB f rc l).1 (frB f rc l).2) (rc l) (rc l).length 0 [] [] 0 0).2.2.2) else (frB f rc l).1 k,
              fun k => if k = l then (if rc l = [] then 0 else (runG (lkF f (frB f rc l).1 (frB f rc l).2) (rc l) (rc l).length 0 [] [] 0 0).1) else (frB f rc l).2 k)
def vF (S : SS) (l : Nat) : Int := (frB S.1 S.2.2 (l + 1)).1 l
def sF (S : SS) (l : Nat) : Nat := (frB S.1 S.2.2 (l + 1)).2 l
theorem frB_low {f : Nat → Int} {rc : Nat → Rcpe} {k : Nat} : ∀ b, k < b → (frB f rc b).1 k = (frB f rc (k + 1)).1 k ∧ (frB f rc b).2 k = (frB f rc (k + 1)).2 k
  | 0, h => absurd h (by omega)
  | b + 1, h => by
    by_cases e : k = b
    · rw [e]
      exact ⟨rfl, rfl⟩
    · have h1 := frB_low (f := f) (rc := rc) (k := k) b (by omega)
      refine ⟨?_, ?_⟩
      · rw [← h1.1]
        show (if k = b then _ else _) = _
        rw [if_neg e]
      · rw [← h1.2]
        show (if k = b then _ else _) = _
        rw [if_neg e]
/-- two worlds of looks that go together -/
theorem run_sim {τ τ' : Type} {lk : Int → List (Int × Int) → τ → τ × List (Int × Int) × Int} {lk' : Int → List (Int × Int) → τ' → τ' × List (Int × Int) × Int} {c : Rcpe} {V : Int → Prop} {R : List (Int × Int) → τ → List (Int × Int) → τ' → Prop}
    (hlk : ∀ key d t d' t', V key → R d t d' t' → R (lk key d t).2.1 (lk key d t).1 (lk' key d' t').2.1 (lk' key d' t').1 ∧ (lk key d t).2.2 = (lk' key d' t').2.2)
    (hc : ∀ x ∈ c, x.1 = 0 → V x.2) : ∀ (u a : Nat) (p : List Int) (d : List (Int × Int)) (n : Int) (t : τ) (d' : List (Int × Int)) (t' : τ'), R d t d' t' →
    R (runG lk c u a p d n t).2.1 (runG lk c u a p d n t).1 (runG lk' c u a p d' n t').2.1 (runG lk' c u a p d' n t').1 ∧ (runG lk c u a p d n t).2.2 = (runG lk' c u a p d' n t').2.2 := by
  intro u
  induction u with
  | zero =>
    intro a p d n t d' t' hR
    exact ⟨hR, rfl⟩
  | succ u ih =>
    intro a p d n t d' t' hR
    rw [runG, runG]
    cases hx : c[a]? with
    | none => exact ⟨hR, rfl⟩
    | some x =>
      have hcx := hc x (List.mem_of_getElem? hx)
      simp only []
      by_cases e6 : x.1 = 6
      · rw [if_pos e6, if_pos e6]
        exact ih _ p _ _ _ _ _ hR
      · rw [if_neg e6, if_neg e6]
        by_cases e0 : x.1 = 0
        · rw [if_pos e0, if_pos e0]
          have h1 := hlk x.2 d t d' t' (hcx e0) hR
          rw [← h1.2]
          by_cases e : (lk x.2 d t).2.2 = 100 ∨ 60 ≤ p.length
          · rw [if_pos e, if_pos e]
            exact ⟨h1.1, rfl⟩
          · rw [if_neg e, if_neg e]
            exact ih _ _ _ _ _ _ _ h1.1
        · rw [if_neg e0, if_neg e0]
          by_cases e1 : x.1 = 1
          · rw [if_pos e1, if_pos e1]
            by_cases e : x.2 = 100 ∨ 60 ≤ p.length
            · rw [if_pos e, if_pos e]
              exact ⟨hR, rfl⟩
            · rw [if_neg e, if_neg e]
              exact ih _ _ _ _ _ _ _ hR
          · rw [if_neg e1, if_neg e1]
            by_cases e5 : x.1 = 5
            · rw [if_pos e5, if_pos e5]
              cases p with
              | nil => exact ih _ _ _ _ _ _ _ hR
              | cons y q => exact ih _ _ _ _ _ _ _ hR
            · rw [if_neg e5, if_neg e5]
              rcases p with _ | ⟨y, _ | ⟨w, q⟩⟩
              · exact ih _ _ _ _ _ _ _ hR
              · exact ih _ _ _ _ _ _ _ hR
              · exact ih _ _ _ _ _ _ _ hR
theorem lkF_cg {S : SS} {l : Nat} {key : Int} (hk : VK l key) (d : List (Int × Int)) (t : Nat) : lkF S.1 (frB S.1 S.2.2 l).1 (frB S.1 S.2.2 l).2 key d t = lkF S.1 (vF S) (sF S) key d t := by
  unfold lkF vlF stF
  by_cases e : 20 ≤ key
  · have h1 := frB_low (f := S.1) (rc := S.2.2) (k := (key - 20).toNat) l (by rcases hk with h | h <;> omega)
    rw [if_pos e, if_pos e, if_pos e, if_pos e, h1.1, h1.2]
    rfl
  · rw [if_neg e, if_neg e, if_neg e, if_neg e]
/-- a fresh run of loaf l -/
def fRn (S : SS) (l : Nat) : Nat × List (Int × Int) × Int × Int := runG (lkF S.1 (vF S) (sF S)) (S.2.2 l) (S.2.2 l).length 0 [] [] 0 0
theorem vF_eq {S : SS} {l : Nat} (hw : WFS S) (hl : l < 6) : vF S l = (if S.2.2 l = [] then 100 else (fRn S l).2.2.2) ∧ sF S l = if S.2.2 l = [] then 0 else (fRn S l).1 := by
  have hc := hw.2.2.2.2.2.2.2.2 l hl
  have h1 := run_sim (lk := lkF S.1 (frB S.1 S.2.2 l).1 (frB S.1 S.2.2 l).2) (lk' := lkF S.1 (vF S) (sF S)) (c := S.2.2 l) (V := VK l) (R := fun d t d' t' => d = d' ∧ t = t') (fun key d t d' t' hk h => by
    rw [h.1, h.2, lkF_cg hk]
    exact ⟨⟨rfl, rfl⟩, rfl⟩) (fun x hx => (hc.2 x hx).2.2.1) (S.2.2 l).length 0 [] [] 0 0 [] 0 ⟨rfl, rfl⟩
  refine ⟨?_, ?_⟩
  · show (if l = l then _ else _) = _
    rw [if_pos rfl, h1.2]
    rfl
  · show (if l = l then _ else _) = _
    rw [if_pos rfl, h1.1.2]
    rfl
theorem or_lt {a b : Nat} (ha : a < 4096) (hb : b < 4096) : a ||| b < 4096 := Nat.or_lt_two_pow (n := 12) ha hb
theorem fr_bd {S : SS} (hw : WFS S) : ∀ l, l < 6 → (0 ≤ vF S l ∧ vF S l ≤ 100) ∧ sF S l < 4096 := by
  intro l
  induction l using Nat.strongRecOn with
  | ind l ih =>
  intro hl
  have h1 := vF_eq hw hl
  by_cases e : S.2.2 l = []
  · rw [h1.1, h1.2, if_pos e, if_pos e]
    exact ⟨⟨by decide, by decide⟩, by decide⟩
  · rw [h1.1, h1.2, if_neg e, if_neg e]
    have hc := hw.2.2.2.2.2.2.2.2 l hl
    have h2 := run_inv (lk := lkF S.1 (vF S) (sF S)) (c := S.2.2 l) (V := VK l) (P := fun _ t => t < 4096) (fun key d t hk ht => by
      unfold lkF vlF stF
      by_cases e2 : 20 ≤ key
      · have h3 := ih (key - 20).toNat (by rcases hk with h | h <;> omega) (by rcases hk with h | h <;> omega)
        simp only [if_pos e2]
        exact ⟨or_lt ht h3.2, h3.1⟩
      · have h4 : key.toNat < 12 := by rcases hk with h | h <;> omega
        have h5 := sv_i hw key
        simp only [if_neg e2]
        exact ⟨or_lt ht (by
          have := Nat.pow_lt_pow_right (a := 2) (by decide) h4
          omega), h5⟩) (fun x hx => ⟨(hc.2 x hx).2.2.1, (hc.2 x hx).2.2.2.1⟩) (S.2.2 l).length 0 [] [] 0 0 (by decide) (fun x hx => by cases hx)
    exact ⟨h2.2, h2.1⟩
theorem vlF_b {S : SS} {l : Nat} {key : Int} (hw : WFS S) (hl : l ≤ 6) (hk : VK l key) : (0 ≤ vlF S.1 (vF S) key ∧ vlF S.1 (vF S) key ≤ 100) ∧ stF (sF S) key < 4096 := by
  unfold vlF stF
  by_cases e2 : 20 ≤ key
  · have h3 := fr_bd hw (key - 20).toNat (by rcases hk with h | h <;> omega)
    rw [if_pos e2, if_pos e2]
    exact h3
  · have h4 : key.toNat < 12 := by rcases hk with h | h <;> omega
    rw [if_neg e2, if_neg e2]
    refine ⟨sv_i hw key, ?_⟩
    have := Nat.pow_lt_pow_right (a := 2) (by decide) h4
    omega
-- the class's way: what was looked at once is known
def vaF (S : SS) (key : Int) (t : Nat) : Nat × Int := (t ||| stF (sF S) key, vlF S.1 (vF S) key)
def mkF (key : Int) (t : Nat) : Nat := if 0 ≤ key ∧ key < 12 then t ||| 2 ^ key.toNat else t
def DVF (S : SS) (l : Nat) (d : List (Int × Int)) (t : Nat) : Prop := (∀ x ∈ d, VK l x.1 ∧ x.2 = vlF S.1 (vF S) x.1 ∧ t ||| stF (sF S) x.1 = t) ∧ (d.map (fun x => x.1)).Nodup ∧ t < 4096
theorem DVF.wf {S : SS} {l : Nat} {d : List (Int × Int)} {t : Nat} (hw : WFS S) (hl : l ≤ 6) (h : DVF S l d t) : WFl l d := ⟨fun x hx => ⟨(h.1 x hx).1, by rw [(h.1 x hx).2.1]; exact (vlF_b hw hl (h.1 x hx).1).1⟩, h.2.1⟩
theorem mkF_st {S : SS} {l : Nat} {key : Int} (hk : VK l key) (t : Nat) : mkF key t ||| stF (sF S) key = t ||| stF (sF S) key := by
  unfold mkF stF
  rcases hk with h | h
  · rw [if_pos (by omega), if_neg (by omega), Nat.or_assoc, Nat.or_self]
  · rw [if_neg (by omega)]
theorem lkF_sim {S : SS} {l t0 : Nat} (hw : WFS S) (hl : l < 6) (key : Int) (d : List (Int × Int)) (t : Nat) (d' : List (Int × Int)) (t' : Nat) (hk : VK l key) (hR : DVF S l d t ∧ t = t0 ||| t') :
    (DVF S l (lkG (vaF S) mkF key d t).2.1 (lkG (vaF S) mkF key d t).1 ∧ (lkG (vaF S) mkF key d t).1 = t0 ||| (lkF S.1 (vF S) (sF S) key d' t').1) ∧ (lkG (vaF S) mkF key d t).2.2 = (lkF S.1 (vF S) (sF S) key d' t').2.2 := by
  obtain ⟨hD, ht⟩ := hR
  have hb := vlF_b hw (Nat.le_of_lt hl) hk
  unfold lkG lkF
  cases hf : d.find? (fun x => x.1 == key) with
  | some x =>
    have hxm := List.mem_of_find?_eq_some hf
    have hxk : x.1 = key := by simpa using List.find?_some hf
    have h1 := hD.1 x hxm
    rw [hxk] at h1
    refine ⟨⟨hD, ?_⟩, h1.2.1⟩
    show t = t0 ||| (t' ||| stF (sF S) key)
    rw [← Nat.or_assoc, ← ht, h1.2.2]
  | none =>
    have hlen := WFl_len (hD.wf hw (Nat.le_of_lt hl))
    simp only []
    rw [if_pos (by omega)]
    refine ⟨⟨⟨fun x hx => ?_, ?_, ?_⟩, ?_⟩, rfl⟩
    · show VK l x.1 ∧ x.2 = _ ∧ mkF key t ||| stF (sF S) key ||| stF (sF S) x.1 = mkF key t ||| stF (sF S) key
      rw [mkF_st hk]
      rcases List.mem_append.mp hx with e | e
      · have h1 := hD.1 x e
        refine ⟨h1.1, h1.2.1, ?_⟩
        rw [Nat.or_assoc, Nat.or_comm (stF (sF S) key), ← Nat.or_assoc, h1.2.2]
      · rw [List.mem_singleton.mp e]
        refine ⟨hk, rfl, ?_⟩
        show t ||| stF (sF S) key ||| stF (sF S) key = _
        rw [Nat.or_assoc, Nat.or_self]
    · rw [List.map_append, List.nodup_append]
      refine ⟨hD.2.1, by simp, fun a ha b hb => ?_⟩
      obtain ⟨x, hx, rfl⟩ := List.mem_map.mp ha
      have hb : b = key := by simpa using hb
      rw [hb]
      have := List.find?_eq_none.mp hf x hx
      simpa using this
    · show mkF key t ||| stF (sF S) key < 4096
      rw [mkF_st hk]
      exact or_lt hD.2.2 hb.2
    · show mkF key t ||| stF (sF S) key = _
      rw [mkF_st hk, ht, Nat.or_assoc]
theorem lkF_DV {S : SS} {l : Nat} (hw : WFS S) (hl : l < 6) {key : Int} {d : List (Int × Int)} {t : Nat} (hk : VK l key) (hD : DVF S l d t) : DVF S l (lkG (vaF S) mkF key d t).2.1 (lkG (vaF S) mkF key d t).1 :=
  (lkF_sim (t0 := t) hw hl key d t [] 0 hk ⟨hD, by simp⟩).1.1
/-- what the class's run of loaf l gives from the shelves t seen before -/
theorem run_F {S : SS} {l t : Nat} (hw : WFS S) (hl : l < 6) (hne : S.2.2 l ≠ []) (ht : t < 4096) : (runG (lkG (vaF S) mkF) (S.2.2 l) (S.2.2 l).length 0 [] [] 0 t).2.2.2 = vF S l ∧ (runG (lkG (vaF S) mkF) (S.2.2 l) (S.2.2 l).length 0 [] [] 0 t).1 = t ||| sF S l := by
  have hc := hw.2.2.2.2.2.2.2.2 l hl
  have h1 := run_sim (lk := lkG (vaF S) mkF) (lk' := lkF S.1 (vF S) (sF S)) (c := S.2.2 l) (V := VK l) (R := fun d t1 _ t' => DVF S l d t1 ∧ t1 = t ||| t') (fun key d t1 d' t' hk h => lkF_sim hw hl key d t1 d' t' hk h) (fun x hx => (hc.2 x hx).2.2.1) (S.2.2 l).length 0 [] [] 0 t [] 0 ⟨⟨fun x hx => (by cases hx), List.nodup_nil, ht⟩, by simp⟩
  have h2 := vF_eq hw hl
  rw [if_neg hne, if_neg hne] at h2
  refine ⟨?_, ?_⟩
  · rw [h1.2, h2.1]
    rfl
  · rw [h1.1.2, h2.2]
    rfl
