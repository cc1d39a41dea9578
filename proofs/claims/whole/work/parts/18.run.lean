-- ===== the baker: a recipe's run =====
/-- a sum, a difference or a product, left over by 100 -/
def jn (o x y : Int) : Int := if o = 2 then iRm (x + y) 100 else if o = 3 then iRm (x - y + 100) 100 else iRm (x * y) 100
theorem i32_t (z : Int32) : i32 z.toInt := by
  have h1 := Int32.le_toInt z
  have h2 := Int32.toInt_lt z
  constructor <;> omega
theorem jn_i (o x y : Int) : i32 (jn o x y) := by
  unfold jn iRm
  split
  · exact i32_t _
  · split <;> exact i32_t _
/-- what an order does to the run: t the world of looks, d what was looked at, n the steps, p the pile (its top first) -/
def runG {τ : Type} (lk : Int → List (Int × Int) → τ → τ × List (Int × Int) × Int) (c : Rcpe) : Nat → Nat → List Int → List (Int × Int) → Int → τ → τ × List (Int × Int) × Int × Int
  | 0, _, p, d, n, t => (t, d, n, p.headD 100)
  | u + 1, a, p, d, n, t =>
    match c[a]? with
    | none => (t, d, n, p.headD 100)
    | some x =>
      if x.1 = 6 then runG lk c u (if a + 1 < x.2.toNat then x.2.toNat else a + 1) p d n t
      else if x.1 = 0 then
        (if (lk x.2 d t).2.2 = 100 ∨ 60 ≤ p.length then ((lk x.2 d t).1, (lk x.2 d t).2.1, n + 1, 100) else runG lk c u (a + 1) ((lk x.2 d t).2.2 :: p) (lk x.2 d t).2.1 (n + 1) (lk x.2 d t).1)
      else if x.1 = 1 then
        (if x.2 = 100 ∨ 60 ≤ p.length then (t, d, n + 1, 100) else runG lk c u (a + 1) (x.2 :: p) d (n + 1) t)
      else if x.1 = 5 then
        (match p with
        | [] => runG lk c u (a + 1) [] d (n + 1) t
        | y :: q => runG lk c u (if y = 0 then (if a + 1 < x.2.toNat then x.2.toNat else a + 1) else a + 1) q d (n + 1) t)
      else
        (match p with
        | y :: w :: q => runG lk c u (a + 1) (jn x.1 w y :: q) d (n + 1) t
        | q => runG lk c u (a + 1) q d (n + 1) t)
/-- the pile's row holds p, its top last -/
def RP (σ : Sg) (l : Nat) (p : List Int) : Prop := ∀ i x, p.reverse[i]? = some x → hI σ (125 + l) i = x
theorem RP.fr {σ σ' : Sg} {l : Nat} {p : List Int} (h : RP σ l p) (e : hI σ' (125 + l) = hI σ (125 + l)) : RP σ' l p := fun i x hx => by rw [e]; exact h i x hx
theorem RP.push {σ : Sg} {l : Nat} {p : List Int} {v : Int} (h : RP σ l p) : RP (wI σ (125 + l) p.length v) l (v :: p) := by
  intro i x hx
  rw [List.reverse_cons] at hx
  by_cases e : i < p.length
  · rw [List.getElem?_append_left (by rw [List.length_reverse]; exact e)] at hx
    rw [hI_w, if_neg (by omega)]
    exact h i x hx
  · have hi := (List.getElem?_eq_some_iff.mp hx).1
    simp only [List.length_append, List.length_reverse, List.length_cons, List.length_nil] at hi
    have e2 : i = p.length := by omega
    subst e2
    rw [List.getElem?_append_right (by rw [List.length_reverse]; omega), List.length_reverse, Nat.sub_self] at hx
    simp only [List.getElem?_cons_zero] at hx
    cases hx
    rw [hI_w, if_pos ⟨rfl, rfl⟩]
theorem RP.tail {σ : Sg} {l : Nat} {p : List Int} {v : Int} (h : RP σ l (v :: p)) : RP σ l p := by
  intro i x hx
  have hi := (List.getElem?_eq_some_iff.mp hx).1
  refine h i x ?_
  rw [List.reverse_cons, List.getElem?_append_left hi]
  exact hx
theorem RP.top {σ : Sg} {l : Nat} {p : List Int} {v : Int} (h : RP σ l (v :: p)) : hI σ (125 + l) p.length = v := by
  refine h p.length v ?_
  rw [List.reverse_cons, List.getElem?_append_right (by rw [List.length_reverse]; omega), List.length_reverse, Nat.sub_self]
  rfl
/-- kept by a look: kinds, the row of the pile, recipes -/
def FrL (l : Nat) (σ σ' : Sg) : Prop := sk σ' = sk σ ∧ hI σ' (125 + l) = hI σ (125 + l) ∧ ∀ b, 652 ≤ b → hI σ' b = hI σ b ∧ hR σ' b = hR σ b
section RUN
variable {G : GT} {d k n : Nat} {σ : Sg} {Q : Option AV → Sg → Prop}
theorem sp_X0_joined {w x y : Int} (ho : i32 w) (hQ : Q (some (Vi (jn w x y))) σ) : WA G d k n mX0_joined 0 [Vi w, Vi x, Vi y] [] σ Q := by
  refine ar_iload_n 1 rfl d_X0_joined_0 rfl ?_
  unfold jn at hQ
  by_cases h2 : w = 2
  · subst h2
    rw [if_pos rfl] at hQ
    refine ar_lsw (off := 27) 28 d_X0_joined_1 (by decide) (by omega) (by rw [Op.lookupswitch.offset_cons, if_pos rfl]) rfl ?_
    refine ar_iload_n 29 rfl d_X0_joined_28 rfl ?_
    refine ar_iload_n 30 rfl d_X0_joined_29 rfl ?_
    refine ar_iadd 31 rfl d_X0_joined_30 ?_
    refine ar_bipush 33 rfl d_X0_joined_31 rfl ?_
    refine ar_irem 34 rfl d_X0_joined_33 (by omega) ?_
    refine WA.ret (some (Vi _)) ⟨d_X0_joined_34, rfl, Or.inl rfl⟩ ?_
    exact hQ
  · rw [if_neg h2] at hQ
    by_cases h3 : w = 3
    · subst h3
      rw [if_pos rfl] at hQ
      refine ar_lsw (off := 34) 35 d_X0_joined_1 (by decide) (by omega) (by rw [Op.lookupswitch.offset_cons, if_neg (by decide), Op.lookupswitch.offset_cons, if_pos rfl]) rfl ?_
      refine ar_iload_n 36 rfl d_X0_joined_35 rfl ?_
      refine ar_iload_n 37 rfl d_X0_joined_36 rfl ?_
      refine ar_isub 38 rfl d_X0_joined_37 ?_
      refine ar_bipush 40 rfl d_X0_joined_38 rfl ?_
      refine ar_iadd 41 rfl d_X0_joined_40 ?_
      refine ar_bipush 43 rfl d_X0_joined_41 rfl ?_
      refine ar_irem 44 rfl d_X0_joined_43 (by omega) ?_
      refine WA.ret (some (Vi _)) ⟨d_X0_joined_44, rfl, Or.inl rfl⟩ ?_
      exact hQ
    · rw [if_neg h3] at hQ
      refine ar_lsw (off := 44) 45 d_X0_joined_1 (by decide) (by omega) (by rw [Op.lookupswitch.offset_cons, if_neg (fun h => h2 h.symm), Op.lookupswitch.offset_cons, if_neg (fun h => h3 h.symm)]; rfl) rfl ?_
      refine ar_iload_n 46 rfl d_X0_joined_45 rfl ?_
      refine ar_iload_n 47 rfl d_X0_joined_46 rfl ?_
      refine ar_imul 48 rfl d_X0_joined_47 ?_
      refine ar_bipush 50 rfl d_X0_joined_48 rfl ?_
      refine ar_irem 51 rfl d_X0_joined_50 (by omega) ?_
      refine WA.ret (some (Vi _)) ⟨d_X0_joined_51, rfl, Or.inl rfl⟩ ?_
      exact hQ
set_option maxHeartbeats 16000000 in
theorem sp_X0_reckon {τ : Type} {lk : Int → List (Int × Int) → τ → τ × List (Int × Int) × Int} {Iv : τ → Sg → Prop} {V : Int → Prop} {DV : List (Int × Int) → τ → Prop} {l r : Nat} {c : Rcpe} {t0 : τ} (hl : l < 6)
    (hB : ∀ t σ, Iv t σ → ShB σ)
    (hst : ∀ t (σ σ' : Sg), Iv t σ → σ'.2 = σ.2 → (∀ b, b ≠ 125 + l → (b < 138 + 3 * l ∨ 141 + 3 * l ≤ b) → hI σ' b = hI σ b) → Iv t σ')
    (hlk : ∀ (t : τ) (σ : Sg) (d9 : List (Int × Int)) (key n9 : Int) (Q' : Option AV → Sg → Prop), Iv t σ → DV d9 t → V key → RM σ (138 + 3 * l) (l, 100, n9, 0, 0, d9) → (∀ σ', Iv (lk key d9 t).1 σ' → DV (lk key d9 t).2.1 (lk key d9 t).1 → RM σ' (138 + 3 * l) (l, 100, n9, 0, 0, (lk key d9 t).2.1) → FrL l σ σ' → i32 (lk key d9 t).2.2 → Q' (some (Vi (lk key d9 t).2.2)) σ') → WA G (d - 1) 0 0 mX0_lookedUp 0 [Va 121, Vi key, Va (138 + 3 * l), Vu, Vu] [] σ Q')
    (hc : ∀ x ∈ c, i32 x.1 ∧ -1000 ≤ x.2 ∧ x.2 ≤ 1000 ∧ (x.1 = 0 → V x.2)) (hcl : c.length < 60) (hRq : RRec σ r c) (hr : 652 ≤ r) (h0 : Iv t0 σ) (hD0 : DV [] t0) (hdp : 1 ≤ d)
    (hQ : ∀ σ', Iv (runG lk c c.length 0 [] [] 0 t0).1 σ' → RM σ' (138 + 3 * l) (l, 100, (runG lk c c.length 0 [] [] 0 t0).2.2.1, 0, 0, (runG lk c c.length 0 [] [] 0 t0).2.1) → Q (some (Vi (runG lk c c.length 0 [] [] 0 t0).2.2.2)) σ') : WA G d k n mX0_reckon 0 [Va 121, Vi (l : Int), Va r, Vu, Vu, Vu, Vu, Vu, Vu, Vu, Vu] [] σ Q := by
  have loop : ∀ u : Nat, ∀ (a : Nat) (p : List Int) (d9 : List (Int × Int)) (n9 : Int) (t : τ) (σi : Sg) (x8 x9 x10 : AV), u ≤ c.length → a ≤ 1000 → p.length ≤ 60 → (∀ x ∈ p, i32 x) → Iv t σi → DV d9 t → RM σi (138 + 3 * l) (l, 100, n9, 0, 0, d9) → RP σi l p → RRec σi r c →
      (∀ σ', Iv (runG lk c u a p d9 n9 t).1 σ' → RM σ' (138 + 3 * l) (l, 100, (runG lk c u a p d9 n9 t).2.2.1, 0, 0, (runG lk c u a p d9 n9 t).2.1) → Q (some (Vi (runG lk c u a p d9 n9 t).2.2.2)) σ') →
      WA G d k n mX0_reckon 29 [Va 121, Vi (l : Int), Va r, Va (138 + 3 * l), Va (125 + l), Vi (p.length : Int), Vi (a : Int), Vi ((c.length : Int) - (u : Int)), x8, x9, x10] [] σi Q := by
    intro u
    induction u with
    | zero =>
      intro a p d9 n9 t σi x8 x9 x10 hu ha hp hpi hIv hDV hRM hRP hRc hQ'
      have hk4 := hRc.1
      have hkP : sk σi (125 + l) = (10, 60) := (hB t σi hIv).2.2.2.2.1 l hl
      refine ar_iload 31 rfl d_X0_reckon_29 rfl ?_
      refine ar_aload_n 32 rfl d_X0_reckon_31 rfl ?_
      refine ar_giv (y := (c.length : Int)) 35 rfl d_X0_reckon_32 fl_X0_159 rfl (by assumption) hRc.2.2.2.2.2.1 ?_
      refine ar_icmp_ge 237 38 rfl rfl d_X0_reckon_35 (by omega) (by omega) (fun g35 => ?_) (fun h => by omega)
      refine ar_iload 239 rfl d_X0_reckon_237 rfl ?_
      refine ar_iconst 240 rfl d_X0_reckon_239 ?_
      refine ar_icmp_lt 253 243 rfl rfl d_X0_reckon_240 (by omega) (by omega) (fun g240 => ?_) (fun g240 => ?_)
      · have hp0 : p = [] := List.length_eq_zero_iff.mp (by omega)
        subst hp0
        refine ar_bipush 255 rfl d_X0_reckon_253 rfl ?_
        refine WA.ret (some (Vi _)) ⟨d_X0_reckon_255, rfl, Or.inl rfl⟩ ?_
        exact hQ' σi hIv hRM
      · refine ar_aload 245 rfl d_X0_reckon_243 rfl ?_
        refine ar_iload 247 rfl d_X0_reckon_245 rfl ?_
        refine ar_iconst 248 rfl d_X0_reckon_247 ?_
        refine ar_isub 249 rfl d_X0_reckon_248 ?_
        obtain ⟨v, q, hpq⟩ : ∃ v q, p = v :: q := by
          cases p with
          | nil => simp at g240
          | cons v q => exact ⟨v, q, rfl⟩
        subst hpq
        have hlq : (v :: q).length = q.length + 1 := rfl
        refine ar_top (y := (q.length : Int)) (by omega) ?_
        refine ar_ilv (y := v) 250 rfl d_X0_reckon_249 (by assumption) (by omega) hRP.top ?_
        refine ar_goto 255 rfl d_X0_reckon_250 ?_
        refine WA.ret (some (Vi _)) ⟨d_X0_reckon_255, rfl, Or.inl rfl⟩ ?_
        exact hQ' σi hIv hRM
    | succ u ih =>
      intro a p d9 n9 t σi x8 x9 x10 hu ha hp hpi hIv hDV hRM hRP hRc hQ'
      have hk4 := hRc.1
      have hkP : sk σi (125 + l) = (10, 60) := (hB t σi hIv).2.2.2.2.1 l hl
      have hk2 : (sk σi (138 + 3 * l)).1 = 2 := ((hB t σi hIv).2.2.2.2.2.2.2.2.2.2.2 l hl).2.2.2.1
      have h231 : ∀ (a' : Nat) (p' : List Int) (d' : List (Int × Int)) (n' : Int) (t' : τ) (σ' : Sg) (y8 y9 y10 : AV), a' ≤ 1000 → p'.length ≤ 60 → (∀ x ∈ p', i32 x) → Iv t' σ' → DV d' t' → RM σ' (138 + 3 * l) (l, 100, n', 0, 0, d') → RP σ' l p' → RRec σ' r c → runG lk c (u + 1) a p d9 n9 t = runG lk c u a' p' d' n' t' → WA G d k n mX0_reckon 231 [Va 121, Vi (l : Int), Va r, Va (138 + 3 * l), Va (125 + l), Vi (p'.length : Int), Vi (a' : Int), Vi ((c.length : Int) - ((u + 1 : Nat) : Int)), y8, y9, y10] [] σ' Q := by
        intro a' p' d' n' t' σ' y8 y9 y10 b1 b2 b3 b4 b4d b5 b6 b7 b8
        refine ar_inc_7 (y := (c.length : Int) - (u : Int)) 234 rfl d_X0_reckon_231 rfl (by intro _ h; cases h) (by omega) ?_
        refine ar_goto 29 rfl d_X0_reckon_234 ?_
        refine ih a' p' d' n' t' σ' y8 y9 y10 (by omega) b1 b2 b3 b4 b4d b5 b6 b7 ?_
        rw [← b8]
        exact hQ'
      refine ar_iload 31 rfl d_X0_reckon_29 rfl ?_
      refine ar_aload_n 32 rfl d_X0_reckon_31 rfl ?_
      refine ar_giv (y := (c.length : Int)) 35 rfl d_X0_reckon_32 fl_X0_159 rfl (by assumption) hRc.2.2.2.2.2.1 ?_
      refine ar_icmp_ge 237 38 rfl rfl d_X0_reckon_35 (by omega) (by omega) (fun h => by omega) (fun g35 => ?_)
      refine ar_iload 40 rfl d_X0_reckon_38 rfl ?_
      refine ar_aload_n 41 rfl d_X0_reckon_40 rfl ?_
      refine ar_giv (y := (c.length : Int)) 44 rfl d_X0_reckon_41 fl_X0_159 rfl (by assumption) hRc.2.2.2.2.2.1 ?_
      refine ar_icmp_ge 237 47 rfl rfl d_X0_reckon_44 (by omega) (by omega) (fun g44 => ?_) (fun g44 => ?_)
      · have hnone : c[a]? = none := List.getElem?_eq_none (by omega)
        have hz : runG lk c (u + 1) a p d9 n9 t = (t, d9, n9, p.headD 100) := by
          rw [runG, hnone]
        rw [hz] at hQ'
        refine ar_iload 239 rfl d_X0_reckon_237 rfl ?_
        refine ar_iconst 240 rfl d_X0_reckon_239 ?_
        refine ar_icmp_lt 253 243 rfl rfl d_X0_reckon_240 (by omega) (by omega) (fun g240 => ?_) (fun g240 => ?_)
        · have hp0 : p = [] := List.length_eq_zero_iff.mp (by omega)
          subst hp0
          refine ar_bipush 255 rfl d_X0_reckon_253 rfl ?_
          refine WA.ret (some (Vi _)) ⟨d_X0_reckon_255, rfl, Or.inl rfl⟩ ?_
          exact hQ' σi hIv hRM
        · refine ar_aload 245 rfl d_X0_reckon_243 rfl ?_
          refine ar_iload 247 rfl d_X0_reckon_245 rfl ?_
          refine ar_iconst 248 rfl d_X0_reckon_247 ?_
          refine ar_isub 249 rfl d_X0_reckon_248 ?_
          obtain ⟨v, q, hpq⟩ : ∃ v q, p = v :: q := by
            cases p with
            | nil => simp at g240
            | cons v q => exact ⟨v, q, rfl⟩
          subst hpq
          have hlq : (v :: q).length = q.length + 1 := rfl
          refine ar_top (y := (q.length : Int)) (by omega) ?_
          refine ar_ilv (y := v) 250 rfl d_X0_reckon_249 (by assumption) (by omega) hRP.top ?_
          refine ar_goto 255 rfl d_X0_reckon_250 ?_
          refine WA.ret (some (Vi _)) ⟨d_X0_reckon_255, rfl, Or.inl rfl⟩ ?_
          exact hQ' σi hIv hRM
      · have hlt : a < c.length := by omega
        have hx : c[a]? = some c[a] := List.getElem?_eq_getElem hlt
        have hxc := hc _ (List.getElem_mem hlt)
        have hxv := hRc.2.2.2.2.2.2.2.2.2 a _ hx
        have ho0 : hR σi r 0 = some (r + 1) := hRc.2.1
        have ho1 : hR σi r 1 = some (r + 2) := hRc.2.2.1
        have hko : sk σi (r + 1) = (10, c.length) := hRc.2.2.2.1
        have hkn : sk σi (r + 2) = (10, c.length) := hRc.2.2.2.2.1
        generalize hcx : c[a] = x at hx hxc hxv
        refine ar_aload_n 48 rfl d_X0_reckon_47 rfl ?_
        refine ar_getA 51 rfl d_X0_reckon_48 fl_X0_164 rfl (by assumption) (by assumption) ?_
        refine ar_iload 53 rfl d_X0_reckon_51 rfl ?_
        refine ar_ilv (y := x.1) 54 rfl d_X0_reckon_53 (by assumption) (by omega) hxv.1 ?_
        refine ar_ist_8 56 rfl d_X0_reckon_54 rfl (by intro _ h; cases h) ?_
        refine ar_aload_n 57 rfl d_X0_reckon_56 rfl ?_
        refine ar_getA 60 rfl d_X0_reckon_57 fl_X0_167 rfl (by assumption) (by assumption) ?_
        refine ar_iload 62 rfl d_X0_reckon_60 rfl ?_
        refine ar_ilv (y := x.2) 63 rfl d_X0_reckon_62 (by assumption) (by omega) hxv.2 ?_
        refine ar_ist_9 65 rfl d_X0_reckon_63 rfl (by intro _ h; cases h) ?_
        refine ar_inc_6 (y := ((a + 1 : Nat) : Int)) 68 rfl d_X0_reckon_65 rfl (by intro _ h; cases h) (by omega) ?_
        refine ar_iload 70 rfl d_X0_reckon_68 rfl ?_
        refine ar_bipush 72 rfl d_X0_reckon_70 rfl ?_
        refine ar_icmp_ne 87 75 rfl rfl d_X0_reckon_72 (by omega) (by omega) (fun g72 => ?_) (fun g72 => ?_)
        · refine ar_aload_n 88 rfl d_X0_reckon_87 rfl ?_
          refine ar_dup 89 rfl d_X0_reckon_88 (fun _ => rfl) ?_
          refine ar_giv (y := n9) 92 rfl d_X0_reckon_89 fl_X0_104 rfl (by assumption) hRM.2.2.1 ?_
          refine ar_iconst 93 rfl d_X0_reckon_92 ?_
          refine ar_iadd 94 rfl d_X0_reckon_93 ?_
          refine ar_putI 97 rfl d_X0_reckon_94 fl_X0_104 rfl rfl (by assumption) ?_
          have hf1 : FrI (138 + 3 * l) (141 + 3 * l) σi (wI σi (138 + 3 * l) 2 (n9 + 1)) := FrI.w (by omega) (by omega)
          have hIv1 : Iv t (wI σi (138 + 3 * l) 2 (n9 + 1)) := hst t _ _ hIv rfl (fun b hb hb2 => hf1.2 b (by omega))
          have hRM1 : RM (wI σi (138 + 3 * l) 2 (n9 + 1)) (138 + 3 * l) (l, 100, n9 + 1, 0, 0, d9) := by
            obtain ⟨q0, q1, q2, q3, q4, q5, q6⟩ := hRM
            refine ⟨?_, ?_, ?_, ?_, ?_, ?_, fun j y hy => ?_⟩
            · rw [hI_w, if_neg (by omega)]; exact q0
            · rw [hI_w, if_neg (by omega)]; exact q1
            · rw [hI_w, if_pos ⟨rfl, rfl⟩]
            · rw [hI_w, if_neg (by omega)]; exact q3
            · rw [hI_w, if_neg (by omega)]; exact q4
            · rw [hI_w, if_neg (by omega)]; exact q5
            · have := q6 j y hy
              refine ⟨?_, ?_⟩
              · rw [hI_w, if_neg (by omega)]; exact this.1
              · rw [hI_w, if_neg (by omega)]; exact this.2
          have hRP1 : RP (wI σi (138 + 3 * l) 2 (n9 + 1)) l p := hRP.fr (hf1.2 _ (by omega))
          have hRc1 : RRec (wI σi (138 + 3 * l) 2 (n9 + 1)) r c := hRc.fr (fun b hb => ⟨rfl, hf1.2 b (by omega), rfl⟩)
          generalize wI σi (138 + 3 * l) 2 (n9 + 1) = σ1 at hIv1 hRM1 hRP1 hRc1
          have hkP1 : sk σ1 (125 + l) = (10, 60) := (hB t σ1 hIv1).2.2.2.2.1 l hl
          have h125 : ∀ (v : Int) (d' : List (Int × Int)) (t' : τ) (σ' : Sg) (y10 : AV), i32 v → Iv t' σ' → DV d' t' → RM σ' (138 + 3 * l) (l, 100, n9 + 1, 0, 0, d') → RP σ' l p → RRec σ' r c → runG lk c (u + 1) a p d9 n9 t = (if v = 100 ∨ 60 ≤ p.length then (t', d', n9 + 1, 100) else runG lk c u (a + 1) (v :: p) d' (n9 + 1) t') → WA G d k n mX0_reckon 125 [Va 121, Vi (l : Int), Va r, Va (138 + 3 * l), Va (125 + l), Vi (p.length : Int), Vi ((a + 1 : Nat) : Int), Vi ((c.length : Int) - ((u + 1 : Nat) : Int)), Vi x.1, Vi x.2, y10] [Vi v] σ' Q := by
            intro v d' t' σ' y10 hv hIv' hDV' hRM' hRP' hRc' hz
            have hkP' : sk σ' (125 + l) = (10, 60) := (hB t' σ' hIv').2.2.2.2.1 l hl
            refine ar_ist_10 127 rfl d_X0_reckon_125 rfl (by intro _ h; cases h) ?_
            refine ar_iload 129 rfl d_X0_reckon_127 rfl ?_
            refine ar_bipush 131 rfl d_X0_reckon_129 rfl ?_
            refine ar_icmp_eq 142 134 rfl rfl d_X0_reckon_131 (by omega) (by omega) (fun g131 => ?_) (fun g131 => ?_)
            · refine ar_bipush 144 rfl d_X0_reckon_142 rfl ?_
              refine WA.ret (some (Vi _)) ⟨d_X0_reckon_144, rfl, Or.inl rfl⟩ ?_
              rw [hz, if_pos (Or.inl g131)] at hQ'
              exact hQ' σ' hIv' hRM'
            · refine ar_iload 136 rfl d_X0_reckon_134 rfl ?_
              refine ar_aload 138 rfl d_X0_reckon_136 rfl ?_
              refine ar_alen 139 rfl d_X0_reckon_138 (by assumption) (by omega) ?_
              refine ar_icmp_lt 145 142 rfl rfl d_X0_reckon_139 (by omega) (by omega) (fun g139 => ?_) (fun g139 => ?_)
              · refine ar_aload 147 rfl d_X0_reckon_145 rfl ?_
                refine ar_iload 149 rfl d_X0_reckon_147 rfl ?_
                refine ar_iload 151 rfl d_X0_reckon_149 rfl ?_
                refine ar_iasN p.length 152 rfl d_X0_reckon_151 (by assumption) (by omega) (by omega) ?_
                refine ar_inc_5 (y := ((p.length + 1 : Nat) : Int)) 155 rfl d_X0_reckon_152 rfl (by intro _ h; cases h) (by omega) ?_
                refine ar_goto 231 rfl d_X0_reckon_155 ?_
                have hf2 : FrI (125 + l) (126 + l) σ' (wI σ' (125 + l) p.length v) := FrI.w (by omega) (by omega)
                refine h231 (a + 1) (v :: p) d' (n9 + 1) t' _ _ _ _ (by omega) (by simp only [List.length_cons]; omega) (fun y hy => ?_) (hst t' _ _ hIv' rfl (fun b hb _ => hf2.2 b (by omega))) hDV' (RM.fr hRM' hf2 (by omega)) hRP'.push (hRc'.fr (fun b hb => ⟨rfl, hf2.2 b (by omega), rfl⟩)) ?_
                · rcases List.mem_cons.mp hy with e | e
                  · rw [e]; exact hv
                  · exact hpi y e
                · rw [hz, if_neg (by omega)]
              · refine ar_bipush 144 rfl d_X0_reckon_142 rfl ?_
                refine WA.ret (some (Vi _)) ⟨d_X0_reckon_144, rfl, Or.inl rfl⟩ ?_
                rw [hz, if_pos (Or.inr (by omega))] at hQ'
                exact hQ' σ' hIv' hRM'
          refine ar_iload 99 rfl d_X0_reckon_97 rfl ?_
          refine ar_if_eq 108 102 rfl rfl d_X0_reckon_99 (by omega) (fun g99 => ?_) (fun g99 => ?_)
          · refine ar_iload 110 rfl d_X0_reckon_108 rfl ?_
            refine ar_if_ne 123 113 rfl rfl d_X0_reckon_110 (by omega) (fun g110 => ?_) (fun g110 => ?_)
            · refine ar_iload 125 rfl d_X0_reckon_123 rfl ?_
              refine h125 x.2 d9 t σ1 _ (by omega) hIv1 hDV hRM1 hRP1 hRc1 ?_
              rw [runG, hx]
              simp only []
              rw [if_neg g72, if_neg (by omega), if_pos (by omega)]
            · refine ar_aload_n 114 rfl d_X0_reckon_113 rfl ?_
              refine ar_iload 116 rfl d_X0_reckon_114 rfl ?_
              refine ar_aload_n 117 rfl d_X0_reckon_116 rfl ?_
              refine ar_callV0 (M' := mX0_lookedUp) (As := [_, _]) (ls' := [Va _, Vi _, Vr _, Vu, Vu]) 120 rfl d_X0_reckon_117 ml_X0_175 mt_X0_lookedUp (hB t σ1 hIv1).1 rfl (Nat.le_of_ble_eq_true rfl) rfl (Nat.le_of_ble_eq_true rfl) (by omega) ?_
              refine hlk t σ1 d9 x.2 (n9 + 1) _ hIv1 hDV (hxc.2.2.2 (by omega)) hRM1 (fun σ4 hI4 hD4 hM4 hf4 hv4 => ?_)
              refine ar_goto 125 rfl d_X0_reckon_120 ?_
              refine h125 _ _ _ σ4 _ hv4 hI4 hD4 hM4 (hRP1.fr hf4.2.1) (hRc1.fr (fun b hb => ⟨by rw [hf4.1], (hf4.2.2 b (by omega)).1, (hf4.2.2 b (by omega)).2⟩)) ?_
              rw [runG, hx]
              simp only []
              rw [if_neg g72, if_pos (by omega)]
          · refine ar_iload 104 rfl d_X0_reckon_102 rfl ?_
            refine ar_iconst 105 rfl d_X0_reckon_104 ?_
            refine ar_icmp_ne 158 108 rfl rfl d_X0_reckon_105 (by omega) (by omega) (fun g105 => ?_) (fun g105 => ?_)
            · refine ar_iload 160 rfl d_X0_reckon_158 rfl ?_
              refine ar_iconst 161 rfl d_X0_reckon_160 ?_
              refine ar_icmp_ne 198 164 rfl rfl d_X0_reckon_161 (by omega) (by omega) (fun g161 => ?_) (fun g161 => ?_)
              · refine ar_iload 200 rfl d_X0_reckon_198 rfl ?_
                refine ar_iconst 201 rfl d_X0_reckon_200 ?_
                refine ar_icmp_lt 231 204 rfl rfl d_X0_reckon_201 (by omega) (by omega) (fun g201 => ?_) (fun g201 => ?_)
                · -- visit 1
                  refine h231 (a + 1) p d9 (n9 + 1) t σ1 _ _ _ (by omega) (by omega) hpi hIv1 hDV hRM1 hRP1 hRc1 ?_
                  rw [runG, hx]
                  simp only []
                  first
                    | (rw [if_neg g72, if_neg (by omega), if_neg (by omega), if_pos (by omega)]
                       have hp0 : p = [] := List.length_eq_zero_iff.mp (by omega)
                       subst hp0
                       rfl)
                    | (rw [if_neg g72, if_neg (by omega), if_neg (by omega), if_neg (by omega)]
                       rcases p with _ | ⟨y, _ | ⟨w, q⟩⟩
                       · rfl
                       · rfl
                       · have hlq : (y :: w :: q).length = q.length + 2 := rfl
                         omega)
                · obtain ⟨y, w, q, hpq⟩ : ∃ y w q, p = y :: w :: q := by
                    rcases p with _ | ⟨y, _ | ⟨w, q⟩⟩
                    · simp at g201
                    · simp at g201
                    · exact ⟨y, w, q, rfl⟩
                  subst hpq
                  have hlq : (y :: w :: q).length = q.length + 2 := rfl
                  have hlq2 : (w :: q).length = q.length + 1 := rfl
                  refine ar_inc_5 (y := ((q.length + 1 : Nat) : Int)) 207 rfl d_X0_reckon_204 rfl (by intro _ h; cases h) (by omega) ?_
                  refine ar_aload 209 rfl d_X0_reckon_207 rfl ?_
                  refine ar_iload 211 rfl d_X0_reckon_209 rfl ?_
                  refine ar_iconst 212 rfl d_X0_reckon_211 ?_
                  refine ar_isub 213 rfl d_X0_reckon_212 ?_
                  refine ar_iload 215 rfl d_X0_reckon_213 rfl ?_
                  refine ar_aload 217 rfl d_X0_reckon_215 rfl ?_
                  refine ar_iload 219 rfl d_X0_reckon_217 rfl ?_
                  refine ar_iconst 220 rfl d_X0_reckon_219 ?_
                  refine ar_isub 221 rfl d_X0_reckon_220 ?_
                  refine ar_top (y := (q.length : Int)) (by omega) ?_
                  refine ar_ilv (y := w) 222 rfl d_X0_reckon_221 (by assumption) (by omega) hRP1.tail.top ?_
                  refine ar_aload 224 rfl d_X0_reckon_222 rfl ?_
                  refine ar_iload 226 rfl d_X0_reckon_224 rfl ?_
                  refine ar_ilv (y := y) 227 rfl d_X0_reckon_226 (by assumption) (by omega) hRP1.top ?_
                  refine ar_callS0 (M' := mX0_joined) (As := [_, _, _]) (ls' := [Vi _, Vi _, Vi _]) 230 rfl d_X0_reckon_227 ml_X0_179 mt_X0_joined rfl (Nat.le_of_ble_eq_true rfl) rfl (Nat.le_of_ble_eq_true rfl) (by omega) ?_
                  refine sp_X0_joined (by omega) ?_
                  refine ar_iasN q.length 231 rfl d_X0_reckon_230 (by assumption) (by omega) (by omega) ?_
                  have hf2 : FrI (125 + l) (126 + l) σ1 (wI σ1 (125 + l) q.length (jn x.1 w y)) := FrI.w (by omega) (by omega)
                  refine h231 (a + 1) (jn x.1 w y :: q) d9 (n9 + 1) t _ _ _ _ (by omega) (by simp only [List.length_cons]; omega) (fun z hz => ?_) (hst t _ _ hIv1 rfl (fun b hb _ => hf2.2 b (by omega))) hDV (RM.fr hRM1 hf2 (by omega)) hRP1.tail.tail.push (hRc1.fr (fun b hb => ⟨rfl, hf2.2 b (by omega), rfl⟩)) ?_
                  · rcases List.mem_cons.mp hz with e | e
                    · rw [e]; exact jn_i _ _ _
                    · exact hpi z (List.mem_cons_of_mem _ (List.mem_cons_of_mem _ e))
                  · rw [runG, hx]
                    simp only []
                    rw [if_neg g72, if_neg (by omega), if_neg (by omega), if_neg (by omega)]
              · refine ar_iload 166 rfl d_X0_reckon_164 rfl ?_
                refine ar_iconst 167 rfl d_X0_reckon_166 ?_
                refine ar_icmp_lt 198 170 rfl rfl d_X0_reckon_167 (by omega) (by omega) (fun g167 => ?_) (fun g167 => ?_)
                · refine ar_iload 200 rfl d_X0_reckon_198 rfl ?_
                  refine ar_iconst 201 rfl d_X0_reckon_200 ?_
                  refine ar_icmp_lt 231 204 rfl rfl d_X0_reckon_201 (by omega) (by omega) (fun g201 => ?_) (fun g201 => ?_)
                  · -- visit 2
                    refine h231 (a + 1) p d9 (n9 + 1) t σ1 _ _ _ (by omega) (by omega) hpi hIv1 hDV hRM1 hRP1 hRc1 ?_
                    rw [runG, hx]
                    simp only []
                    first
                      | (rw [if_neg g72, if_neg (by omega), if_neg (by omega), if_pos (by omega)]
                         have hp0 : p = [] := List.length_eq_zero_iff.mp (by omega)
                         subst hp0
                         rfl)
                      | (rw [if_neg g72, if_neg (by omega), if_neg (by omega), if_neg (by omega)]
                         rcases p with _ | ⟨y, _ | ⟨w, q⟩⟩
                         · rfl
                         · rfl
                         · have hlq : (y :: w :: q).length = q.length + 2 := rfl
                           omega)
                  · obtain ⟨y, w, q, hpq⟩ : ∃ y w q, p = y :: w :: q := by
                      rcases p with _ | ⟨y, _ | ⟨w, q⟩⟩
                      · simp at g201
                      · simp at g201
                      · exact ⟨y, w, q, rfl⟩
                    subst hpq
                    have hlq : (y :: w :: q).length = q.length + 2 := rfl
                    have hlq2 : (w :: q).length = q.length + 1 := rfl
                    refine ar_inc_5 (y := ((q.length + 1 : Nat) : Int)) 207 rfl d_X0_reckon_204 rfl (by intro _ h; cases h) (by omega) ?_
                    refine ar_aload 209 rfl d_X0_reckon_207 rfl ?_
                    refine ar_iload 211 rfl d_X0_reckon_209 rfl ?_
                    refine ar_iconst 212 rfl d_X0_reckon_211 ?_
                    refine ar_isub 213 rfl d_X0_reckon_212 ?_
                    refine ar_iload 215 rfl d_X0_reckon_213 rfl ?_
                    refine ar_aload 217 rfl d_X0_reckon_215 rfl ?_
                    refine ar_iload 219 rfl d_X0_reckon_217 rfl ?_
                    refine ar_iconst 220 rfl d_X0_reckon_219 ?_
                    refine ar_isub 221 rfl d_X0_reckon_220 ?_
                    refine ar_top (y := (q.length : Int)) (by omega) ?_
                    refine ar_ilv (y := w) 222 rfl d_X0_reckon_221 (by assumption) (by omega) hRP1.tail.top ?_
                    refine ar_aload 224 rfl d_X0_reckon_222 rfl ?_
                    refine ar_iload 226 rfl d_X0_reckon_224 rfl ?_
                    refine ar_ilv (y := y) 227 rfl d_X0_reckon_226 (by assumption) (by omega) hRP1.top ?_
                    refine ar_callS0 (M' := mX0_joined) (As := [_, _, _]) (ls' := [Vi _, Vi _, Vi _]) 230 rfl d_X0_reckon_227 ml_X0_179 mt_X0_joined rfl (Nat.le_of_ble_eq_true rfl) rfl (Nat.le_of_ble_eq_true rfl) (by omega) ?_
                    refine sp_X0_joined (by omega) ?_
                    refine ar_iasN q.length 231 rfl d_X0_reckon_230 (by assumption) (by omega) (by omega) ?_
                    have hf2 : FrI (125 + l) (126 + l) σ1 (wI σ1 (125 + l) q.length (jn x.1 w y)) := FrI.w (by omega) (by omega)
                    refine h231 (a + 1) (jn x.1 w y :: q) d9 (n9 + 1) t _ _ _ _ (by omega) (by simp only [List.length_cons]; omega) (fun z hz => ?_) (hst t _ _ hIv1 rfl (fun b hb _ => hf2.2 b (by omega))) hDV (RM.fr hRM1 hf2 (by omega)) hRP1.tail.tail.push (hRc1.fr (fun b hb => ⟨rfl, hf2.2 b (by omega), rfl⟩)) ?_
                    · rcases List.mem_cons.mp hz with e | e
                      · rw [e]; exact jn_i _ _ _
                      · exact hpi z (List.mem_cons_of_mem _ (List.mem_cons_of_mem _ e))
                    · rw [runG, hx]
                      simp only []
                      rw [if_neg g72, if_neg (by omega), if_neg (by omega), if_neg (by omega)]
                · obtain ⟨y, q, hpq⟩ : ∃ y q, p = y :: q := by
                    cases p with
                    | nil => simp at g167
                    | cons y q => exact ⟨y, q, rfl⟩
                  subst hpq
                  have hy32 := hpi y List.mem_cons_self
                  have hlq : (y :: q).length = q.length + 1 := rfl
                  refine ar_inc_5 (y := (q.length : Int)) 173 rfl d_X0_reckon_170 rfl (by intro _ h; cases h) (by omega) ?_
                  refine ar_aload 175 rfl d_X0_reckon_173 rfl ?_
                  refine ar_iload 177 rfl d_X0_reckon_175 rfl ?_
                  refine ar_ilv (y := y) 178 rfl d_X0_reckon_177 (by assumption) (by omega) hRP1.top ?_
                  refine ar_if_ne 191 181 rfl rfl d_X0_reckon_178 (by omega) (fun g178 => ?_) (fun g178 => ?_)
                  · refine ar_iload 193 rfl d_X0_reckon_191 rfl ?_
                    refine ar_ist_6 195 rfl d_X0_reckon_193 rfl (by intro _ h; cases h) ?_
                    refine ar_goto 231 rfl d_X0_reckon_195 ?_
                    refine h231 _ q d9 (n9 + 1) t σ1 _ _ _ (by omega) (by omega) (fun z hz => hpi z (List.mem_cons_of_mem _ hz)) hIv1 hDV hRM1 hRP1.tail hRc1 ?_
                    rw [runG, hx]
                    simp only []
                    rw [if_neg g72, if_neg (by omega), if_neg (by omega), if_pos g161, if_neg g178]
                  · refine ar_iload 183 rfl d_X0_reckon_181 rfl ?_
                    refine ar_iload 185 rfl d_X0_reckon_183 rfl ?_
                    refine ar_max 188 rfl d_X0_reckon_185 mx_X0_170 (by omega) (by omega) (Nat.le_of_ble_eq_true rfl) (by omega) ?_
                    refine ar_top (y := (((if a + 1 < x.2.toNat then x.2.toNat else a + 1) : Nat) : Int)) (by split <;> split <;> omega) ?_
                    refine ar_goto 193 rfl d_X0_reckon_188 ?_
                    refine ar_ist_6 195 rfl d_X0_reckon_193 rfl (by intro _ h; cases h) ?_
                    refine ar_goto 231 rfl d_X0_reckon_195 ?_
                    refine h231 _ q d9 (n9 + 1) t σ1 _ _ _ (by split <;> omega) (by omega) (fun z hz => hpi z (List.mem_cons_of_mem _ hz)) hIv1 hDV hRM1 hRP1.tail hRc1 ?_
                    rw [runG, hx]
                    simp only []
                    rw [if_neg g72, if_neg (by omega), if_neg (by omega), if_pos g161, if_pos g178]
            · refine ar_iload 110 rfl d_X0_reckon_108 rfl ?_
              refine ar_if_ne 123 113 rfl rfl d_X0_reckon_110 (by omega) (fun g110 => ?_) (fun g110 => ?_)
              · refine ar_iload 125 rfl d_X0_reckon_123 rfl ?_
                refine h125 x.2 d9 t σ1 _ (by omega) hIv1 hDV hRM1 hRP1 hRc1 ?_
                rw [runG, hx]
                simp only []
                rw [if_neg g72, if_neg (by omega), if_pos (by omega)]
              · refine ar_aload_n 114 rfl d_X0_reckon_113 rfl ?_
                refine ar_iload 116 rfl d_X0_reckon_114 rfl ?_
                refine ar_aload_n 117 rfl d_X0_reckon_116 rfl ?_
                refine ar_callV0 (M' := mX0_lookedUp) (As := [_, _]) (ls' := [Va _, Vi _, Vr _, Vu, Vu]) 120 rfl d_X0_reckon_117 ml_X0_175 mt_X0_lookedUp (hB t σ1 hIv1).1 rfl (Nat.le_of_ble_eq_true rfl) rfl (Nat.le_of_ble_eq_true rfl) (by omega) ?_
                refine hlk t σ1 d9 x.2 (n9 + 1) _ hIv1 hDV (hxc.2.2.2 (by omega)) hRM1 (fun σ4 hI4 hD4 hM4 hf4 hv4 => ?_)
                refine ar_goto 125 rfl d_X0_reckon_120 ?_
                refine h125 _ _ _ σ4 _ hv4 hI4 hD4 hM4 (hRP1.fr hf4.2.1) (hRc1.fr (fun b hb => ⟨by rw [hf4.1], (hf4.2.2 b (by omega)).1, (hf4.2.2 b (by omega)).2⟩)) ?_
                rw [runG, hx]
                simp only []
                rw [if_neg g72, if_pos (by omega)]
        · refine ar_iload 77 rfl d_X0_reckon_75 rfl ?_
          refine ar_iload 79 rfl d_X0_reckon_77 rfl ?_
          refine ar_max 82 rfl d_X0_reckon_79 mx_X0_170 (by omega) (by omega) (Nat.le_of_ble_eq_true rfl) (by omega) ?_
          refine ar_top (y := (((if a + 1 < x.2.toNat then x.2.toNat else a + 1) : Nat) : Int)) (by split <;> split <;> omega) ?_
          refine ar_ist_6 84 rfl d_X0_reckon_82 rfl (by intro _ h; cases h) ?_
          refine ar_goto 231 rfl d_X0_reckon_84 ?_
          refine h231 _ p d9 n9 t σi _ _ _ (by split <;> omega) hp hpi hIv hDV hRM hRP hRc ?_
          rw [runG, hx]
          simp only []
          rw [if_pos g72]
  have hBs := hB t0 σ h0
  have hk := hBs.1
  have hk3 : sk σ 123 = (12, 6) := hBs.2.2.1
  have hk4 : sk σ 124 = (15, 6) := hBs.2.2.2.1
  have hr4 : hR σ 121 4 = some 123 := hBs.2.2.2.2.2.2.2.2.1
  have hr5 : hR σ 121 5 = some 124 := hBs.2.2.2.2.2.2.2.2.2.1
  have hrd := (hBs.2.2.2.2.2.2.2.2.2.2.2 l hl).1
  have hsd := (hBs.2.2.2.2.2.2.2.2.2.2.2 l hl).2.2.2
  refine ar_aload_n 1 rfl d_X0_reckon_0 rfl ?_
  refine ar_getA 4 rfl d_X0_reckon_1 fl_X0_17 rfl (by assumption) (by assumption) ?_
  refine ar_iload_n 5 rfl d_X0_reckon_4 rfl ?_
  refine ar_aalA 6 rfl d_X0_reckon_5 (by assumption) (by omega) (by omega) hrd ?_
  refine ar_ast_3 7 rfl d_X0_reckon_6 rfl (by intro _ h; cases h) ?_
  refine ar_aload_n 8 rfl d_X0_reckon_7 rfl ?_
  refine ar_iload_n 9 rfl d_X0_reckon_8 rfl ?_
  refine ar_callV0 (M' := mX1_begin) (As := [_]) (ls' := [Va _, Vi _]) 12 rfl d_X0_reckon_9 ml_X0_157 mt_X1_begin hsd.1 rfl (Nat.le_of_ble_eq_true rfl) rfl (Nat.le_of_ble_eq_true rfl) (by omega) ?_
  refine sp_X1_begin hsd (fun σ1 hf1 hM1 => ?_)
  have hIv1 : Iv t0 σ1 := hst t0 _ _ h0 hf1.1 (fun b hb hb2 => hf1.2 b (by omega))
  have hBs1 := hB t0 σ1 hIv1
  have hk_1 := hBs1.1
  have hk4_1 : sk σ1 124 = (15, 6) := hBs1.2.2.2.1
  have hr5_1 : hR σ1 121 5 = some 124 := hBs1.2.2.2.2.2.2.2.2.2.1
  have hrp := (hBs1.2.2.2.2.2.2.2.2.2.2.2 l hl).2.1
  have hRc1 : RRec σ1 r c := hRq.fr (fun b hb => ⟨by show σ1.2.2.1 b = _; rw [hf1.1], hf1.2 b (by omega), by show σ1.2.1 b = _; rw [hf1.1]⟩)
  refine ar_aload_n 13 rfl d_X0_reckon_12 rfl ?_
  refine ar_getA 16 rfl d_X0_reckon_13 fl_X0_23 rfl (by assumption) (by assumption) ?_
  refine ar_iload_n 17 rfl d_X0_reckon_16 rfl ?_
  refine ar_aalA 18 rfl d_X0_reckon_17 (by assumption) (by omega) (by omega) hrp ?_
  refine ar_ast_4 20 rfl d_X0_reckon_18 rfl (by intro _ h; cases h) ?_
  refine ar_iconst 21 rfl d_X0_reckon_20 ?_
  refine ar_ist_5 23 rfl d_X0_reckon_21 rfl (by intro _ h; cases h) ?_
  refine ar_iconst 24 rfl d_X0_reckon_23 ?_
  refine ar_ist_6 26 rfl d_X0_reckon_24 rfl (by intro _ h; cases h) ?_
  refine ar_iconst 27 rfl d_X0_reckon_26 ?_
  refine ar_ist_7 29 rfl d_X0_reckon_27 rfl (by intro _ h; cases h) ?_
  have h9 := loop c.length 0 [] [] 0 t0 σ1 Vu Vu Vu (Nat.le_refl _) (by omega) (by simp) (fun x hx => by simp at hx) hIv1 hD0 hM1 (fun i x hx => by simp at hx) hRc1 hQ
  rw [show (c.length : Int) - (c.length : Int) = 0 by omega] at h9
  exact h9
end RUN
