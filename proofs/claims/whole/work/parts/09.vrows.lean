section VRows
variable {G : GT} {d k n : Nat} {M : MM} {pc : Nat} {ls st : List AV} {σ : Sg} {Q : Option AV → Sg → Prop}
theorem nol_0 {ls : List AV} : nol ls 0 := fun _ h => absurd rfl h
theorem nol_s {ls : List AV} {i : Nat} {v : AV} (h : ls[i]? = some v) (hv : ∀ x, v ≠ Vl x) : nol ls (i + 1) := by
  intro x _ e
  rw [Nat.add_sub_cancel, h] at e
  exact hv x (Option.some.inj e)
theorem ar_ist_0 {v0 : AV} {t : List AV} {x : Int} (q : Nat) (hq : pc + 1 = q) (hd : decode (bc M) pc = .ok (.istore_n 0, 1)) (hlen : (v0 :: t).length = M.2.2.1) 
    (kk : WA G d k n M q (Vi x :: t) st σ Q) : WA G d k n M pc (v0 :: t) (Vi x :: st) σ Q := ar_istore_n (i := 0) q hq hd hlen (by show 0 < _; simp) nol_0 kk
theorem ar_ast_0 {v0 : AV} {t : List AV} {r : Option Nat} (q : Nat) (hq : pc + 1 = q) (hd : decode (bc M) pc = .ok (.astore_n 0, 1)) (hlen : (v0 :: t).length = M.2.2.1) 
    (kk : WA G d k n M q (Vr r :: t) st σ Q) : WA G d k n M pc (v0 :: t) (Vr r :: st) σ Q := ar_astore_n (i := 0) q hq hd hlen (by show 0 < _; simp) nol_0 kk
theorem ar_inc_0 {t : List AV} {x z y : Int} (q : Nat) (hq : pc + 3 = q) (hd : decode (bc M) pc = .ok (.iinc 0 z, 3)) (hlen : (Vi x :: t).length = M.2.2.1)  (hy : x + z = y)
    (kk : WA G d k n M q (Vi y :: t) st σ Q) : WA G d k n M pc (Vi x :: t) st σ Q := by
  subst hy
  exact ar_iinc (i := 0) q hq hd hlen rfl nol_0 kk
theorem ar_ist_1 {v0 v1 : AV} {t : List AV} {x : Int} (q : Nat) (hq : pc + 1 = q) (hd : decode (bc M) pc = .ok (.istore_n 1, 1)) (hlen : (v0 :: v1 :: t).length = M.2.2.1) (hv : ∀ x, v0 ≠ Vl x)
    (kk : WA G d k n M q (v0 :: Vi x :: t) st σ Q) : WA G d k n M pc (v0 :: v1 :: t) (Vi x :: st) σ Q := ar_istore_n (i := 1) q hq hd hlen (by show 1 < _; simp) (nol_s (v := v0) rfl hv) kk
theorem ar_ast_1 {v0 v1 : AV} {t : List AV} {r : Option Nat} (q : Nat) (hq : pc + 1 = q) (hd : decode (bc M) pc = .ok (.astore_n 1, 1)) (hlen : (v0 :: v1 :: t).length = M.2.2.1) (hv : ∀ x, v0 ≠ Vl x)
    (kk : WA G d k n M q (v0 :: Vr r :: t) st σ Q) : WA G d k n M pc (v0 :: v1 :: t) (Vr r :: st) σ Q := ar_astore_n (i := 1) q hq hd hlen (by show 1 < _; simp) (nol_s (v := v0) rfl hv) kk
theorem ar_inc_1 {v0 : AV} {t : List AV} {x z y : Int} (q : Nat) (hq : pc + 3 = q) (hd : decode (bc M) pc = .ok (.iinc 1 z, 3)) (hlen : (v0 :: Vi x :: t).length = M.2.2.1) (hv : ∀ x, v0 ≠ Vl x) (hy : x + z = y)
    (kk : WA G d k n M q (v0 :: Vi y :: t) st σ Q) : WA G d k n M pc (v0 :: Vi x :: t) st σ Q := by
  subst hy
  exact ar_iinc (i := 1) q hq hd hlen rfl (nol_s (v := v0) rfl hv) kk
theorem ar_lst_1 {v0 v1 v2 : AV} {t : List AV} {x : Int} (q : Nat) (hq : pc + 1 = q) (hd : decode (bc M) pc = .ok (.lstore_n 1, 1)) (hlen : (v0 :: v1 :: v2 :: t).length = M.2.2.1) (hv : ∀ x, v0 ≠ Vl x)
    (kk : WA G d k n M q (v0 :: Vl x :: Vu :: t) st σ Q) : WA G d k n M pc (v0 :: v1 :: v2 :: t) (Vl x :: st) σ Q := ar_lstore_n (i := 1) q hq hd hlen (by show 1 + 1 < _; simp) (nol_s (v := v0) rfl hv) kk
theorem ar_ist_2 {v0 v1 v2 : AV} {t : List AV} {x : Int} (q : Nat) (hq : pc + 1 = q) (hd : decode (bc M) pc = .ok (.istore_n 2, 1)) (hlen : (v0 :: v1 :: v2 :: t).length = M.2.2.1) (hv : ∀ x, v1 ≠ Vl x)
    (kk : WA G d k n M q (v0 :: v1 :: Vi x :: t) st σ Q) : WA G d k n M pc (v0 :: v1 :: v2 :: t) (Vi x :: st) σ Q := ar_istore_n (i := 2) q hq hd hlen (by show 2 < _; simp) (nol_s (v := v1) rfl hv) kk
theorem ar_ast_2 {v0 v1 v2 : AV} {t : List AV} {r : Option Nat} (q : Nat) (hq : pc + 1 = q) (hd : decode (bc M) pc = .ok (.astore_n 2, 1)) (hlen : (v0 :: v1 :: v2 :: t).length = M.2.2.1) (hv : ∀ x, v1 ≠ Vl x)
    (kk : WA G d k n M q (v0 :: v1 :: Vr r :: t) st σ Q) : WA G d k n M pc (v0 :: v1 :: v2 :: t) (Vr r :: st) σ Q := ar_astore_n (i := 2) q hq hd hlen (by show 2 < _; simp) (nol_s (v := v1) rfl hv) kk
theorem ar_inc_2 {v0 v1 : AV} {t : List AV} {x z y : Int} (q : Nat) (hq : pc + 3 = q) (hd : decode (bc M) pc = .ok (.iinc 2 z, 3)) (hlen : (v0 :: v1 :: Vi x :: t).length = M.2.2.1) (hv : ∀ x, v1 ≠ Vl x) (hy : x + z = y)
    (kk : WA G d k n M q (v0 :: v1 :: Vi y :: t) st σ Q) : WA G d k n M pc (v0 :: v1 :: Vi x :: t) st σ Q := by
  subst hy
  exact ar_iinc (i := 2) q hq hd hlen rfl (nol_s (v := v1) rfl hv) kk
theorem ar_lst_2 {v0 v1 v2 v3 : AV} {t : List AV} {x : Int} (q : Nat) (hq : pc + 1 = q) (hd : decode (bc M) pc = .ok (.lstore_n 2, 1)) (hlen : (v0 :: v1 :: v2 :: v3 :: t).length = M.2.2.1) (hv : ∀ x, v1 ≠ Vl x)
    (kk : WA G d k n M q (v0 :: v1 :: Vl x :: Vu :: t) st σ Q) : WA G d k n M pc (v0 :: v1 :: v2 :: v3 :: t) (Vl x :: st) σ Q := ar_lstore_n (i := 2) q hq hd hlen (by show 2 + 1 < _; simp) (nol_s (v := v1) rfl hv) kk
theorem ar_ist_3 {v0 v1 v2 v3 : AV} {t : List AV} {x : Int} (q : Nat) (hq : pc + 1 = q) (hd : decode (bc M) pc = .ok (.istore_n 3, 1)) (hlen : (v0 :: v1 :: v2 :: v3 :: t).length = M.2.2.1) (hv : ∀ x, v2 ≠ Vl x)
    (kk : WA G d k n M q (v0 :: v1 :: v2 :: Vi x :: t) st σ Q) : WA G d k n M pc (v0 :: v1 :: v2 :: v3 :: t) (Vi x :: st) σ Q := ar_istore_n (i := 3) q hq hd hlen (by show 3 < _; simp) (nol_s (v := v2) rfl hv) kk
theorem ar_ast_3 {v0 v1 v2 v3 : AV} {t : List AV} {r : Option Nat} (q : Nat) (hq : pc + 1 = q) (hd : decode (bc M) pc = .ok (.astore_n 3, 1)) (hlen : (v0 :: v1 :: v2 :: v3 :: t).length = M.2.2.1) (hv : ∀ x, v2 ≠ Vl x)
    (kk : WA G d k n M q (v0 :: v1 :: v2 :: Vr r :: t) st σ Q) : WA G d k n M pc (v0 :: v1 :: v2 :: v3 :: t) (Vr r :: st) σ Q := ar_astore_n (i := 3) q hq hd hlen (by show 3 < _; simp) (nol_s (v := v2) rfl hv) kk
theorem ar_inc_3 {v0 v1 v2 : AV} {t : List AV} {x z y : Int} (q : Nat) (hq : pc + 3 = q) (hd : decode (bc M) pc = .ok (.iinc 3 z, 3)) (hlen : (v0 :: v1 :: v2 :: Vi x :: t).length = M.2.2.1) (hv : ∀ x, v2 ≠ Vl x) (hy : x + z = y)
    (kk : WA G d k n M q (v0 :: v1 :: v2 :: Vi y :: t) st σ Q) : WA G d k n M pc (v0 :: v1 :: v2 :: Vi x :: t) st σ Q := by
  subst hy
  exact ar_iinc (i := 3) q hq hd hlen rfl (nol_s (v := v2) rfl hv) kk
theorem ar_lst_3 {v0 v1 v2 v3 v4 : AV} {t : List AV} {x : Int} (q : Nat) (hq : pc + 1 = q) (hd : decode (bc M) pc = .ok (.lstore_n 3, 1)) (hlen : (v0 :: v1 :: v2 :: v3 :: v4 :: t).length = M.2.2.1) (hv : ∀ x, v2 ≠ Vl x)
    (kk : WA G d k n M q (v0 :: v1 :: v2 :: Vl x :: Vu :: t) st σ Q) : WA G d k n M pc (v0 :: v1 :: v2 :: v3 :: v4 :: t) (Vl x :: st) σ Q := ar_lstore_n (i := 3) q hq hd hlen (by show 3 + 1 < _; simp) (nol_s (v := v2) rfl hv) kk
theorem ar_ist_4 {v0 v1 v2 v3 v4 : AV} {t : List AV} {x : Int} (q : Nat) (hq : pc + 2 = q) (hd : decode (bc M) pc = .ok (.istore 4, 2)) (hlen : (v0 :: v1 :: v2 :: v3 :: v4 :: t).length = M.2.2.1) (hv : ∀ x, v3 ≠ Vl x)
    (kk : WA G d k n M q (v0 :: v1 :: v2 :: v3 :: Vi x :: t) st σ Q) : WA G d k n M pc (v0 :: v1 :: v2 :: v3 :: v4 :: t) (Vi x :: st) σ Q := ar_istore (i := 4) q hq hd hlen (by show 4 < _; simp) (nol_s (v := v3) rfl hv) kk
theorem ar_ast_4 {v0 v1 v2 v3 v4 : AV} {t : List AV} {r : Option Nat} (q : Nat) (hq : pc + 2 = q) (hd : decode (bc M) pc = .ok (.astore 4, 2)) (hlen : (v0 :: v1 :: v2 :: v3 :: v4 :: t).length = M.2.2.1) (hv : ∀ x, v3 ≠ Vl x)
    (kk : WA G d k n M q (v0 :: v1 :: v2 :: v3 :: Vr r :: t) st σ Q) : WA G d k n M pc (v0 :: v1 :: v2 :: v3 :: v4 :: t) (Vr r :: st) σ Q := ar_astore (i := 4) q hq hd hlen (by show 4 < _; simp) (nol_s (v := v3) rfl hv) kk
theorem ar_inc_4 {v0 v1 v2 v3 : AV} {t : List AV} {x z y : Int} (q : Nat) (hq : pc + 3 = q) (hd : decode (bc M) pc = .ok (.iinc 4 z, 3)) (hlen : (v0 :: v1 :: v2 :: v3 :: Vi x :: t).length = M.2.2.1) (hv : ∀ x, v3 ≠ Vl x) (hy : x + z = y)
    (kk : WA G d k n M q (v0 :: v1 :: v2 :: v3 :: Vi y :: t) st σ Q) : WA G d k n M pc (v0 :: v1 :: v2 :: v3 :: Vi x :: t) st σ Q := by
  subst hy
  exact ar_iinc (i := 4) q hq hd hlen rfl (nol_s (v := v3) rfl hv) kk
theorem ar_lst_4 {v0 v1 v2 v3 v4 v5 : AV} {t : List AV} {x : Int} (q : Nat) (hq : pc + 2 = q) (hd : decode (bc M) pc = .ok (.lstore 4, 2)) (hlen : (v0 :: v1 :: v2 :: v3 :: v4 :: v5 :: t).length = M.2.2.1) (hv : ∀ x, v3 ≠ Vl x)
    (kk : WA G d k n M q (v0 :: v1 :: v2 :: v3 :: Vl x :: Vu :: t) st σ Q) : WA G d k n M pc (v0 :: v1 :: v2 :: v3 :: v4 :: v5 :: t) (Vl x :: st) σ Q := ar_lstore (i := 4) q hq hd hlen (by show 4 + 1 < _; simp) (nol_s (v := v3) rfl hv) kk
theorem ar_ist_5 {v0 v1 v2 v3 v4 v5 : AV} {t : List AV} {x : Int} (q : Nat) (hq : pc + 2 = q) (hd : decode (bc M) pc = .ok (.istore 5, 2)) (hlen : (v0 :: v1 :: v2 :: v3 :: v4 :: v5 :: t).length = M.2.2.1) (hv : ∀ x, v4 ≠ Vl x)
    (kk : WA G d k n M q (v0 :: v1 :: v2 :: v3 :: v4 :: Vi x :: t) st σ Q) : WA G d k n M pc (v0 :: v1 :: v2 :: v3 :: v4 :: v5 :: t) (Vi x :: st) σ Q := ar_istore (i := 5) q hq hd hlen (by show 5 < _; simp) (nol_s (v := v4) rfl hv) kk
theorem ar_ast_5 {v0 v1 v2 v3 v4 v5 : AV} {t : List AV} {r : Option Nat} (q : Nat) (hq : pc + 2 = q) (hd : decode (bc M) pc = .ok (.astore 5, 2)) (hlen : (v0 :: v1 :: v2 :: v3 :: v4 :: v5 :: t).length = M.2.2.1) (hv : ∀ x, v4 ≠ Vl x)
    (kk : WA G d k n M q (v0 :: v1 :: v2 :: v3 :: v4 :: Vr r :: t) st σ Q) : WA G d k n M pc (v0 :: v1 :: v2 :: v3 :: v4 :: v5 :: t) (Vr r :: st) σ Q := ar_astore (i := 5) q hq hd hlen (by show 5 < _; simp) (nol_s (v := v4) rfl hv) kk
theorem ar_inc_5 {v0 v1 v2 v3 v4 : AV} {t : List AV} {x z y : Int} (q : Nat) (hq : pc + 3 = q) (hd : decode (bc M) pc = .ok (.iinc 5 z, 3)) (hlen : (v0 :: v1 :: v2 :: v3 :: v4 :: Vi x :: t).length = M.2.2.1) (hv : ∀ x, v4 ≠ Vl x) (hy : x + z = y)
    (kk : WA G d k n M q (v0 :: v1 :: v2 :: v3 :: v4 :: Vi y :: t) st σ Q) : WA G d k n M pc (v0 :: v1 :: v2 :: v3 :: v4 :: Vi x :: t) st σ Q := by
  subst hy
  exact ar_iinc (i := 5) q hq hd hlen rfl (nol_s (v := v4) rfl hv) kk
theorem ar_lst_5 {v0 v1 v2 v3 v4 v5 v6 : AV} {t : List AV} {x : Int} (q : Nat) (hq : pc + 2 = q) (hd : decode (bc M) pc = .ok (.lstore 5, 2)) (hlen : (v0 :: v1 :: v2 :: v3 :: v4 :: v5 :: v6 :: t).length = M.2.2.1) (hv : ∀ x, v4 ≠ Vl x)
    (kk : WA G d k n M q (v0 :: v1 :: v2 :: v3 :: v4 :: Vl x :: Vu :: t) st σ Q) : WA G d k n M pc (v0 :: v1 :: v2 :: v3 :: v4 :: v5 :: v6 :: t) (Vl x :: st) σ Q := ar_lstore (i := 5) q hq hd hlen (by show 5 + 1 < _; simp) (nol_s (v := v4) rfl hv) kk
theorem ar_ist_6 {v0 v1 v2 v3 v4 v5 v6 : AV} {t : List AV} {x : Int} (q : Nat) (hq : pc + 2 = q) (hd : decode (bc M) pc = .ok (.istore 6, 2)) (hlen : (v0 :: v1 :: v2 :: v3 :: v4 :: v5 :: v6 :: t).length = M.2.2.1) (hv : ∀ x, v5 ≠ Vl x)
    (kk : WA G d k n M q (v0 :: v1 :: v2 :: v3 :: v4 :: v5 :: Vi x :: t) st σ Q) : WA G d k n M pc (v0 :: v1 :: v2 :: v3 :: v4 :: v5 :: v6 :: t) (Vi x :: st) σ Q := ar_istore (i := 6) q hq hd hlen (by show 6 < _; simp) (nol_s (v := v5) rfl hv) kk
theorem ar_ast_6 {v0 v1 v2 v3 v4 v5 v6 : AV} {t : List AV} {r : Option Nat} (q : Nat) (hq : pc + 2 = q) (hd : decode (bc M) pc = .ok (.astore 6, 2)) (hlen : (v0 :: v1 :: v2 :: v3 :: v4 :: v5 :: v6 :: t).length = M.2.2.1) (hv : ∀ x, v5 ≠ Vl x)
    (kk : WA G d k n M q (v0 :: v1 :: v2 :: v3 :: v4 :: v5 :: Vr r :: t) st σ Q) : WA G d k n M pc (v0 :: v1 :: v2 :: v3 :: v4 :: v5 :: v6 :: t) (Vr r :: st) σ Q := ar_astore (i := 6) q hq hd hlen (by show 6 < _; simp) (nol_s (v := v5) rfl hv) kk
theorem ar_inc_6 {v0 v1 v2 v3 v4 v5 : AV} {t : List AV} {x z y : Int} (q : Nat) (hq : pc + 3 = q) (hd : decode (bc M) pc = .ok (.iinc 6 z, 3)) (hlen : (v0 :: v1 :: v2 :: v3 :: v4 :: v5 :: Vi x :: t).length = M.2.2.1) (hv : ∀ x, v5 ≠ Vl x) (hy : x + z = y)
    (kk : WA G d k n M q (v0 :: v1 :: v2 :: v3 :: v4 :: v5 :: Vi y :: t) st σ Q) : WA G d k n M pc (v0 :: v1 :: v2 :: v3 :: v4 :: v5 :: Vi x :: t) st σ Q := by
  subst hy
  exact ar_iinc (i := 6) q hq hd hlen rfl (nol_s (v := v5) rfl hv) kk
theorem ar_lst_6 {v0 v1 v2 v3 v4 v5 v6 v7 : AV} {t : List AV} {x : Int} (q : Nat) (hq : pc + 2 = q) (hd : decode (bc M) pc = .ok (.lstore 6, 2)) (hlen : (v0 :: v1 :: v2 :: v3 :: v4 :: v5 :: v6 :: v7 :: t).length = M.2.2.1) (hv : ∀ x, v5 ≠ Vl x)
    (kk : WA G d k n M q (v0 :: v1 :: v2 :: v3 :: v4 :: v5 :: Vl x :: Vu :: t) st σ Q) : WA G d k n M pc (v0 :: v1 :: v2 :: v3 :: v4 :: v5 :: v6 :: v7 :: t) (Vl x :: st) σ Q := ar_lstore (i := 6) q hq hd hlen (by show 6 + 1 < _; simp) (nol_s (v := v5) rfl hv) kk
theorem ar_ist_7 {v0 v1 v2 v3 v4 v5 v6 v7 : AV} {t : List AV} {x : Int} (q : Nat) (hq : pc + 2 = q) (hd : decode (bc M) pc = .ok (.istore 7, 2)) (hlen : (v0 :: v1 :: v2 :: v3 :: v4 :: v5 :: v6 :: v7 :: t).length = M.2.2.1) (hv : ∀ x, v6 ≠ Vl x)
    (kk : WA G d k n M q (v0 :: v1 :: v2 :: v3 :: v4 :: v5 :: v6 :: Vi x :: t) st σ Q) : WA G d k n M pc (v0 :: v1 :: v2 :: v3 :: v4 :: v5 :: v6 :: v7 :: t) (Vi x :: st) σ Q := ar_istore (i := 7) q hq hd hlen (by show 7 < _; simp) (nol_s (v := v6) rfl hv) kk
theorem ar_ast_7 {v0 v1 v2 v3 v4 v5 v6 v7 : AV} {t : List AV} {r : Option Nat} (q : Nat) (hq : pc + 2 = q) (hd : decode (bc M) pc = .ok (.astore 7, 2)) (hlen : (v0 :: v1 :: v2 :: v3 :: v4 :: v5 :: v6 :: v7 :: t).length = M.2.2.1) (hv : ∀ x, v6 ≠ Vl x)
    (kk : WA G d k n M q (v0 :: v1 :: v2 :: v3 :: v4 :: v5 :: v6 :: Vr r :: t) st σ Q) : WA G d k n M pc (v0 :: v1 :: v2 :: v3 :: v4 :: v5 :: v6 :: v7 :: t) (Vr r :: st) σ Q := ar_astore (i := 7) q hq hd hlen (by show 7 < _; simp) (nol_s (v := v6) rfl hv) kk
theorem ar_inc_7 {v0 v1 v2 v3 v4 v5 v6 : AV} {t : List AV} {x z y : Int} (q : Nat) (hq : pc + 3 = q) (hd : decode (bc M) pc = .ok (.iinc 7 z, 3)) (hlen : (v0 :: v1 :: v2 :: v3 :: v4 :: v5 :: v6 :: Vi x :: t).length = M.2.2.1) (hv : ∀ x, v6 ≠ Vl x) (hy : x + z = y)
    (kk : WA G d k n M q (v0 :: v1 :: v2 :: v3 :: v4 :: v5 :: v6 :: Vi y :: t) st σ Q) : WA G d k n M pc (v0 :: v1 :: v2 :: v3 :: v4 :: v5 :: v6 :: Vi x :: t) st σ Q := by
  subst hy
  exact ar_iinc (i := 7) q hq hd hlen rfl (nol_s (v := v6) rfl hv) kk
theorem ar_lst_7 {v0 v1 v2 v3 v4 v5 v6 v7 v8 : AV} {t : List AV} {x : Int} (q : Nat) (hq : pc + 2 = q) (hd : decode (bc M) pc = .ok (.lstore 7, 2)) (hlen : (v0 :: v1 :: v2 :: v3 :: v4 :: v5 :: v6 :: v7 :: v8 :: t).length = M.2.2.1) (hv : ∀ x, v6 ≠ Vl x)
    (kk : WA G d k n M q (v0 :: v1 :: v2 :: v3 :: v4 :: v5 :: v6 :: Vl x :: Vu :: t) st σ Q) : WA G d k n M pc (v0 :: v1 :: v2 :: v3 :: v4 :: v5 :: v6 :: v7 :: v8 :: t) (Vl x :: st) σ Q := ar_lstore (i := 7) q hq hd hlen (by show 7 + 1 < _; simp) (nol_s (v := v6) rfl hv) kk
theorem ar_ist_8 {v0 v1 v2 v3 v4 v5 v6 v7 v8 : AV} {t : List AV} {x : Int} (q : Nat) (hq : pc + 2 = q) (hd : decode (bc M) pc = .ok (.istore 8, 2)) (hlen : (v0 :: v1 :: v2 :: v3 :: v4 :: v5 :: v6 :: v7 :: v8 :: t).length = M.2.2.1) (hv : ∀ x, v7 ≠ Vl x)
    (kk : WA G d k n M q (v0 :: v1 :: v2 :: v3 :: v4 :: v5 :: v6 :: v7 :: Vi x :: t) st σ Q) : WA G d k n M pc (v0 :: v1 :: v2 :: v3 :: v4 :: v5 :: v6 :: v7 :: v8 :: t) (Vi x :: st) σ Q := ar_istore (i := 8) q hq hd hlen (by show 8 < _; simp) (nol_s (v := v7) rfl hv) kk
theorem ar_ast_8 {v0 v1 v2 v3 v4 v5 v6 v7 v8 : AV} {t : List AV} {r : Option Nat} (q : Nat) (hq : pc + 2 = q) (hd : decode (bc M) pc = .ok (.astore 8, 2)) (hlen : (v0 :: v1 :: v2 :: v3 :: v4 :: v5 :: v6 :: v7 :: v8 :: t).length = M.2.2.1) (hv : ∀ x, v7 ≠ Vl x)
    (kk : WA G d k n M q (v0 :: v1 :: v2 :: v3 :: v4 :: v5 :: v6 :: v7 :: Vr r :: t) st σ Q) : WA G d k n M pc (v0 :: v1 :: v2 :: v3 :: v4 :: v5 :: v6 :: v7 :: v8 :: t) (Vr r :: st) σ Q := ar_astore (i := 8) q hq hd hlen (by show 8 < _; simp) (nol_s (v := v7) rfl hv) kk
theorem ar_inc_8 {v0 v1 v2 v3 v4 v5 v6 v7 : AV} {t : List AV} {x z y : Int} (q : Nat) (hq : pc + 3 = q) (hd : decode (bc M) pc = .ok (.iinc 8 z, 3)) (hlen : (v0 :: v1 :: v2 :: v3 :: v4 :: v5 :: v6 :: v7 :: Vi x :: t).length = M.2.2.1) (hv : ∀ x, v7 ≠ Vl x) (hy : x + z = y)
    (kk : WA G d k n M q (v0 :: v1 :: v2 :: v3 :: v4 :: v5 :: v6 :: v7 :: Vi y :: t) st σ Q) : WA G d k n M pc (v0 :: v1 :: v2 :: v3 :: v4 :: v5 :: v6 :: v7 :: Vi x :: t) st σ Q := by
  subst hy
  exact ar_iinc (i := 8) q hq hd hlen rfl (nol_s (v := v7) rfl hv) kk
theorem ar_lst_8 {v0 v1 v2 v3 v4 v5 v6 v7 v8 v9 : AV} {t : List AV} {x : Int} (q : Nat) (hq : pc + 2 = q) (hd : decode (bc M) pc = .ok (.lstore 8, 2)) (hlen : (v0 :: v1 :: v2 :: v3 :: v4 :: v5 :: v6 :: v7 :: v8 :: v9 :: t).length = M.2.2.1) (hv : ∀ x, v7 ≠ Vl x)
    (kk : WA G d k n M q (v0 :: v1 :: v2 :: v3 :: v4 :: v5 :: v6 :: v7 :: Vl x :: Vu :: t) st σ Q) : WA G d k n M pc (v0 :: v1 :: v2 :: v3 :: v4 :: v5 :: v6 :: v7 :: v8 :: v9 :: t) (Vl x :: st) σ Q := ar_lstore (i := 8) q hq hd hlen (by show 8 + 1 < _; simp) (nol_s (v := v7) rfl hv) kk
theorem ar_ist_9 {v0 v1 v2 v3 v4 v5 v6 v7 v8 v9 : AV} {t : List AV} {x : Int} (q : Nat) (hq : pc + 2 = q) (hd : decode (bc M) pc = .ok (.istore 9, 2)) (hlen : (v0 :: v1 :: v2 :: v3 :: v4 :: v5 :: v6 :: v7 :: v8 :: v9 :: t).length = M.2.2.1) (hv : ∀ x, v8 ≠ Vl x)
    (kk : WA G d k n M q (v0 :: v1 :: v2 :: v3 :: v4 :: v5 :: v6 :: v7 :: v8 :: Vi x :: t) st σ Q) : WA G d k n M pc (v0 :: v1 :: v2 :: v3 :: v4 :: v5 :: v6 :: v7 :: v8 :: v9 :: t) (Vi x :: st) σ Q := ar_istore (i := 9) q hq hd hlen (by show 9 < _; simp) (nol_s (v := v8) rfl hv) kk
theorem ar_ast_9 {v0 v1 v2 v3 v4 v5 v6 v7 v8 v9 : AV} {t : List AV} {r : Option Nat} (q : Nat) (hq : pc + 2 = q) (hd : decode (bc M) pc = .ok (.astore 9, 2)) (hlen : (v0 :: v1 :: v2 :: v3 :: v4 :: v5 :: v6 :: v7 :: v8 :: v9 :: t).length = M.2.2.1) (hv : ∀ x, v8 ≠ Vl x)
    (kk : WA G d k n M q (v0 :: v1 :: v2 :: v3 :: v4 :: v5 :: v6 :: v7 :: v8 :: Vr r :: t) st σ Q) : WA G d k n M pc (v0 :: v1 :: v2 :: v3 :: v4 :: v5 :: v6 :: v7 :: v8 :: v9 :: t) (Vr r :: st) σ Q := ar_astore (i := 9) q hq hd hlen (by show 9 < _; simp) (nol_s (v := v8) rfl hv) kk
theorem ar_inc_9 {v0 v1 v2 v3 v4 v5 v6 v7 v8 : AV} {t : List AV} {x z y : Int} (q : Nat) (hq : pc + 3 = q) (hd : decode (bc M) pc = .ok (.iinc 9 z, 3)) (hlen : (v0 :: v1 :: v2 :: v3 :: v4 :: v5 :: v6 :: v7 :: v8 :: Vi x :: t).length = M.2.2.1) (hv : ∀ x, v8 ≠ Vl x) (hy : x + z = y)
    (kk : WA G d k n M q (v0 :: v1 :: v2 :: v3 :: v4 :: v5 :: v6 :: v7 :: v8 :: Vi y :: t) st σ Q) : WA G d k n M pc (v0 :: v1 :: v2 :: v3 :: v4 :: v5 :: v6 :: v7 :: v8 :: Vi x :: t) st σ Q := by
  subst hy
  exact ar_iinc (i := 9) q hq hd hlen rfl (nol_s (v := v8) rfl hv) kk
theorem ar_lst_9 {v0 v1 v2 v3 v4 v5 v6 v7 v8 v9 v10 : AV} {t : List AV} {x : Int} (q : Nat) (hq : pc + 2 = q) (hd : decode (bc M) pc = .ok (.lstore 9, 2)) (hlen : (v0 :: v1 :: v2 :: v3 :: v4 :: v5 :: v6 :: v7 :: v8 :: v9 :: v10 :: t).length = M.2.2.1) (hv : ∀ x, v8 ≠ Vl x)
    (kk : WA G d k n M q (v0 :: v1 :: v2 :: v3 :: v4 :: v5 :: v6 :: v7 :: v8 :: Vl x :: Vu :: t) st σ Q) : WA G d k n M pc (v0 :: v1 :: v2 :: v3 :: v4 :: v5 :: v6 :: v7 :: v8 :: v9 :: v10 :: t) (Vl x :: st) σ Q := ar_lstore (i := 9) q hq hd hlen (by show 9 + 1 < _; simp) (nol_s (v := v8) rfl hv) kk
theorem ar_ist_10 {v0 v1 v2 v3 v4 v5 v6 v7 v8 v9 v10 : AV} {t : List AV} {x : Int} (q : Nat) (hq : pc + 2 = q) (hd : decode (bc M) pc = .ok (.istore 10, 2)) (hlen : (v0 :: v1 :: v2 :: v3 :: v4 :: v5 :: v6 :: v7 :: v8 :: v9 :: v10 :: t).length = M.2.2.1) (hv : ∀ x, v9 ≠ Vl x)
    (kk : WA G d k n M q (v0 :: v1 :: v2 :: v3 :: v4 :: v5 :: v6 :: v7 :: v8 :: v9 :: Vi x :: t) st σ Q) : WA G d k n M pc (v0 :: v1 :: v2 :: v3 :: v4 :: v5 :: v6 :: v7 :: v8 :: v9 :: v10 :: t) (Vi x :: st) σ Q := ar_istore (i := 10) q hq hd hlen (by show 10 < _; simp) (nol_s (v := v9) rfl hv) kk
theorem ar_ast_10 {v0 v1 v2 v3 v4 v5 v6 v7 v8 v9 v10 : AV} {t : List AV} {r : Option Nat} (q : Nat) (hq : pc + 2 = q) (hd : decode (bc M) pc = .ok (.astore 10, 2)) (hlen : (v0 :: v1 :: v2 :: v3 :: v4 :: v5 :: v6 :: v7 :: v8 :: v9 :: v10 :: t).length = M.2.2.1) (hv : ∀ x, v9 ≠ Vl x)
    (kk : WA G d k n M q (v0 :: v1 :: v2 :: v3 :: v4 :: v5 :: v6 :: v7 :: v8 :: v9 :: Vr r :: t) st σ Q) : WA G d k n M pc (v0 :: v1 :: v2 :: v3 :: v4 :: v5 :: v6 :: v7 :: v8 :: v9 :: v10 :: t) (Vr r :: st) σ Q := ar_astore (i := 10) q hq hd hlen (by show 10 < _; simp) (nol_s (v := v9) rfl hv) kk
theorem ar_inc_10 {v0 v1 v2 v3 v4 v5 v6 v7 v8 v9 : AV} {t : List AV} {x z y : Int} (q : Nat) (hq : pc + 3 = q) (hd : decode (bc M) pc = .ok (.iinc 10 z, 3)) (hlen : (v0 :: v1 :: v2 :: v3 :: v4 :: v5 :: v6 :: v7 :: v8 :: v9 :: Vi x :: t).length = M.2.2.1) (hv : ∀ x, v9 ≠ Vl x) (hy : x + z = y)
    (kk : WA G d k n M q (v0 :: v1 :: v2 :: v3 :: v4 :: v5 :: v6 :: v7 :: v8 :: v9 :: Vi y :: t) st σ Q) : WA G d k n M pc (v0 :: v1 :: v2 :: v3 :: v4 :: v5 :: v6 :: v7 :: v8 :: v9 :: Vi x :: t) st σ Q := by
  subst hy
  exact ar_iinc (i := 10) q hq hd hlen rfl (nol_s (v := v9) rfl hv) kk
theorem ar_lst_10 {v0 v1 v2 v3 v4 v5 v6 v7 v8 v9 v10 v11 : AV} {t : List AV} {x : Int} (q : Nat) (hq : pc + 2 = q) (hd : decode (bc M) pc = .ok (.lstore 10, 2)) (hlen : (v0 :: v1 :: v2 :: v3 :: v4 :: v5 :: v6 :: v7 :: v8 :: v9 :: v10 :: v11 :: t).length = M.2.2.1) (hv : ∀ x, v9 ≠ Vl x)
    (kk : WA G d k n M q (v0 :: v1 :: v2 :: v3 :: v4 :: v5 :: v6 :: v7 :: v8 :: v9 :: Vl x :: Vu :: t) st σ Q) : WA G d k n M pc (v0 :: v1 :: v2 :: v3 :: v4 :: v5 :: v6 :: v7 :: v8 :: v9 :: v10 :: v11 :: t) (Vl x :: st) σ Q := ar_lstore (i := 10) q hq hd hlen (by show 10 + 1 < _; simp) (nol_s (v := v9) rfl hv) kk
theorem ar_ist_11 {v0 v1 v2 v3 v4 v5 v6 v7 v8 v9 v10 v11 : AV} {t : List AV} {x : Int} (q : Nat) (hq : pc + 2 = q) (hd : decode (bc M) pc = .ok (.istore 11, 2)) (hlen : (v0 :: v1 :: v2 :: v3 :: v4 :: v5 :: v6 :: v7 :: v8 :: v9 :: v10 :: v11 :: t).length = M.2.2.1) (hv : ∀ x, v10 ≠ Vl x)
    (kk : WA G d k n M q (v0 :: v1 :: v2 :: v3 :: v4 :: v5 :: v6 :: v7 :: v8 :: v9 :: v10 :: Vi x :: t) st σ Q) : WA G d k n M pc (v0 :: v1 :: v2 :: v3 :: v4 :: v5 :: v6 :: v7 :: v8 :: v9 :: v10 :: v11 :: t) (Vi x :: st) σ Q := ar_istore (i := 11) q hq hd hlen (by show 11 < _; simp) (nol_s (v := v10) rfl hv) kk
theorem ar_ast_11 {v0 v1 v2 v3 v4 v5 v6 v7 v8 v9 v10 v11 : AV} {t : List AV} {r : Option Nat} (q : Nat) (hq : pc + 2 = q) (hd : decode (bc M) pc = .ok (.astore 11, 2)) (hlen : (v0 :: v1 :: v2 :: v3 :: v4 :: v5 :: v6 :: v7 :: v8 :: v9 :: v10 :: v11 :: t).length = M.2.2.1) (hv : ∀ x, v10 ≠ Vl x)
    (kk : WA G d k n M q (v0 :: v1 :: v2 :: v3 :: v4 :: v5 :: v6 :: v7 :: v8 :: v9 :: v10 :: Vr r :: t) st σ Q) : WA G d k n M pc (v0 :: v1 :: v2 :: v3 :: v4 :: v5 :: v6 :: v7 :: v8 :: v9 :: v10 :: v11 :: t) (Vr r :: st) σ Q := ar_astore (i := 11) q hq hd hlen (by show 11 < _; simp) (nol_s (v := v10) rfl hv) kk
theorem ar_inc_11 {v0 v1 v2 v3 v4 v5 v6 v7 v8 v9 v10 : AV} {t : List AV} {x z y : Int} (q : Nat) (hq : pc + 3 = q) (hd : decode (bc M) pc = .ok (.iinc 11 z, 3)) (hlen : (v0 :: v1 :: v2 :: v3 :: v4 :: v5 :: v6 :: v7 :: v8 :: v9 :: v10 :: Vi x :: t).length = M.2.2.1) (hv : ∀ x, v10 ≠ Vl x) (hy : x + z = y)
    (kk : WA G d k n M q (v0 :: v1 :: v2 :: v3 :: v4 :: v5 :: v6 :: v7 :: v8 :: v9 :: v10 :: Vi y :: t) st σ Q) : WA G d k n M pc (v0 :: v1 :: v2 :: v3 :: v4 :: v5 :: v6 :: v7 :: v8 :: v9 :: v10 :: Vi x :: t) st σ Q := by
  subst hy
  exact ar_iinc (i := 11) q hq hd hlen rfl (nol_s (v := v10) rfl hv) kk
theorem ar_lst_11 {v0 v1 v2 v3 v4 v5 v6 v7 v8 v9 v10 v11 v12 : AV} {t : List AV} {x : Int} (q : Nat) (hq : pc + 2 = q) (hd : decode (bc M) pc = .ok (.lstore 11, 2)) (hlen : (v0 :: v1 :: v2 :: v3 :: v4 :: v5 :: v6 :: v7 :: v8 :: v9 :: v10 :: v11 :: v12 :: t).length = M.2.2.1) (hv : ∀ x, v10 ≠ Vl x)
    (kk : WA G d k n M q (v0 :: v1 :: v2 :: v3 :: v4 :: v5 :: v6 :: v7 :: v8 :: v9 :: v10 :: Vl x :: Vu :: t) st σ Q) : WA G d k n M pc (v0 :: v1 :: v2 :: v3 :: v4 :: v5 :: v6 :: v7 :: v8 :: v9 :: v10 :: v11 :: v12 :: t) (Vl x :: st) σ Q := ar_lstore (i := 11) q hq hd hlen (by show 11 + 1 < _; simp) (nol_s (v := v10) rfl hv) kk
theorem ar_ist_12 {v0 v1 v2 v3 v4 v5 v6 v7 v8 v9 v10 v11 v12 : AV} {t : List AV} {x : Int} (q : Nat) (hq : pc + 2 = q) (hd : decode (bc M) pc = .ok (.istore 12, 2)) (hlen : (v0 :: v1 :: v2 :: v3 :: v4 :: v5 :: v6 :: v7 :: v8 :: v9 :: v10 :: v11 :: v12 :: t).length = M.2.2.1) (hv : ∀ x, v11 ≠ Vl x)
    (kk : WA G d k n M q (v0 :: v1 :: v2 :: v3 :: v4 :: v5 :: v6 :: v7 :: v8 :: v9 :: v10 :: v11 :: Vi x :: t) st σ Q) : WA G d k n M pc (v0 :: v1 :: v2 :: v3 :: v4 :: v5 :: v6 :: v7 :: v8 :: v9 :: v10 :: v11 :: v12 :: t) (Vi x :: st) σ Q := ar_istore (i := 12) q hq hd hlen (by show 12 < _; simp) (nol_s (v := v11) rfl hv) kk
theorem ar_ast_12 {v0 v1 v2 v3 v4 v5 v6 v7 v8 v9 v10 v11 v12 : AV} {t : List AV} {r : Option Nat} (q : Nat) (hq : pc + 2 = q) (hd : decode (bc M) pc = .ok (.astore 12, 2)) (hlen : (v0 :: v1 :: v2 :: v3 :: v4 :: v5 :: v6 :: v7 :: v8 :: v9 :: v10 :: v11 :: v12 :: t).length = M.2.2.1) (hv : ∀ x, v11 ≠ Vl x)
    (kk : WA G d k n M q (v0 :: v1 :: v2 :: v3 :: v4 :: v5 :: v6 :: v7 :: v8 :: v9 :: v10 :: v11 :: Vr r :: t) st σ Q) : WA G d k n M pc (v0 :: v1 :: v2 :: v3 :: v4 :: v5 :: v6 :: v7 :: v8 :: v9 :: v10 :: v11 :: v12 :: t) (Vr r :: st) σ Q := ar_astore (i := 12) q hq hd hlen (by show 12 < _; simp) (nol_s (v := v11) rfl hv) kk
theorem ar_inc_12 {v0 v1 v2 v3 v4 v5 v6 v7 v8 v9 v10 v11 : AV} {t : List AV} {x z y : Int} (q : Nat) (hq : pc + 3 = q) (hd : decode (bc M) pc = .ok (.iinc 12 z, 3)) (hlen : (v0 :: v1 :: v2 :: v3 :: v4 :: v5 :: v6 :: v7 :: v8 :: v9 :: v10 :: v11 :: Vi x :: t).length = M.2.2.1) (hv : ∀ x, v11 ≠ Vl x) (hy : x + z = y)
    (kk : WA G d k n M q (v0 :: v1 :: v2 :: v3 :: v4 :: v5 :: v6 :: v7 :: v8 :: v9 :: v10 :: v11 :: Vi y :: t) st σ Q) : WA G d k n M pc (v0 :: v1 :: v2 :: v3 :: v4 :: v5 :: v6 :: v7 :: v8 :: v9 :: v10 :: v11 :: Vi x :: t) st σ Q := by
  subst hy
  exact ar_iinc (i := 12) q hq hd hlen rfl (nol_s (v := v11) rfl hv) kk
theorem ar_lst_12 {v0 v1 v2 v3 v4 v5 v6 v7 v8 v9 v10 v11 v12 v13 : AV} {t : List AV} {x : Int} (q : Nat) (hq : pc + 2 = q) (hd : decode (bc M) pc = .ok (.lstore 12, 2)) (hlen : (v0 :: v1 :: v2 :: v3 :: v4 :: v5 :: v6 :: v7 :: v8 :: v9 :: v10 :: v11 :: v12 :: v13 :: t).length = M.2.2.1) (hv : ∀ x, v11 ≠ Vl x)
    (kk : WA G d k n M q (v0 :: v1 :: v2 :: v3 :: v4 :: v5 :: v6 :: v7 :: v8 :: v9 :: v10 :: v11 :: Vl x :: Vu :: t) st σ Q) : WA G d k n M pc (v0 :: v1 :: v2 :: v3 :: v4 :: v5 :: v6 :: v7 :: v8 :: v9 :: v10 :: v11 :: v12 :: v13 :: t) (Vl x :: st) σ Q := ar_lstore (i := 12) q hq hd hlen (by show 12 + 1 < _; simp) (nol_s (v := v11) rfl hv) kk
theorem ar_getA {idx ci j a b : Nat} (q : Nat) (hq : pc + 3 = q) (hd : decode (bc M) pc = .ok (.getfield idx, 3)) (hf : FLk M.1.cls idx ci j) (ht : fI (cY ci j) = false) (hk : (sk σ a).1 = ci + 1) (hr : hR σ a j = some b)
    (kk : WA G d k n M q ls (Va b :: st) σ Q) : WA G d k n M pc ls (Va a :: st) σ Q := ar_getR q hq hd hf ht hk (by rw [hr]; exact kk)
theorem ar_aalA {a b N kd : Nat} {j : Int} (q : Nat) (hq : pc + 1 = q) (hd : decode (bc M) pc = .ok (.aaload, 1)) (hk : sk σ a = (kd, N)) (hkd : 12 ≤ kd ∧ kd ≤ 15) (hj : 0 ≤ j ∧ j < N ∧ j ≤ 2147483647) (hr : hR σ a j.toNat = some b)
    (kk : WA G d k n M q ls (Va b :: st) σ Q) : WA G d k n M pc ls (Vi j :: Va a :: st) σ Q := ar_aald q hq hd hk hkd hj (by rw [hr]; exact kk)
theorem ar_ilv {a N : Nat} {j y : Int} (q : Nat) (hq : pc + 1 = q) (hd : decode (bc M) pc = .ok (.iaload, 1)) (hk : sk σ a = (10, N)) (hj : 0 ≤ j ∧ j < N ∧ j ≤ 2147483647) (hy : hI σ a j.toNat = y)
    (kk : WA G d k n M q ls (Vi y :: st) σ Q) : WA G d k n M pc ls (Vi j :: Va a :: st) σ Q := ar_iald q hq hd hk hj (by rw [hy]; exact kk)
theorem ar_giv {idx ci j a : Nat} {y : Int} (q : Nat) (hq : pc + 3 = q) (hd : decode (bc M) pc = .ok (.getfield idx, 3)) (hf : FLk M.1.cls idx ci j) (ht : fI (cY ci j) = true) (hk : (sk σ a).1 = ci + 1) (hy : hI σ a j = y)
    (kk : WA G d k n M q ls (Vi y :: st) σ Q) : WA G d k n M pc ls (Va a :: st) σ Q := ar_getI q hq hd hf ht hk (by rw [hy]; exact kk)
theorem ar_iasN {a N : Nat} {j x : Int} (i : Nat) (q : Nat) (hq : pc + 1 = q) (hd : decode (bc M) pc = .ok (.iastore, 1)) (hk : sk σ a = (10, N)) (hi : j = (i : Int)) (hj : i < N ∧ i ≤ 2147483647)
    (kk : WA G d k n M q ls st (wI σ a i x) Q) : WA G d k n M pc ls (Vi x :: Vi j :: Va a :: st) σ Q := by
  subst hi
  exact ar_iast q hq hd hk (by omega) kk
theorem ar_aasN {a N kd v : Nat} {j : Int} (i : Nat) (q : Nat) (hq : pc + 1 = q) (hd : decode (bc M) pc = .ok (.aastore, 1)) (hk : sk σ a = (kd, N)) (hkd : 12 ≤ kd ∧ kd ≤ 14) (hi : j = (i : Int)) (hj : i < N ∧ i ≤ 2147483647) (hv : (sk σ v).1 = kO kd + 1)
    (kk : WA G d k n M q ls st (wR σ a i (some v)) Q) : WA G d k n M pc ls (Va v :: Vi j :: Va a :: st) σ Q := by
  subst hi
  exact ar_aast q hq hd hk hkd (by omega) hv kk
theorem ar_top {x y : Int} (h : x = y) (kk : WA G d k n M pc ls (Vi y :: st) σ Q) : WA G d k n M pc ls (Vi x :: st) σ Q := by rw [h]; exact kk
theorem ar_sig {σ1 : Sg} (h : σ = σ1) (kk : WA G d k n M pc ls st σ1 Q) : WA G d k n M pc ls st σ Q := by rw [h]; exact kk
theorem ar_callV0 {M' : MM} {idx n0 ci b : Nat} {As rest ls' : List AV} (q : Nat) (hq : pc + 3 = q) (hd : decode (bc M) pc = .ok (.invokevirtual idx, 3)) (hl : Cond.methodLink M.1.cls idx M'.1 ∈ gT) (hm : mtV M' n0 ci) (hk : (sk σ b).1 = ci + 1) (hAs : As.length = n0) (hr : rest.length ≤ 4) (hE : prs G 0 ls' = lv_args 0 ((Va b :: As).map (cv G))) (hlen : (lg_sl ((Va b :: As).map (cv G))).length ≤ M'.2.2.1) (hd1 : 1 ≤ d)
    (kk : WA G (d - 1) 0 0 M' 0 ls' [] σ (fun v σ' => WA G d k n M q ls (v.toList ++ rest) σ' Q)) : WA G d k n M pc ls (As.reverse ++ Va b :: rest) σ Q := ar_callV 0 0 k n q hq hd hl hm hk hAs hr hE hlen hd1 (by omega) (by omega) kk
theorem ar_callS0 {M' : MM} {idx n0 : Nat} {As rest ls' : List AV} (q : Nat) (hq : pc + 3 = q) (hd : decode (bc M) pc = .ok (.invokestatic idx, 3)) (hl : Cond.methodLink M.1.cls idx M'.1 ∈ gT) (hm : mtS M' n0) (hAs : As.length = n0) (hr : rest.length ≤ 4) (hE : prs G 0 ls' = lv_args 0 (As.map (cv G))) (hlen : (lg_sl (As.map (cv G))).length ≤ M'.2.2.1) (hd1 : 1 ≤ d)
    (kk : WA G (d - 1) 0 0 M' 0 ls' [] σ (fun v σ' => WA G d k n M q ls (v.toList ++ rest) σ' Q)) : WA G d k n M pc ls (As.reverse ++ rest) σ Q := ar_callS 0 0 k n q hq hd hl hm hAs hr hE hlen hd1 (by omega) (by omega) kk
theorem ar_callSN0 {M' : MM} {idx n0 : Nat} {As rest ls' : List AV} (q : Nat) (hq : pc + 3 = q) (hd : decode (bc M) pc = .ok (.invokestatic idx, 3)) (hl : nlk M.1.cls idx M'.1) (hm : mtS M' n0) (hAs : As.length = n0) (hr : rest.length ≤ 4) (hE : prs G 0 ls' = lv_args 0 (As.map (cv G))) (hlen : (lg_sl (As.map (cv G))).length ≤ M'.2.2.1) (hd1 : 1 ≤ d)
    (kk : WA G (d - 1) 0 0 M' 0 ls' [] σ (fun v σ' => WA G d k n M q ls (v.toList ++ rest) σ' Q)) : WA G d k n M pc ls (As.reverse ++ rest) σ Q := ar_callSN 0 0 k n q hq hd hl hm hAs hr hE hlen hd1 (by omega) (by omega) kk
theorem ar_callI0 {M' : MM} {idx n0 ci b : Nat} {As rest ls' : List AV} (q : Nat) (hq : pc + 3 = q) (hd : decode (bc M) pc = .ok (.invokespecial idx, 3)) (hl : Cond.methodLink M.1.cls idx M'.1 ∈ gT) (hm : mtI M' n0 ci) (hAs : As.length = n0) (hr : rest.length ≤ 4) (hE : prs G 0 ls' = lv_args 0 ((Va b :: As).map (cv G))) (hlen : (lg_sl ((Va b :: As).map (cv G))).length ≤ M'.2.2.1) (hd1 : 1 ≤ d)
    (kk : WA G (d - 1) 0 0 M' 0 ls' [] σ (fun v σ' => WA G d k n M q ls (v.toList ++ rest) σ' Q)) : WA G d k n M pc ls (As.reverse ++ Va b :: rest) σ Q := ar_callI 0 0 k n q hq hd hl hm hAs hr hE hlen hd1 (by omega) (by omega) kk
theorem ar_callIN0 {M' : MM} {idx n0 ci b : Nat} {As rest ls' : List AV} (q : Nat) (hq : pc + 3 = q) (hd : decode (bc M) pc = .ok (.invokespecial idx, 3)) (hl : nlk M.1.cls idx M'.1) (hm : mtI M' n0 ci) (hAs : As.length = n0) (hr : rest.length ≤ 4) (hE : prs G 0 ls' = lv_args 0 ((Va b :: As).map (cv G))) (hlen : (lg_sl ((Va b :: As).map (cv G))).length ≤ M'.2.2.1) (hd1 : 1 ≤ d)
    (kk : WA G (d - 1) 0 0 M' 0 ls' [] σ (fun v σ' => WA G d k n M q ls (v.toList ++ rest) σ' Q)) : WA G d k n M pc ls (As.reverse ++ Va b :: rest) σ Q := ar_callIN 0 0 k n q hq hd hl hm hAs hr hE hlen hd1 (by omega) (by omega) kk
end VRows
