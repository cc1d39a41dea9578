section RECM
variable {G : GT} {d k n : Nat} {σ : Sg} {Q : Option AV → Sg → Prop}
/-- the loaves that have something, as a set -/
def lset (p : Nat → Bool) : Nat → Nat
  | 0 => 0
  | i + 1 => lset p i ||| (if p i = true then 2 ^ i else 0)
theorem lset_lt (p : Nat → Bool) : ∀ i, i ≤ 6 → lset p i < 64
  | 0, _ => by
    show 0 < 64
    decide
  | i + 1, h => by
    have h1 := lset_lt p i (by omega)
    unfold lset
    refine Nat.or_lt_two_pow (n := 6) h1 ?_
    split
    · exact Nat.pow_lt_pow_right (by decide) (by omega)
    · decide
theorem lset_s (p : Nat → Bool) (i : Nat) (hi : i < 6) (h : p i = true) : iOr (lset p i : Int) (iSl 1 (i : Int)) = (lset p (i + 1) : Int) := by
  have h1 := lset_lt p i (by omega)
  have h2 : 2 ^ i < 2 ^ 31 := Nat.pow_lt_pow_right (by decide) (by omega)
  rw [iSl_1 i (by omega), iOr_n (by omega) h2]
  show _ = (((lset p i ||| (if p i = true then 2 ^ i else 0)) : Nat) : Int)
  rw [if_pos h]
theorem lset_n (p : Nat → Bool) (i : Nat) (h : ¬ p i = true) : lset p (i + 1) = lset p i := by
  show lset p i ||| (if p i = true then 2 ^ i else 0) = _
  rw [if_neg h, Nat.or_zero]
theorem cSh_lt {c : Rcpe} (h : ∀ x ∈ c, x.1 = 0 → x.2 < 20 → x.2 < 12) : cSh c < 4096 := by
  induction c with
  | nil => decide
  | cons x t ih =>
    unfold cSh
    refine Nat.or_lt_two_pow (n := 12) ?_ (ih (fun y hy => h y (List.mem_cons_of_mem _ hy)))
    split
    · rename_i hx
      have := h x List.mem_cons_self hx.1 hx.2
      exact Nat.pow_lt_pow_right (by decide) (by omega)
    · decide
theorem sp_X4_loavesWithRecipe {s : Nat} {rc : Nat → Rcpe} (hs : ShS σ s) (hr : RSr σ s rc) (hQ : Q (some (Vi (lset (fun l => decide (rc l ≠ [])) 6 : Int))) σ) : WA G d k n mX4_loavesWithRecipe 0 [Va s, Vu, Vu] [] σ Q := by
  have hk := hs.1
  have hk3 : sk σ (s + 3) = (14, 6) := hs.2.2.2.1
  have hr3 : hR σ s 3 = some (s + 3) := hs.2.2.2.2.2.2.2.2.2.1
  have loop : ∀ r i : Nat, 6 - i = r → i ≤ 6 → WA G d k n mX4_loavesWithRecipe 4 [Va s, Vi (lset (fun l => decide (rc l ≠ [])) i : Int), Vi (i : Int)] [] σ Q := by
    intro r
    induction r using Nat.strongRecOn with
    | ind r ih =>
    intro i hr' hi
    refine ar_iload_n 5 rfl d_X4_loavesWithRecipe_4 rfl ?_
    refine ar_bipush 7 rfl d_X4_loavesWithRecipe_5 rfl ?_
    refine ar_icmp_ge 31 10 rfl rfl d_X4_loavesWithRecipe_7 (by omega) (by omega) (fun g7 => ?_) (fun g7 => ?_)
    · refine ar_iload_n 32 rfl d_X4_loavesWithRecipe_31 rfl ?_
      refine WA.ret (some (Vi _)) ⟨d_X4_loavesWithRecipe_32, rfl, Or.inl rfl⟩ ?_
      rw [show i = 6 by omega]
      exact hQ
    · refine ar_aload_n 11 rfl d_X4_loavesWithRecipe_10 rfl ?_
      refine ar_getA 14 rfl d_X4_loavesWithRecipe_11 fl_X4_20 rfl (by assumption) (by assumption) ?_
      refine ar_iload_n 15 rfl d_X4_loavesWithRecipe_14 rfl ?_
      refine ar_aald 16 rfl d_X4_loavesWithRecipe_15 (by assumption) (by omega) (by omega) ?_
      have hri := hr i (by omega)
      refine ar_ifnull 25 19 rfl rfl d_X4_loavesWithRecipe_16 (fun g16 => ?_) (fun a16 g16 => ?_)
      · have hn0 : rc i = [] := by
          rcases hri with e | ⟨e, r1, _, _, e2, _⟩
          · exact e.1
          · exact absurd (g16.symm.trans e2) (by simp)
        refine ar_inc_2 (y := ((i + 1 : Nat) : Int)) 28 rfl d_X4_loavesWithRecipe_25 rfl (by intro _ h; cases h) (by omega) ?_
        refine ar_goto 4 rfl d_X4_loavesWithRecipe_28 ?_
        have h9 := ih (6 - (i + 1)) (by omega) (i + 1) rfl (by omega)
        rw [lset_n _ i (by simp [hn0])] at h9
        exact h9
      · have hn0 : rc i ≠ [] := by
          rcases hri with e | ⟨e, _⟩
          · exact absurd (g16.symm.trans e.2) (by simp)
          · exact e
        refine ar_iload_n 20 rfl d_X4_loavesWithRecipe_19 rfl ?_
        refine ar_iconst 21 rfl d_X4_loavesWithRecipe_20 ?_
        refine ar_iload_n 22 rfl d_X4_loavesWithRecipe_21 rfl ?_
        refine ar_ishl 23 rfl d_X4_loavesWithRecipe_22 ?_
        refine ar_ior 24 rfl d_X4_loavesWithRecipe_23 ?_
        refine ar_top (lset_s _ i (by omega) (by simp [hn0])) ?_
        refine ar_ist_1 25 rfl d_X4_loavesWithRecipe_24 rfl (by intro _ h; cases h) ?_
        refine ar_inc_2 (y := ((i + 1 : Nat) : Int)) 28 rfl d_X4_loavesWithRecipe_25 rfl (by intro _ h; cases h) (by omega) ?_
        refine ar_goto 4 rfl d_X4_loavesWithRecipe_28 ?_
        exact ih (6 - (i + 1)) (by omega) (i + 1) rfl (by omega)
  refine ar_iconst 1 rfl d_X4_loavesWithRecipe_0 ?_
  refine ar_ist_1 2 rfl d_X4_loavesWithRecipe_1 rfl (by intro _ h; cases h) ?_
  refine ar_iconst 3 rfl d_X4_loavesWithRecipe_2 ?_
  refine ar_ist_2 4 rfl d_X4_loavesWithRecipe_3 rfl (by intro _ h; cases h) ?_
  exact loop 6 0 rfl (by omega)
theorem sp_X4_loavesNaming {s b : Nat} {rc : Nat → Rcpe} (hs : ShS σ s) (hr : RSr σ s rc) (hb : b < 12) (hc : ∀ l x, l < 6 → x ∈ rc l → x.1 = 0 → x.2 < 20 → x.2 < 12) (hdp : 1 ≤ d) (hQ : Q (some (Vi (lset (fun l => (cSh (rc l)).testBit b) 6 : Int))) σ) : WA G d k n mX4_loavesNaming 0 [Va s, Vi (b : Int), Vu, Vu] [] σ Q := by
  have hk := hs.1
  have hk3 : sk σ (s + 3) = (14, 6) := hs.2.2.2.1
  have hr3 : hR σ s 3 = some (s + 3) := hs.2.2.2.2.2.2.2.2.2.1
  have loop : ∀ r i : Nat, 6 - i = r → i ≤ 6 → WA G d k n mX4_loavesNaming 4 [Va s, Vi (b : Int), Vi (lset (fun l => (cSh (rc l)).testBit b) i : Int), Vi (i : Int)] [] σ Q := by
    intro r
    induction r using Nat.strongRecOn with
    | ind r ih =>
    intro i hr' hi
    refine ar_iload_n 5 rfl d_X4_loavesNaming_4 rfl ?_
    refine ar_bipush 7 rfl d_X4_loavesNaming_5 rfl ?_
    refine ar_icmp_ge 48 10 rfl rfl d_X4_loavesNaming_7 (by omega) (by omega) (fun g7 => ?_) (fun g7 => ?_)
    · refine ar_iload_n 49 rfl d_X4_loavesNaming_48 rfl ?_
      refine WA.ret (some (Vi _)) ⟨d_X4_loavesNaming_49, rfl, Or.inl rfl⟩ ?_
      rw [show i = 6 by omega]
      exact hQ
    · refine ar_aload_n 11 rfl d_X4_loavesNaming_10 rfl ?_
      refine ar_getA 14 rfl d_X4_loavesNaming_11 fl_X4_20 rfl (by assumption) (by assumption) ?_
      refine ar_iload_n 15 rfl d_X4_loavesNaming_14 rfl ?_
      refine ar_aald 16 rfl d_X4_loavesNaming_15 (by assumption) (by omega) (by omega) ?_
      have hri := hr i (by omega)
      refine ar_ifnull 42 19 rfl rfl d_X4_loavesNaming_16 (fun g16 => ?_) (fun a16 g16 => ?_)
      · have hn0 : rc i = [] := by
          rcases hri with e | ⟨e, r1, _, _, e2, _⟩
          · exact e.1
          · exact absurd (g16.symm.trans e2) (by simp)
        refine ar_inc_3 (y := ((i + 1 : Nat) : Int)) 45 rfl d_X4_loavesNaming_42 rfl (by intro _ h; cases h) (by omega) ?_
        refine ar_goto 4 rfl d_X4_loavesNaming_45 ?_
        have h9 := ih (6 - (i + 1)) (by omega) (i + 1) rfl (by omega)
        rw [lset_n _ i (by simp [hn0, cSh])] at h9
        exact h9
      · obtain ⟨r1, hr1, hR1⟩ : ∃ r1, hR σ (s + 3) i = some r1 ∧ RRec σ r1 (rc i) := by
          rcases hri with e | ⟨e, r1, _, _, e2, e3⟩
          · exact absurd (g16.symm.trans e.2) (by simp)
          · exact ⟨r1, e2, e3⟩
        have hkr := hR1.1
        have hlt := cSh_lt (c := rc i) (fun x hx => hc i x (by omega) hx)
        refine ar_aload_n 20 rfl d_X4_loavesNaming_19 rfl ?_
        refine ar_getA 23 rfl d_X4_loavesNaming_20 fl_X4_20 rfl (by assumption) (by assumption) ?_
        refine ar_iload_n 24 rfl d_X4_loavesNaming_23 rfl ?_
        refine ar_aalA 25 rfl d_X4_loavesNaming_24 (by assumption) (by omega) (by omega) hr1 ?_
        refine ar_giv (y := ((cSh (rc i) : Nat) : Int)) 28 rfl d_X4_loavesNaming_25 fl_X4_63 rfl (by assumption) hR1.2.2.2.2.2.2.2.1 ?_
        refine ar_iload_n 29 rfl d_X4_loavesNaming_28 rfl ?_
        refine ar_callSN0 (M' := mX5_bitOf) (As := [_, _]) (ls' := [Vi _, Vi _]) 32 rfl d_X4_loavesNaming_29 ml_X4_66 mt_X5_bitOf rfl (Nat.le_of_ble_eq_true rfl) rfl (Nat.le_of_ble_eq_true rfl) (by omega) ?_
        refine sp_X5_bitOf (by omega) (by omega) ?_
        refine ar_iconst 33 rfl d_X4_loavesNaming_32 ?_
        refine ar_icmp_ne 42 36 rfl rfl d_X4_loavesNaming_33 (by first | omega | (split <;> omega)) (by first | omega | (split <;> omega)) (fun g33 => ?_) (fun g33 => ?_)
        · refine ar_inc_3 (y := ((i + 1 : Nat) : Int)) 45 rfl d_X4_loavesNaming_42 rfl (by intro _ h; cases h) (by omega) ?_
          refine ar_goto 4 rfl d_X4_loavesNaming_45 ?_
          have h9 := ih (6 - (i + 1)) (by omega) (i + 1) rfl (by omega)
          rw [lset_n _ i (by
            intro hbit
            have hbit : (cSh (rc i)).testBit b = true := hbit
            rw [hbit] at g33
            simp at g33)] at h9
          exact h9
        · refine ar_iload_n 37 rfl d_X4_loavesNaming_36 rfl ?_
          refine ar_iconst 38 rfl d_X4_loavesNaming_37 ?_
          refine ar_iload_n 39 rfl d_X4_loavesNaming_38 rfl ?_
          refine ar_ishl 40 rfl d_X4_loavesNaming_39 ?_
          refine ar_ior 41 rfl d_X4_loavesNaming_40 ?_
          refine ar_top (lset_s (fun l => (cSh (rc l)).testBit b) i (by omega) (by cases hbit : (cSh (rc i)).testBit b with
            | true => rfl
            | false => (rw [hbit] at g33; simp at g33))) ?_
          refine ar_ist_2 42 rfl d_X4_loavesNaming_41 rfl (by intro _ h; cases h) ?_
          refine ar_inc_3 (y := ((i + 1 : Nat) : Int)) 45 rfl d_X4_loavesNaming_42 rfl (by intro _ h; cases h) (by omega) ?_
          refine ar_goto 4 rfl d_X4_loavesNaming_45 ?_
          exact ih (6 - (i + 1)) (by omega) (i + 1) rfl (by omega)
  refine ar_iconst 1 rfl d_X4_loavesNaming_0 ?_
  refine ar_ist_2 2 rfl d_X4_loavesNaming_1 rfl (by intro _ h; cases h) ?_
  refine ar_iconst 3 rfl d_X4_loavesNaming_2 ?_
  refine ar_ist_3 4 rfl d_X4_loavesNaming_3 rfl (by intro _ h; cases h) ?_
  exact loop 6 0 rfl (by omega)
/-- what the reader has read: the orders, and the counts beside them -/
def RRd (σ : Sg) (c : Rcpe) : Prop := hI σ 156 2 = (c.length : Int) ∧ hI σ 156 3 = cParts c ∧ hI σ 156 4 = ((cSh c : Nat) : Int) ∧ hI σ 156 5 = ((cLo c : Nat) : Int) ∧ ∀ i x, c[i]? = some x → hI σ 157 i = x.1 ∧ hI σ 158 i = x.2
theorem cI_al {σ : Sg} {a m : Nat} (hlt : a < sn σ) : ∀ b, b < sn σ → sk (cI (al σ 10 m) a 0 (sn σ) 0 m) b = sk σ b ∧ hI (cI (al σ 10 m) a 0 (sn σ) 0 m) b = hI σ b ∧ hR (cI (al σ 10 m) a 0 (sn σ) 0 m) b = hR σ b := by
  intro b hb
  refine ⟨?_, ?_, ?_⟩
  · show (if b = sn σ then _ else _) = _
    rw [if_neg (by omega)]
  · funext i
    rw [hI_c, if_neg (by omega)]
    show (if b = sn σ then _ else _) = _
    rw [if_neg (by omega)]
  · funext i
    show (if b = sn σ then _ else _) = _
    rw [if_neg (by omega)]
set_option maxHeartbeats 4000000 in
theorem sp_X3_init {r : Nat} {c : Rcpe} (hk : (sk σ r).1 = 4) (hn : sn σ = r + 1) (hr : 652 ≤ r) (hsh : ShR σ) (hc : RRd σ c) (hcl : c.length < 60) (hk2 : 2 ≤ k) (hn2 : 120 ≤ n) (hdp : 2 ≤ d) (hQ : ∀ σ', RRec σ' r c → sn σ' = r + 3 → FrN r σ σ' → Q none σ') : WA G d k n mX3_init 0 [Va r, Va 156] [] σ Q := by
  obtain ⟨c2, c3, c4, c5, c6⟩ := hc
  obtain ⟨s1, s2, s3, s4, s5, s6, s7, s8, s9⟩ := hsh
  refine ar_aload_n 1 rfl d_X3_init_0 rfl ?_
  refine ar_oinit 4 rfl d_X3_init_1 ml_X3_1 oi_i oi_c (Nat.le_of_ble_eq_true rfl) (by omega) ?_
  refine ar_aload_n 5 rfl d_X3_init_4 rfl ?_
  refine ar_aload_n 6 rfl d_X3_init_5 rfl ?_
  refine ar_giv (y := (c.length : Int)) 9 rfl d_X3_init_6 fl_X3_7 rfl (by assumption) (by assumption) ?_
  refine ar_putIF 12 rfl d_X3_init_9 fl_X3_13 rfl rfl rfl rfl (by assumption) ?_
  refine ar_aload_n 13 rfl d_X3_init_12 rfl ?_
  refine ar_aload_n 14 rfl d_X3_init_13 rfl ?_
  refine ar_getA 17 rfl d_X3_init_14 fl_X3_16 rfl (by assumption) (by assumption) ?_
  refine ar_aload_n 18 rfl d_X3_init_17 rfl ?_
  refine ar_giv (y := (c.length : Int)) 21 rfl d_X3_init_18 fl_X3_13 rfl (by assumption) (by rw [hI_w, if_pos ⟨rfl, rfl⟩]) ?_
  refine ar_callS (M' := mJ7_copyOf_59c91) (As := [_, _]) (ls' := [Vr _, Vi _, Vu]) 1 60 (k - 1) (n - 60) 24 rfl d_X3_init_21 ml_X3_20 mt_J7_copyOf_59c91 rfl (Nat.le_of_ble_eq_true rfl) rfl (Nat.le_of_ble_eq_true rfl) (by omega) (by omega) (by omega) ?_
  refine sp_J7_copyOf_59c91 (m := c.length) (k0 := 0) (n0 := 0) s2 (by omega) hcl (by omega) (by omega) (by omega) (by show 157 < sn σ; omega) ?_
  have g1 := cI_al (σ := wI σ r 2 (c.length : Int)) (a := 157) (m := c.length) (by show 157 < sn σ; omega)
  have gn : sn (wI σ r 2 (c.length : Int)) = r + 1 := hn
  rw [gn] at g1 ⊢
  generalize hσ1 : cI (al (wI σ r 2 (c.length : Int)) 10 c.length) 157 0 (r + 1) 0 c.length = σ1 at g1 ⊢
  have n1 : sn σ1 = r + 2 := by rw [← hσ1]; show sn σ + 1 = _; omega
  have k1 : sk σ1 (r + 1) = (10, c.length) := by
    rw [← hσ1]
    show (if r + 1 = sn σ then (10, c.length) else _) = _
    rw [if_pos (by omega)]
  have v1 : ∀ i x, c[i]? = some x → hI σ1 (r + 1) i = x.1 := by
    intro i x hx
    have hi := (List.getElem?_eq_some_iff.mp hx).1
    rw [← hσ1, hI_c, if_pos (by omega)]
    show (if 157 = sn σ then 0 else hI (wI σ r 2 (c.length : Int)) 157 (0 + (i - 0))) = _
    rw [if_neg (by omega), hI_w, if_neg (by omega), Nat.zero_add, Nat.sub_zero]
    exact (c6 i x hx).1
  have hk1 : (sk σ1 r).1 = 4 := by rw [(g1 r (by omega)).1]; exact hk
  refine ar_putRF 27 rfl d_X3_init_24 fl_X3_26 (Or.inr ⟨_, rfl⟩) rfl rfl rfl hk1 ?_
  refine ar_aload_n 28 rfl d_X3_init_27 rfl ?_
  refine ar_aload_n 29 rfl d_X3_init_28 rfl ?_
  refine ar_getA 32 rfl d_X3_init_29 fl_X3_27 rfl (by rw [sk_wR, (g1 156 (by omega)).1]; exact s1) (by rw [hR_w, if_neg (by omega), (g1 156 (by omega)).2.2]; exact s7) ?_
  refine ar_aload_n 33 rfl d_X3_init_32 rfl ?_
  refine ar_giv (y := (c.length : Int)) 36 rfl d_X3_init_33 fl_X3_13 rfl hk1 (by rw [hIwR, (g1 r (by omega)).2.1, hI_w, if_pos ⟨rfl, rfl⟩]) ?_
  refine ar_callS (M' := mJ7_copyOf_59c91) (As := [_, _]) (ls' := [Vr _, Vi _, Vu]) 1 60 (k - 2) (n - 120) 39 rfl d_X3_init_36 ml_X3_20 mt_J7_copyOf_59c91 rfl (Nat.le_of_ble_eq_true rfl) rfl (Nat.le_of_ble_eq_true rfl) (by omega) (by omega) (by omega) ?_
  refine sp_J7_copyOf_59c91 (m := c.length) (k0 := 0) (n0 := 0) (a := 158) (N := 60) (by rw [sk_wR, (g1 158 (by omega)).1]; exact s3) (by omega) hcl (by omega) (by omega) (by omega) (by show 158 < sn σ1; omega) ?_
  have g2 := cI_al (σ := wR σ1 r 0 (some (r + 1))) (a := 158) (m := c.length) (by show 158 < sn σ1; omega)
  have gn2 : sn (wR σ1 r 0 (some (r + 1))) = r + 2 := n1
  rw [gn2] at g2 ⊢
  generalize hσ2 : cI (al (wR σ1 r 0 (some (r + 1))) 10 c.length) 158 0 (r + 2) 0 c.length = σ2 at g2 ⊢
  have n2 : sn σ2 = r + 3 := by rw [← hσ2]; show sn σ1 + 1 = _; omega
  have k2 : sk σ2 (r + 2) = (10, c.length) := by
    rw [← hσ2]
    show (if r + 2 = sn σ1 then (10, c.length) else _) = _
    rw [if_pos (by omega)]
  have v2 : ∀ i x, c[i]? = some x → hI σ2 (r + 2) i = x.2 := by
    intro i x hx
    have hi := (List.getElem?_eq_some_iff.mp hx).1
    rw [← hσ2, hI_c, if_pos (by omega)]
    show (if 158 = sn σ1 then 0 else hI σ1 158 (0 + (i - 0))) = _
    rw [if_neg (by omega), Nat.zero_add, Nat.sub_zero, (g1 158 (by omega)).2.1, hI_w, if_neg (by omega)]
    exact (c6 i x hx).2
  have hk2' : (sk σ2 r).1 = 4 := by rw [(g2 r (by omega)).1]; exact hk1
  have hall : ∀ b, b < r → sk σ2 b = sk σ b ∧ hI σ2 b = hI σ b ∧ hR σ2 b = hR σ b := by
    intro b hb
    refine ⟨?_, ?_, ?_⟩
    · rw [(g2 b (by omega)).1, sk_wR, (g1 b (by omega)).1]
      rfl
    · rw [(g2 b (by omega)).2.1]
      show hI σ1 b = _
      rw [(g1 b (by omega)).2.1]
      funext i
      rw [hI_w, if_neg (by omega)]
    · rw [(g2 b (by omega)).2.2]
      funext i
      rw [hR_w, if_neg (by omega), (g1 b (by omega)).2.2]
      rfl
  have h156 : (sk σ2 156).1 = 3 := by rw [(hall 156 (by omega)).1]; exact s1
  have i156 := (hall 156 (by omega)).2.1
  refine ar_putRF 42 rfl d_X3_init_39 fl_X3_30 (Or.inr ⟨_, rfl⟩) rfl rfl rfl hk2' ?_
  refine ar_aload_n 43 rfl d_X3_init_42 rfl ?_
  refine ar_aload_n 44 rfl d_X3_init_43 rfl ?_
  refine ar_giv (y := (cParts c)) 47 rfl d_X3_init_44 fl_X3_31 rfl h156 (by rw [hIwR, i156]; exact c3) ?_
  refine ar_putIF 50 rfl d_X3_init_47 fl_X3_34 rfl rfl rfl rfl hk2' ?_
  refine ar_aload_n 51 rfl d_X3_init_50 rfl ?_
  refine ar_aload_n 52 rfl d_X3_init_51 rfl ?_
  refine ar_giv (y := ((cSh c : Nat) : Int)) 55 rfl d_X3_init_52 fl_X3_35 rfl h156 (by rw [hI_w, if_neg (by omega), hIwR, i156]; exact c4) ?_
  refine ar_putIF 58 rfl d_X3_init_55 fl_X3_38 rfl rfl rfl rfl hk2' ?_
  refine ar_aload_n 59 rfl d_X3_init_58 rfl ?_
  refine ar_aload_n 60 rfl d_X3_init_59 rfl ?_
  refine ar_giv (y := ((cLo c : Nat) : Int)) 63 rfl d_X3_init_60 fl_X3_39 rfl h156 (by rw [hI_w, if_neg (by omega), hI_w, if_neg (by omega), hIwR, i156]; exact c5) ?_
  refine ar_putIF 66 rfl d_X3_init_63 fl_X3_42 rfl rfl rfl rfl hk2' ?_
  refine WA.ret none ⟨d_X3_init_66, rfl, rfl⟩ ?_
  refine hQ _ ?_ n2 ?_
  · have e0 : ∀ j, hI σ2 r j = hI (wI σ r 2 (c.length : Int)) r j := fun j => by rw [(g2 r (by omega)).2.1]; show hI σ1 r j = _; rw [(g1 r (by omega)).2.1]
    have e1 : hR σ2 r 0 = some (r + 1) := by rw [(g2 r (by omega)).2.2, hR_w, if_pos ⟨rfl, rfl⟩]
    have e2 : hI σ2 (r + 1) = hI σ1 (r + 1) := by rw [(g2 (r + 1) (by omega)).2.1]; rfl
    refine ⟨hk2', ?_, ?_, ?_, k2, ?_, ?_, ?_, ?_, fun i x hx => ⟨?_, ?_⟩⟩
    · simp only [hRwI, hR_w]
      rw [if_neg (by omega)]
      exact e1
    · simp [hRwI, hR_w]
    · simp only [sk_wI, sk_wR]
      rw [(g2 (r + 1) (by omega)).1]
      exact k1
    · simp only [hI_w, hIwR]
      rw [if_neg (by omega), if_neg (by omega), if_neg (by omega), e0, hI_w, if_pos ⟨rfl, rfl⟩]
    · simp [hI_w, hIwR]
    · simp [hI_w, hIwR]
    · simp [hI_w, hIwR]
    · simp only [hI_w, hIwR]
      rw [if_neg (by omega), if_neg (by omega), if_neg (by omega), e2]
      exact v1 i x hx
    · simp only [hI_w, hIwR]
      rw [if_neg (by omega), if_neg (by omega), if_neg (by omega)]
      exact v2 i x hx
  · exact ((((show FrN r σ σ2 from hall).tr (FrN.wR (by omega))).tr (FrN.wI (by omega))).tr (FrN.wI (by omega))).tr (FrN.wI (by omega))
end RECM
