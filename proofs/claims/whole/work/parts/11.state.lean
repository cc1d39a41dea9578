section MEMC
variable {G : GT} {d k n : Nat} {σ : Sg} {Q : Option AV → Sg → Prop}
set_option maxHeartbeats 4000000 in
theorem sp_X1_copyFrom {m w : Nat} {M : Mem} (hs : ShM σ m) (ho : ShM σ w) (hM : RM σ w M) (hl : (mLk M).length ≤ 18) (hd : m + 3 ≤ w ∨ w + 3 ≤ m) (hdp : 1 ≤ d) (hQ : ∀ σ', FrI m (m + 3) σ σ' → RM σ' m M → Q none σ') : WA G d k n mX1_copyFrom 0 [Va m, Va w] [] σ Q := by
  obtain ⟨hk, hk1, hk2, hr1, hr2⟩ := hs
  obtain ⟨ok, ok1, ok2, or1, or2⟩ := ho
  obtain ⟨m0, m1, m2, m3, m4, m5, m6⟩ := hM
  have n1 : ¬ w = m := by omega
  have n2 : ¬ w + 1 = m := by omega
  have n3 : ¬ w + 2 = m := by omega
  have n4 : ¬ w + 2 = m + 1 := by omega
  have n5 : ¬ w + 1 = m + 1 := by omega
  have n6 : ¬ w = m + 1 := by omega
  have n7 : ¬ m = m + 1 := by omega
  refine ar_aload_n 1 rfl d_X1_copyFrom_0 rfl ?_
  refine ar_aload_n 2 rfl d_X1_copyFrom_1 rfl ?_
  refine ar_getI 5 rfl d_X1_copyFrom_2 fl_X1_18 rfl (by assumption) ?_
  refine ar_putI 8 rfl d_X1_copyFrom_5 fl_X1_18 rfl rfl (by assumption) ?_
  refine ar_aload_n 9 rfl d_X1_copyFrom_8 rfl ?_
  refine ar_aload_n 10 rfl d_X1_copyFrom_9 rfl ?_
  refine ar_getI 13 rfl d_X1_copyFrom_10 fl_X1_22 rfl (by assumption) ?_
  refine ar_putI 16 rfl d_X1_copyFrom_13 fl_X1_22 rfl rfl (by assumption) ?_
  refine ar_aload_n 17 rfl d_X1_copyFrom_16 rfl ?_
  refine ar_aload_n 18 rfl d_X1_copyFrom_17 rfl ?_
  refine ar_getI 21 rfl d_X1_copyFrom_18 fl_X1_25 rfl (by assumption) ?_
  refine ar_putI 24 rfl d_X1_copyFrom_21 fl_X1_25 rfl rfl (by assumption) ?_
  refine ar_aload_n 25 rfl d_X1_copyFrom_24 rfl ?_
  refine ar_aload_n 26 rfl d_X1_copyFrom_25 rfl ?_
  refine ar_getI 29 rfl d_X1_copyFrom_26 fl_X1_28 rfl (by assumption) ?_
  refine ar_putI 32 rfl d_X1_copyFrom_29 fl_X1_28 rfl rfl (by assumption) ?_
  refine ar_aload_n 33 rfl d_X1_copyFrom_32 rfl ?_
  refine ar_aload_n 34 rfl d_X1_copyFrom_33 rfl ?_
  refine ar_getI 37 rfl d_X1_copyFrom_34 fl_X1_31 rfl (by assumption) ?_
  refine ar_putI 40 rfl d_X1_copyFrom_37 fl_X1_31 rfl rfl (by assumption) ?_
  refine ar_aload_n 41 rfl d_X1_copyFrom_40 rfl ?_
  refine ar_aload_n 42 rfl d_X1_copyFrom_41 rfl ?_
  refine ar_getI 45 rfl d_X1_copyFrom_42 fl_X1_34 rfl (by assumption) ?_
  refine ar_putI 48 rfl d_X1_copyFrom_45 fl_X1_34 rfl rfl (by assumption) ?_
  refine ar_aload_n 49 rfl d_X1_copyFrom_48 rfl ?_
  refine ar_getA 52 rfl d_X1_copyFrom_49 fl_X1_9 rfl (by assumption) (by assumption) ?_
  refine ar_iconst 53 rfl d_X1_copyFrom_52 ?_
  refine ar_aload_n 54 rfl d_X1_copyFrom_53 rfl ?_
  refine ar_getA 57 rfl d_X1_copyFrom_54 fl_X1_9 rfl (by assumption) (by assumption) ?_
  refine ar_iconst 58 rfl d_X1_copyFrom_57 ?_
  refine ar_aload_n 59 rfl d_X1_copyFrom_58 rfl ?_
  refine ar_giv (y := ((mLk M).length : Int)) 62 rfl d_X1_copyFrom_59 fl_X1_34 rfl (by assumption) (by simp [hI_w, n1, m5]) ?_
  refine ar_copyI 65 rfl d_X1_copyFrom_62 cp_X1_37 (by assumption) (by assumption) (by omega) (Nat.le_of_ble_eq_true rfl) (by omega) ?_
  refine ar_aload_n 66 rfl d_X1_copyFrom_65 rfl ?_
  refine ar_getA 69 rfl d_X1_copyFrom_66 fl_X1_15 rfl (by assumption) (by assumption) ?_
  refine ar_iconst 70 rfl d_X1_copyFrom_69 ?_
  refine ar_aload_n 71 rfl d_X1_copyFrom_70 rfl ?_
  refine ar_getA 74 rfl d_X1_copyFrom_71 fl_X1_15 rfl (by assumption) (by assumption) ?_
  refine ar_iconst 75 rfl d_X1_copyFrom_74 ?_
  refine ar_aload_n 76 rfl d_X1_copyFrom_75 rfl ?_
  refine ar_giv (y := ((mLk M).length : Int)) 79 rfl d_X1_copyFrom_76 fl_X1_34 rfl (by assumption) (by simp [hI_w, hI_c, n1, m5]) ?_
  refine ar_copyI 82 rfl d_X1_copyFrom_79 cp_X1_37 (by assumption) (by assumption) (by omega) (Nat.le_of_ble_eq_true rfl) (by omega) ?_
  refine WA.ret none ⟨d_X1_copyFrom_82, rfl, rfl⟩ ?_
  refine hQ _ ?_ ?_
  · exact (((((((FrI.w (by omega) (by omega)).tr (FrI.w (by omega) (by omega))).tr (FrI.w (by omega) (by omega))).tr (FrI.w (by omega) (by omega))).tr (FrI.w (by omega) (by omega))).tr (FrI.w (by omega) (by omega))).tr (FrI.c (by omega) (by omega))).tr (FrI.c (by omega) (by omega))
  · refine ⟨?_, ?_, ?_, ?_, ?_, ?_, fun i x h => ?_⟩
    · simp [hI_w, hI_c, n1]; exact m0
    · simp [hI_w, hI_c, n1]; exact m1
    · simp [hI_w, hI_c, n1]; exact m2
    · simp [hI_w, hI_c, n1]; exact m3
    · simp [hI_w, hI_c, n1]; exact m4
    · simp [hI_w, hI_c, n1]; exact m5
    · have hi : i < (mLk M).length := (List.getElem?_eq_some_iff.mp h).1
      have h7 := m6 i x h
      have hi2 : i < M.2.2.2.2.2.length := hi
      refine ⟨?_, ?_⟩
      · simp [hI_w, hI_c, n1, n2, hi2]; exact h7.1
      · simp [hI_w, hI_c, n1, n3, n4, hi2]; exact h7.2
end MEMC
-- ===== a state's fixed parts, its memories =====
def ShS (σ : Sg) (s : Nat) : Prop := (sk σ s).1 = 5 ∧ sk σ (s + 1) = (10, 12) ∧ sk σ (s + 2) = (10, 2) ∧ sk σ (s + 3) = (14, 6) ∧ sk σ (s + 4) = (12, 17) ∧ sk σ (s + 5) = (10, 6) ∧ sk σ (s + 6) = (10, 6) ∧ hR σ s 0 = some (s + 1) ∧ hR σ s 2 = some (s + 2) ∧ hR σ s 3 = some (s + 3) ∧ hR σ s 4 = some (s + 4) ∧ hR σ s 7 = some (s + 5) ∧ hR σ s 8 = some (s + 6) ∧ ∀ p, p < 17 → ShM σ (s + 7 + 3 * p)
def RSm (σ : Sg) (s : Nat) (L : List Mem) : Prop := L.length ≤ 17 ∧ hI σ s 5 = (L.length : Int) ∧ (∀ i, i < 17 → ∃ p, p < 17 ∧ hR σ (s + 4) i = some (s + 7 + 3 * p)) ∧ (∀ i j, i < 17 → j < 17 → hR σ (s + 4) i = hR σ (s + 4) j → i = j) ∧ ∀ i M m, L[i]? = some M → hR σ (s + 4) i = some m → RM σ m M
def FrM (s : Nat) (σ σ' : Sg) : Prop := sk σ' = sk σ ∧ sn σ' = sn σ ∧ (∀ b, b ≠ s + 4 → hR σ' b = hR σ b) ∧ (∀ b, (b < s ∨ s + 58 ≤ b ∨ (s < b ∧ b < s + 7)) → hI σ' b = hI σ b) ∧ ∀ j, j ≠ 5 → hI σ' s j = hI σ s j
theorem FrM.rf {s : Nat} {σ : Sg} : FrM s σ σ := ⟨rfl, rfl, fun _ _ => rfl, fun _ _ => rfl, fun _ _ => rfl⟩
theorem FrM.tr {s : Nat} {σ σ1 σ2 : Sg} (h : FrM s σ σ1) (h2 : FrM s σ1 σ2) : FrM s σ σ2 := ⟨h2.1.trans h.1, h2.2.1.trans h.2.1, fun b hb => (h2.2.2.1 b hb).trans (h.2.2.1 b hb), fun b hb => (h2.2.2.2.1 b hb).trans (h.2.2.2.1 b hb), fun j hj => (h2.2.2.2.2 j hj).trans (h.2.2.2.2 j hj)⟩
theorem FrM.w {s : Nat} {σ : Sg} {a j : Nat} {x : Int} (h : (a = s ∧ j = 5) ∨ (s + 7 ≤ a ∧ a < s + 58)) : FrM s σ (wI σ a j x) := ⟨rfl, rfl, fun _ _ => rfl, fun b hb => by
  funext i
  rw [hI_w, if_neg (by omega)], fun i hi => by rw [hI_w, if_neg (by omega)]⟩
theorem FrM.r {s : Nat} {σ : Sg} {j : Nat} {x : Option Nat} : FrM s σ (wR σ (s + 4) j x) := ⟨rfl, rfl, fun b hb => by
  funext i
  rw [hR_w, if_neg (by omega)], fun _ _ => rfl, fun _ _ => rfl⟩
theorem FrM.i {s lo hi : Nat} {σ σ' : Sg} (h : FrI lo hi σ σ') (h1 : s + 7 ≤ lo) (h2 : hi ≤ s + 58) : FrM s σ σ' := by
  obtain ⟨e, f⟩ := h
  refine ⟨?_, ?_, fun b _ => ?_, fun b hb => f b (by omega), fun j _ => by rw [f s (by omega)]⟩
  · show σ'.2.2.1 = _
    rw [e]
  · show σ'.2.2.2 = _
    rw [e]
  · show σ'.2.1 b = _
    rw [e]
theorem ShM.frm {σ σ' : Sg} {s m : Nat} (h : ShM σ m) (hf : FrM s σ σ') (hm : m ≠ s + 4) : ShM σ' m := by
  unfold ShM at h ⊢
  rw [hf.1, hf.2.2.1 m hm]
  exact h
theorem ShS.frm {σ σ' : Sg} {s : Nat} (h : ShS σ s) (hf : FrM s σ σ') : ShS σ' s := by
  obtain ⟨h1, h2, h3, h4, h5, h6, h7, h8, h9, h10, h11, h12, h13, h14⟩ := h
  have e := hf.2.2.1 s (by omega)
  refine ⟨?_, ?_, ?_, ?_, ?_, ?_, ?_, ?_, ?_, ?_, ?_, ?_, ?_, fun p hp => (h14 p hp).frm hf (by omega)⟩ <;> first | (rw [hf.1]; assumption) | (rw [e]; assumption)
theorem RSm.at {σ : Sg} {s i : Nat} {L : List Mem} (h : RSm σ s L) (hs : ShS σ s) (hi : i < 17) : ∃ m, hR σ (s + 4) i = some m ∧ ShM σ m ∧ s + 7 ≤ m ∧ m + 3 ≤ s + 58 := by
  obtain ⟨p, hp, e⟩ := h.2.2.1 i hi
  exact ⟨_, e, hs.2.2.2.2.2.2.2.2.2.2.2.2.2 p hp, by omega, by omega⟩
theorem RSm.sep {σ : Sg} {s i j m m' : Nat} {L : List Mem} (h : RSm σ s L) (hi : i < 17) (hj : j < 17) (e : hR σ (s + 4) i = some m) (e' : hR σ (s + 4) j = some m') (hn : i ≠ j) : m + 3 ≤ m' ∨ m' + 3 ≤ m := by
  obtain ⟨p, hp, f⟩ := h.2.2.1 i hi
  obtain ⟨p', hp', f'⟩ := h.2.2.1 j hj
  have hne : m ≠ m' := by
    intro q
    exact hn (h.2.2.2.1 i j hi hj (by rw [e, e', q]))
  rw [e] at f
  rw [e'] at f'
  cases f
  cases f'
  omega
theorem RSm.perm {σ σ' : Sg} {s : Nat} {L L' : List Mem} (τ : Nat → Nat) (h : RSm σ s L) (hτ : ∀ i, i < 17 → τ i < 17) (hinj : ∀ i j, i < 17 → j < 17 → τ i = τ j → i = j) (hρ : ∀ i, i < 17 → hR σ' (s + 4) i = hR σ (s + 4) (τ i)) (hlen : L'.length ≤ 17) (h5 : hI σ' s 5 = (L'.length : Int)) (hM : ∀ i M m, L'[i]? = some M → hR σ (s + 4) (τ i) = some m → RM σ' m M) : RSm σ' s L' := by
  refine ⟨hlen, h5, fun i hi => ?_, fun i j hi hj e => ?_, fun i M m h1 h2 => ?_⟩
  · rw [hρ i hi]
    exact h.2.2.1 _ (hτ i hi)
  · rw [hρ i hi, hρ j hj] at e
    exact hinj i j hi hj (h.2.2.2.1 _ _ (hτ i hi) (hτ j hj) e)
  · have hi : i < 17 := by
      have := (List.getElem?_eq_some_iff.mp h1).1
      omega
    rw [hρ i hi] at h2
    exact hM i M m h1 h2
def τU (p i : Nat) : Nat := if i = 0 then p else if i ≤ p then i - 1 else i
def τD (p c i : Nat) : Nat := if i < p then i else if i < c then i + 1 else if i = c then p else i
def mUse (M : Mem) : Mem := (mLoaf M, mRes M, mSteps M, mUses M + 1, mSer M, mLk M)
def useL (L : List Mem) (p : Nat) : List Mem := match L[p]? with
  | some M => mUse M :: L.eraseIdx p
  | none => L
/-- places i+1 to p of a row of references have what the place below had -/
def shU (σ : Sg) (a p i : Nat) : Sg := (σ.1, fun b j => if b = a ∧ i < j ∧ j ≤ p then σ.2.1 a (j - 1) else σ.2.1 b j, σ.2.2)
theorem shU_0 (σ : Sg) (a p : Nat) : shU σ a p p = σ := by
  unfold shU
  refine Prod.ext rfl (Prod.ext ?_ rfl)
  funext b j
  exact if_neg (by omega)
theorem shU_s {σ : Sg} {a p i : Nat} {r : Option Nat} (hi : i + 1 ≤ p) (hr : hR σ a i = r) : wR (shU σ a p (i + 1)) a (i + 1) r = shU σ a p i := by
  subst hr
  unfold shU wR
  refine Prod.ext rfl (Prod.ext ?_ rfl)
  funext b j
  show (if b = a ∧ j = i + 1 then _ else if b = a ∧ i + 1 < j ∧ j ≤ p then σ.2.1 a (j - 1) else σ.2.1 b j) = (if b = a ∧ i < j ∧ j ≤ p then σ.2.1 a (j - 1) else σ.2.1 b j)
  by_cases e : b = a ∧ j = i + 1
  · obtain ⟨rfl, rfl⟩ := e
    rw [if_pos ⟨rfl, rfl⟩, if_pos (by omega)]
    try rfl
  · rw [if_neg e]
    by_cases e2 : b = a ∧ i < j ∧ j ≤ p
    · rw [if_pos e2, if_pos (by omega)]
    · rw [if_neg e2, if_neg (by omega)]
/-- places p to i-1 have what the place above had -/
def shD (σ : Sg) (a p i : Nat) : Sg := (σ.1, fun b j => if b = a ∧ p ≤ j ∧ j < i then σ.2.1 a (j + 1) else σ.2.1 b j, σ.2.2)
theorem shD_0 (σ : Sg) (a p : Nat) : shD σ a p p = σ := by
  unfold shD
  refine Prod.ext rfl (Prod.ext ?_ rfl)
  funext b j
  exact if_neg (by omega)
theorem shD_s {σ : Sg} {a p i : Nat} {r : Option Nat} (hi : p ≤ i) (hr : hR σ a (i + 1) = r) : wR (shD σ a p i) a i r = shD σ a p (i + 1) := by
  subst hr
  unfold shD wR
  refine Prod.ext rfl (Prod.ext ?_ rfl)
  funext b j
  show (if b = a ∧ j = i then _ else if b = a ∧ p ≤ j ∧ j < i then σ.2.1 a (j + 1) else σ.2.1 b j) = (if b = a ∧ p ≤ j ∧ j < i + 1 then σ.2.1 a (j + 1) else σ.2.1 b j)
  by_cases e : b = a ∧ j = i
  · obtain ⟨rfl, rfl⟩ := e
    rw [if_pos ⟨rfl, rfl⟩, if_pos (by omega)]
    try rfl
  · rw [if_neg e]
    by_cases e2 : b = a ∧ p ≤ j ∧ j < i + 1
    · rw [if_pos e2, if_pos (by omega)]
    · rw [if_neg e2, if_neg (by omega)]
theorem hR_U (σ : Sg) (a p i b j : Nat) : hR (shU σ a p i) b j = if b = a ∧ i < j ∧ j ≤ p then hR σ a (j - 1) else hR σ b j := rfl
theorem hR_D (σ : Sg) (a p i b j : Nat) : hR (shD σ a p i) b j = if b = a ∧ p ≤ j ∧ j < i then hR σ a (j + 1) else hR σ b j := rfl
theorem FrM.U {s : Nat} {σ : Sg} {p i : Nat} : FrM s σ (shU σ (s + 4) p i) := ⟨rfl, rfl, fun b hb => by
  funext j
  rw [hR_U, if_neg (by omega)], fun _ _ => rfl, fun _ _ => rfl⟩
theorem FrM.D {s : Nat} {σ : Sg} {p i : Nat} : FrM s σ (shD σ (s + 4) p i) := ⟨rfl, rfl, fun b hb => by
  funext j
  rw [hR_D, if_neg (by omega)], fun _ _ => rfl, fun _ _ => rfl⟩
section STM
variable {G : GT} {d k n : Nat} {σ : Sg} {Q : Option AV → Sg → Prop}
set_option maxHeartbeats 4000000 in
theorem sp_X4_use {s p : Nat} {L : List Mem} (hs : ShS σ s) (hL : RSm σ s L) (hp : p < L.length) (hQ : ∀ σ', FrM s σ σ' → RSm σ' s (useL L p) → (∀ i, i < 17 → hR σ' (s + 4) i = hR σ (s + 4) (τU p i)) → (∀ m, hI σ' m 4 = hI σ m 4) → Q none σ') : WA G d k n mX4_use 0 [Va s, Vi (p : Int), Vu, Vu] [] σ Q := by
  have hl17 := hL.1
  obtain ⟨mP, hmP, hshP, hlo, hhi⟩ := hL.at hs (i := p) (by omega)
  have hkP := hshP.1
  have hMp : L[p]? = some L[p] := List.getElem?_eq_getElem hp
  have hRMp := hL.2.2.2.2 p _ mP hMp hmP
  have hk := hs.1
  have hk4 : sk σ (s + 4) = (12, 17) := hs.2.2.2.2.1
  have hr4 : hR σ s 4 = some (s + 4) := hs.2.2.2.2.2.2.2.2.2.2.1
  have h5 := hL.2.1
  have loop : ∀ i : Nat, i ≤ p → WA G d k n mX4_use 22 [Va s, Vi (p : Int), Va mP, Vi (i : Int)] [] (shU σ (s + 4) p i) Q := by
    intro i
    induction i with
    | zero =>
      intro _
      refine ar_iload_n 23 rfl d_X4_use_22 rfl ?_
      refine ar_if_le 46 26 rfl rfl d_X4_use_23 (by omega) (fun g23 => ?_) (fun h => by omega)
      refine ar_aload_n 47 rfl d_X4_use_46 rfl ?_
      refine ar_getA 50 rfl d_X4_use_47 fl_X4_26 rfl (by assumption) (by rw [hR_U, if_neg (by omega)]; exact hr4) ?_
      refine ar_iconst 51 rfl d_X4_use_50 ?_
      refine ar_aload_n 52 rfl d_X4_use_51 rfl ?_
      refine ar_aasN (kd := 12) 0 53 rfl d_X4_use_52 (by assumption) (by omega) (by omega) (by omega) (by assumption) ?_
      refine ar_aload_n 54 rfl d_X4_use_53 rfl ?_
      refine ar_dup 55 rfl d_X4_use_54 (fun _ => rfl) ?_
      refine ar_giv (y := (mUses L[p])) 58 rfl d_X4_use_55 fl_X4_76 rfl (by assumption) hRMp.2.2.2.1 ?_
      refine ar_iconst 59 rfl d_X4_use_58 ?_
      refine ar_iadd 60 rfl d_X4_use_59 ?_
      refine ar_putI 63 rfl d_X4_use_60 fl_X4_76 rfl rfl (by assumption) ?_
      refine WA.ret none ⟨d_X4_use_63, rfl, rfl⟩ ?_
      have hρ : ∀ i, i < 17 → hR (wR (shU σ (s + 4) p 0) (s + 4) 0 (some mP)) (s + 4) i = hR σ (s + 4) (τU p i) := by
        intro i hi
        unfold τU
        rw [hR_w]
        by_cases e : i = 0
        · rw [if_pos ⟨rfl, e⟩, if_pos e, hmP]
        · rw [if_neg (by omega), if_neg e, hR_U]
          by_cases e2 : i ≤ p
          · rw [if_pos (by omega), if_pos e2]
          · rw [if_neg (by omega), if_neg e2]
      refine hQ _ ?_ ?_ hρ (fun m => by rw [hI_w, if_neg (by omega)]; rfl)
      · exact (FrM.U.tr FrM.r).tr (FrM.w (by omega))
      · refine RSm.perm (fun i => if i = 0 then p else if i ≤ p then i - 1 else i) hL (fun i hi => ?_) (fun i j hi hj e => ?_) (fun i hi => ?_) ?_ ?_ (fun i M m h1 h2 => ?_)
        · show (if i = 0 then p else if i ≤ p then i - 1 else i) < 17
          split
          · omega
          · split <;> omega
        · have e : (if i = 0 then p else if i ≤ p then i - 1 else i) = (if j = 0 then p else if j ≤ p then j - 1 else j) := e
          (repeat' split at e) <;> omega
        · exact hρ i hi
        · unfold useL
          rw [hMp]
          simp only [List.length_cons, List.length_eraseIdx_of_lt hp]
          omega
        · unfold useL
          rw [hMp, hI_w, if_neg (by omega)]
          have : (mUse L[p] :: L.eraseIdx p).length = L.length := by
            simp only [List.length_cons, List.length_eraseIdx_of_lt hp]
            omega
          rw [this]
          exact h5
        · unfold useL at h1
          rw [hMp] at h1
          have h2 : hR σ (s + 4) (if i = 0 then p else if i ≤ p then i - 1 else i) = some m := h2
          have hfr : FrI mP (mP + 3) (wR (shU σ (s + 4) p 0) (s + 4) 0 (some mP)) (wI (wR (shU σ (s + 4) p 0) (s + 4) 0 (some mP)) mP 3 (mUses L[p] + 1)) := FrI.w (by omega) (by omega)
          have other : ∀ j, j < 17 → j ≠ p → ∀ M', L[j]? = some M' → hR σ (s + 4) j = some m → RM (wI (wR (shU σ (s + 4) p 0) (s + 4) 0 (some mP)) mP 3 (mUses L[p] + 1)) m M' := by
            intro j hj hjp M' hM' hm
            have hsep := hL.sep hj (by omega) hm hmP hjp
            exact RM.fr (σ := wR (shU σ (s + 4) p 0) (s + 4) 0 (some mP)) (hL.2.2.2.2 j M' m hM' hm) hfr (by omega)
          cases i with
          | zero =>
            rw [if_pos rfl, hmP] at h2
            cases h2
            simp only [List.getElem?_cons_zero] at h1
            cases h1
            obtain ⟨m0, m1, m2, m3, m4, m5, m6⟩ := hRMp
            refine ⟨?_, ?_, ?_, ?_, ?_, ?_, fun j x hx => ?_⟩
            · rw [hI_w, if_neg (by omega)]
              exact m0
            · rw [hI_w, if_neg (by omega)]
              exact m1
            · rw [hI_w, if_neg (by omega)]
              exact m2
            · simp [hI_w, mUse]
            · rw [hI_w, if_neg (by omega)]
              exact m4
            · rw [hI_w, if_neg (by omega)]
              exact m5
            · have := m6 j x hx
              refine ⟨?_, ?_⟩
              · rw [hI_w, if_neg (by omega)]
                exact this.1
              · rw [hI_w, if_neg (by omega)]
                exact this.2
          | succ i =>
            rw [if_neg (by omega)] at h2
            rw [List.getElem?_cons_succ, List.getElem?_eraseIdx] at h1
            by_cases e2 : i + 1 ≤ p
            · rw [if_pos e2, Nat.add_sub_cancel] at h2
              rw [if_pos (by omega)] at h1
              exact other i (by omega) (by omega) M h1 h2
            · rw [if_neg e2] at h2
              rw [if_neg (by omega)] at h1
              have := (List.getElem?_eq_some_iff.mp h1).1
              exact other (i + 1) (by omega) (by omega) M h1 h2
    | succ i ih =>
      intro hi
      obtain ⟨m1, hm1, hsh1, -, -⟩ := hL.at hs (i := i) (by omega)
      have hk1 := hsh1.1
      refine ar_iload_n 23 rfl d_X4_use_22 rfl ?_
      refine ar_if_le 46 26 rfl rfl d_X4_use_23 (by omega) (fun h => by omega) (fun g23 => ?_)
      refine ar_aload_n 27 rfl d_X4_use_26 rfl ?_
      refine ar_getA 30 rfl d_X4_use_27 fl_X4_26 rfl (by assumption) (by rw [hR_U, if_neg (by omega)]; exact hr4) ?_
      refine ar_iload_n 31 rfl d_X4_use_30 rfl ?_
      refine ar_aload_n 32 rfl d_X4_use_31 rfl ?_
      refine ar_getA 35 rfl d_X4_use_32 fl_X4_26 rfl (by assumption) (by rw [hR_U, if_neg (by omega)]; exact hr4) ?_
      refine ar_iload_n 36 rfl d_X4_use_35 rfl ?_
      refine ar_iconst 37 rfl d_X4_use_36 ?_
      refine ar_isub 38 rfl d_X4_use_37 ?_
      refine ar_top (y := (i : Int)) (by omega) ?_
      refine ar_aalA 39 rfl d_X4_use_38 (by assumption) (by omega) (by omega) (by rw [hR_U, if_neg (by omega)]; exact hm1) ?_
      refine ar_aasN (kd := 12) (i + 1) 40 rfl d_X4_use_39 (by assumption) (by omega) (by omega) (by omega) hk1 ?_
      refine ar_inc_3 (y := (i : Int)) 43 rfl d_X4_use_40 rfl (by intro _ h; cases h) (by omega) ?_
      refine ar_goto 22 rfl d_X4_use_43 ?_
      refine ar_sig (shU_s (by omega) hm1) ?_
      exact ih (by omega)
  refine ar_iload_n 1 rfl d_X4_use_0 rfl ?_
  refine ar_if_lt 12 4 rfl rfl d_X4_use_1 (by omega) (fun h => by omega) (fun g1 => ?_)
  refine ar_iload_n 5 rfl d_X4_use_4 rfl ?_
  refine ar_aload_n 6 rfl d_X4_use_5 rfl ?_
  refine ar_giv (y := (L.length : Int)) 9 rfl d_X4_use_6 fl_X4_47 rfl (by assumption) (by assumption) ?_
  refine ar_icmp_lt 13 12 rfl rfl d_X4_use_9 (by omega) (by omega) (fun g9 => ?_) (fun h => by omega)
  refine ar_aload_n 14 rfl d_X4_use_13 rfl ?_
  refine ar_getA 17 rfl d_X4_use_14 fl_X4_26 rfl (by assumption) (by assumption) ?_
  refine ar_iload_n 18 rfl d_X4_use_17 rfl ?_
  refine ar_aalA 19 rfl d_X4_use_18 (by assumption) (by omega) (by omega) (by assumption) ?_
  refine ar_ast_2 20 rfl d_X4_use_19 rfl (by intro _ h; cases h) ?_
  refine ar_iload_n 21 rfl d_X4_use_20 rfl ?_
  refine ar_ist_3 22 rfl d_X4_use_21 rfl (by intro _ h; cases h) ?_
  have h9 := loop p (Nat.le_refl _)
  rw [shU_0] at h9
  exact h9
set_option maxHeartbeats 4000000 in
theorem sp_X4_drop {s p : Nat} {L : List Mem} (hs : ShS σ s) (hL : RSm σ s L) (hp : p < L.length) (hQ : ∀ σ', FrM s σ σ' → RSm σ' s (L.eraseIdx p) → (∀ i, i < 17 → hR σ' (s + 4) i = hR σ (s + 4) (τD p (L.length - 1) i)) → (∀ mP, hR σ (s + 4) p = some mP → hI σ' mP 4 = 0 ∧ ∀ m, m ≠ mP → hI σ' m 4 = hI σ m 4) → Q none σ') : WA G d k n mX4_drop 0 [Va s, Vi (p : Int), Vu, Vu] [] σ Q := by
  have hl17 := hL.1
  obtain ⟨mP, hmP, hshP, hlo, hhi⟩ := hL.at hs (i := p) (by omega)
  have hkP := hshP.1
  have hk := hs.1
  have hk4 : sk σ (s + 4) = (12, 17) := hs.2.2.2.2.1
  have hr4 : hR σ s 4 = some (s + 4) := hs.2.2.2.2.2.2.2.2.2.2.1
  have h5 := hL.2.1
  obtain ⟨c, hc⟩ : ∃ c, L.length = c + 1 := ⟨L.length - 1, by omega⟩
  have hlen : (L.eraseIdx p).length = c := by rw [List.length_eraseIdx_of_lt hp]; omega
  have loop : ∀ r i : Nat, c - i = r → p ≤ i → i ≤ c → WA G d k n mX4_drop 32 [Va s, Vi (p : Int), Va mP, Vi (i : Int)] [] (shD (wI σ s 5 (c : Int)) (s + 4) p i) Q := by
    intro r
    induction r using Nat.strongRecOn with
    | ind r ih =>
    intro i hr hpi hic
    have hc5 : ∀ j, hI (shD (wI σ s 5 (c : Int)) (s + 4) p j) s 5 = (c : Int) := fun j => by
      show hI (wI σ s 5 (c : Int)) s 5 = _
      rw [hI_w, if_pos ⟨rfl, rfl⟩]
    have hr44 : ∀ j, hR (shD (wI σ s 5 (c : Int)) (s + 4) p j) s 4 = some (s + 4) := fun j => by rw [hR_D, if_neg (by omega)]; exact hr4
    refine ar_iload_n 33 rfl d_X4_drop_32 rfl ?_
    refine ar_aload_n 34 rfl d_X4_drop_33 rfl ?_
    refine ar_giv (y := (c : Int)) 37 rfl d_X4_drop_34 fl_X4_47 rfl (by assumption) (hc5 _) ?_
    refine ar_icmp_ge 60 40 rfl rfl d_X4_drop_37 (by omega) (by omega) (fun g37 => ?_) (fun g37 => ?_)
    · refine ar_aload_n 61 rfl d_X4_drop_60 rfl ?_
      have hic : i = c := by omega
      subst hic
      refine ar_getA 64 rfl d_X4_drop_61 fl_X4_26 rfl (by assumption) (hr44 _) ?_
      refine ar_aload_n 65 rfl d_X4_drop_64 rfl ?_
      refine ar_giv (y := (i : Int)) 68 rfl d_X4_drop_65 fl_X4_47 rfl (by assumption) (hc5 _) ?_
      refine ar_aload_n 69 rfl d_X4_drop_68 rfl ?_
      refine ar_aasN (kd := 12) i 70 rfl d_X4_drop_69 (by assumption) (by omega) (by omega) (by omega) (by assumption) ?_
      refine ar_aload_n 71 rfl d_X4_drop_70 rfl ?_
      refine ar_iconst 72 rfl d_X4_drop_71 ?_
      refine ar_putI 75 rfl d_X4_drop_72 fl_X4_73 rfl rfl (by assumption) ?_
      refine WA.ret none ⟨d_X4_drop_75, rfl, rfl⟩ ?_
      have hρ : ∀ j, j < 17 → hR (wR (shD (wI σ s 5 (i : Int)) (s + 4) p i) (s + 4) i (some mP)) (s + 4) j = hR σ (s + 4) (τD p i j) := by
        intro j hj
        unfold τD
        rw [hR_w]
        by_cases e : j = i
        · subst e
          rw [if_pos ⟨rfl, rfl⟩, if_neg (by omega), if_neg (by omega), if_pos rfl, hmP]
        · rw [if_neg (by omega), hR_D]
          by_cases e2 : j < p
          · rw [if_neg (by omega), if_pos e2]
            rfl
          · by_cases e3 : j < i
            · rw [if_pos (by omega), if_neg e2, if_pos e3]
              rfl
            · rw [if_neg (by omega), if_neg e2, if_neg e3, if_neg e]
              rfl
      refine hQ _ ?_ ?_ (by rw [show L.length - 1 = i by omega]; exact hρ) (fun mP' hmP' => ?_)
      · exact (((FrM.w (by omega)).tr FrM.D).tr FrM.r).tr (FrM.w (by omega))
      rotate_left
      · cases hmP.symm.trans hmP'
        refine ⟨by rw [hI_w, if_pos ⟨rfl, rfl⟩], fun m hm => ?_⟩
        rw [hI_w, if_neg (by omega)]
        show hI (wI σ s 5 (i : Int)) m 4 = _
        rw [hI_w, if_neg (by omega)]
      · refine RSm.perm (fun j => if j < p then j else if j < i then j + 1 else if j = i then p else j) hL (fun j hj => ?_) (fun j1 j2 hj1 hj2 e => ?_) (fun j hj => ?_) (by omega) ?_ (fun j M m h1 h2 => ?_)
        · show (if j < p then j else if j < i then j + 1 else if j = i then p else j) < 17
          split
          · omega
          · split
            · omega
            · split <;> omega
        · have e : (if j1 < p then j1 else if j1 < i then j1 + 1 else if j1 = i then p else j1) = (if j2 < p then j2 else if j2 < i then j2 + 1 else if j2 = i then p else j2) := e
          (repeat' split at e) <;> omega
        · exact hρ j hj
        · rw [hlen, hI_w, if_neg (by omega)]
          exact hc5 i
        · have h2 : hR σ (s + 4) (if j < p then j else if j < i then j + 1 else if j = i then p else j) = some m := h2
          have hj : j < i := by
            have := (List.getElem?_eq_some_iff.mp h1).1
            omega
          have other : ∀ j', j' < 17 → j' ≠ p → ∀ M', L[j']? = some M' → hR σ (s + 4) j' = some m → RM (wI (wR (shD (wI σ s 5 (i : Int)) (s + 4) p i) (s + 4) i (some mP)) mP 4 0) m M' := by
            intro j' hj' hjp M' hM' hm
            have hsep := hL.sep hj' (by omega) hm hmP hjp
            obtain ⟨m9, hm9, -, hlo9, hhi9⟩ := hL.at hs (i := j') hj'
            have e9 : m9 = m := Option.some.inj (hm9.symm.trans hm)
            subst e9
            have g1 : RM (wI σ s 5 (i : Int)) m9 M' := RM.fr (hL.2.2.2.2 j' M' m9 hM' hm) (FrI.w (lo := s) (hi := s + 1) (by omega) (by omega)) (by omega)
            exact RM.fr (σ := wR (shD (wI σ s 5 (i : Int)) (s + 4) p i) (s + 4) i (some mP)) g1 (FrI.w (lo := mP) (hi := mP + 3) (by omega) (by omega)) (by omega)
          rw [List.getElem?_eraseIdx] at h1
          by_cases e2 : j < p
          · rw [if_pos e2] at h1 h2
            exact other j (by omega) (by omega) M h1 h2
          · rw [if_neg e2] at h1 h2
            rw [if_pos hj] at h2
            exact other (j + 1) (by omega) (by omega) M h1 h2
    · refine ar_aload_n 41 rfl d_X4_drop_40 rfl ?_
      obtain ⟨m1, hm1, hsh1, -, -⟩ := hL.at hs (i := i + 1) (by omega)
      have hk1 := hsh1.1
      refine ar_getA 44 rfl d_X4_drop_41 fl_X4_26 rfl (by assumption) (hr44 _) ?_
      refine ar_iload_n 45 rfl d_X4_drop_44 rfl ?_
      refine ar_aload_n 46 rfl d_X4_drop_45 rfl ?_
      refine ar_getA 49 rfl d_X4_drop_46 fl_X4_26 rfl (by assumption) (hr44 _) ?_
      refine ar_iload_n 50 rfl d_X4_drop_49 rfl ?_
      refine ar_iconst 51 rfl d_X4_drop_50 ?_
      refine ar_iadd 52 rfl d_X4_drop_51 ?_
      refine ar_top (y := ((i + 1 : Nat) : Int)) (by omega) ?_
      refine ar_aalA 53 rfl d_X4_drop_52 (by assumption) (by omega) (by omega) (by rw [hR_D, if_neg (by omega)]; exact hm1) ?_
      refine ar_aasN (kd := 12) i 54 rfl d_X4_drop_53 (by assumption) (by omega) (by omega) (by omega) hk1 ?_
      refine ar_inc_3 (y := ((i + 1 : Nat) : Int)) 57 rfl d_X4_drop_54 rfl (by intro _ h; cases h) (by omega) ?_
      refine ar_goto 32 rfl d_X4_drop_57 ?_
      refine ar_sig (shD_s hpi hm1) ?_
      exact ih (c - (i + 1)) (by omega) (i + 1) rfl (by omega) (by omega)
  refine ar_iload_n 1 rfl d_X4_drop_0 rfl ?_
  refine ar_if_lt 12 4 rfl rfl d_X4_drop_1 (by omega) (fun h => by omega) (fun g1 => ?_)
  refine ar_iload_n 5 rfl d_X4_drop_4 rfl ?_
  refine ar_aload_n 6 rfl d_X4_drop_5 rfl ?_
  refine ar_giv (y := (L.length : Int)) 9 rfl d_X4_drop_6 fl_X4_47 rfl (by assumption) (by assumption) ?_
  refine ar_icmp_lt 13 12 rfl rfl d_X4_drop_9 (by omega) (by omega) (fun g9 => ?_) (fun h => by omega)
  refine ar_aload_n 14 rfl d_X4_drop_13 rfl ?_
  refine ar_getA 17 rfl d_X4_drop_14 fl_X4_26 rfl (by assumption) (by assumption) ?_
  refine ar_iload_n 18 rfl d_X4_drop_17 rfl ?_
  refine ar_aalA 19 rfl d_X4_drop_18 (by assumption) (by omega) (by omega) (by assumption) ?_
  refine ar_ast_2 20 rfl d_X4_drop_19 rfl (by intro _ h; cases h) ?_
  refine ar_aload_n 21 rfl d_X4_drop_20 rfl ?_
  refine ar_dup 22 rfl d_X4_drop_21 (fun _ => rfl) ?_
  refine ar_giv (y := (L.length : Int)) 25 rfl d_X4_drop_22 fl_X4_47 rfl (by assumption) (by assumption) ?_
  refine ar_iconst 26 rfl d_X4_drop_25 ?_
  refine ar_isub 27 rfl d_X4_drop_26 ?_
  refine ar_top (y := (c : Int)) (by omega) ?_
  refine ar_putI 30 rfl d_X4_drop_27 fl_X4_47 rfl rfl (by assumption) ?_
  refine ar_iload_n 31 rfl d_X4_drop_30 rfl ?_
  refine ar_ist_3 32 rfl d_X4_drop_31 rfl (by intro _ h; cases h) ?_
  have h9 := loop _ p rfl (Nat.le_refl _) (by omega)
  rw [shD_0] at h9
  exact h9
end STM
