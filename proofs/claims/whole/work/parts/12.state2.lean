theorem take_er {α : Type} {L : List α} {i : Nat} : (L.take (i + 1)).eraseIdx i = L.take i := by
  apply List.ext_getElem?
  intro j
  rw [List.getElem?_eraseIdx]
  by_cases h : j < i
  · rw [if_pos h, List.getElem?_take_of_lt (by omega), List.getElem?_take_of_lt h]
  · rw [if_neg h, List.getElem?_take_eq_none (by omega), List.getElem?_take_eq_none (by omega)]
theorem app_er {α : Type} {L X : List α} {i : Nat} (h : i < L.length) : (L.take (i + 1) ++ X).eraseIdx i = L.take i ++ X := by
  rw [List.eraseIdx_append_of_lt_length (by rw [List.length_take]; omega), take_er]
theorem RSm.frm0 {σ σ' : Sg} {s : Nat} {L : List Mem} (h : RSm σ s L) (h1 : ∀ b, (s ≤ b ∧ b < s + 58) → hI σ' b = hI σ b) (h2 : hR σ' (s + 4) = hR σ (s + 4)) : RSm σ' s L := by
  obtain ⟨a1, a2, a3, a4, a5⟩ := h
  refine ⟨a1, by rw [h1 s (by omega)]; exact a2, fun i hi => by rw [h2]; exact a3 i hi, fun i j hi hj e => by rw [h2] at e; exact a4 i j hi hj e, fun i M m hm hr => ?_⟩
  rw [h2] at hr
  have hi : i < 17 := by
    have := (List.getElem?_eq_some_iff.mp hm).1
    omega
  obtain ⟨p, hp, e⟩ := a3 i hi
  rw [hr] at e
  cases e
  have := a5 i M _ hm hr
  unfold RM at this ⊢
  rw [h1 _ (by omega), h1 _ (by omega), h1 _ (by omega)]
  exact this
def mSame (M M' : Mem) : Prop := mLoaf M' = mLoaf M ∧ mRes M' = mRes M ∧ mSteps M' = mSteps M ∧ mSer M' = mSer M ∧ mLk M' = mLk M
theorem mSame.rf (M : Mem) : mSame M M := ⟨rfl, rfl, rfl, rfl, rfl⟩
theorem mSame.tr {M M1 M2 : Mem} (h : mSame M M1) (h2 : mSame M1 M2) : mSame M M2 := ⟨h2.1.trans h.1, h2.2.1.trans h.2.1, h2.2.2.1.trans h.2.2.1, h2.2.2.2.1.trans h.2.2.2.1, h2.2.2.2.2.trans h.2.2.2.2⟩
/-- which object holds which memory: what is alive behind and old was alive before, in the same object; an object's number is kept, 0, or new -/
def OBJ (s : Nat) (z : Int) (σ : Sg) (L : List Mem) (σ' : Sg) (L' : List Mem) : Prop :=
  (∀ (i : Nat) (M' : Mem) (m : Nat), L'[i]? = some M' → hR σ' (s + 4) i = some m → mSer M' ≤ z → ∃ (j : Nat) (M : Mem), L[j]? = some M ∧ hR σ (s + 4) j = some m ∧ mSame M M') ∧
  (∀ p, p < 17 → hI σ' (s + 7 + 3 * p) 4 = hI σ (s + 7 + 3 * p) 4 ∨ hI σ' (s + 7 + 3 * p) 4 = 0 ∨ (z < hI σ' (s + 7 + 3 * p) 4 ∧ hI σ' (s + 7 + 3 * p) 4 ≤ hI σ' s 6)) ∧
  (∀ (j : Nat) (M : Mem) (m : Nat), L[j]? = some M → hR σ (s + 4) j = some m → hI σ' m 4 = mSer M → ∃ (i : Nat) (M' : Mem), L'[i]? = some M' ∧ hR σ' (s + 4) i = some m ∧ mSame M M') ∧ hI σ s 6 ≤ hI σ' s 6
theorem OBJ.rf {s : Nat} {z : Int} {σ : Sg} {L : List Mem} : OBJ s z σ L σ L := ⟨fun i M m h1 h2 _ => ⟨i, M, h1, h2, mSame.rf M⟩, fun _ _ => Or.inl rfl, fun j M m h1 h2 _ => ⟨j, M, h1, h2, mSame.rf M⟩, Int.le_refl _⟩
theorem OBJ.tr {s : Nat} {z z' : Int} {σ σ1 σ2 : Sg} {L L1 L2 : List Mem} (h : OBJ s z σ L σ1 L1) (h2 : OBJ s z' σ1 L1 σ2 L2) (hz : z ≤ z') (hL : RSm σ s L) (hp : ∀ M ∈ L, 0 < mSer M ∧ mSer M ≤ z) : OBJ s z σ L σ2 L2 := by
  refine ⟨fun i M' m h3 h4 h5 => ?_, fun p hp => ?_, fun j M m h3 h4 h5 => ?_, Int.le_trans h.2.2.2 h2.2.2.2⟩
  · obtain ⟨j1, M1, e1, e2, e3⟩ := h2.1 i M' m h3 h4 (by omega)
    obtain ⟨j, M, f1, f2, f3⟩ := h.1 j1 M1 m e1 e2 (by have := e3.2.2.2.1; omega)
    exact ⟨j, M, f1, f2, f3.tr e3⟩
  · rcases h2.2.1 p hp with e | e | e
    · rcases h.2.1 p hp with f | f | f
      · exact Or.inl (e.trans f)
      · exact Or.inr (Or.inl (e.trans f))
      · exact Or.inr (Or.inr (by have := h2.2.2.2; omega))
    · exact Or.inr (Or.inl e)
    · exact Or.inr (Or.inr (by omega))
  · have hx := hp M (List.mem_of_getElem? h3)
    have hj : j < 17 := by
      have := (List.getElem?_eq_some_iff.mp h3).1
      have := hL.1
      omega
    obtain ⟨p, hp17, e⟩ := hL.2.2.1 j hj
    rw [h4] at e
    cases e
    have e1 : hI σ1 (s + 7 + 3 * p) 4 = mSer M := by
      rcases h2.2.1 p hp17 with e | e | e <;> omega
    obtain ⟨i1, M1, f1, f2, f3⟩ := h.2.2.1 j M _ h3 h4 e1
    obtain ⟨i2, M2, g1, g2, g3⟩ := h2.2.2.1 i1 M1 _ f1 f2 (by rw [h5, f3.2.2.2.1])
    exact ⟨i2, M2, g1, g2, f3.tr g3⟩
theorem obj_use {s p : Nat} {z : Int} {σ σ' : Sg} {L : List Mem} (hL : RSm σ s L) (hp : p < L.length) (hρ : ∀ i, i < 17 → hR σ' (s + 4) i = hR σ (s + 4) (τU p i)) (hm : ∀ m, hI σ' m 4 = hI σ m 4) (h6 : hI σ' s 6 = hI σ s 6) : OBJ s z σ L σ' (useL L p) := by
  have hl17 := hL.1
  have hMp : L[p]? = some L[p] := List.getElem?_eq_getElem hp
  have hu : useL L p = mUse L[p] :: L.eraseIdx p := by
    unfold useL
    rw [hMp]
  rw [hu]
  refine ⟨fun i M' m h1 h2 _ => ?_, fun q _ => Or.inl (hm _), fun j M m h1 h2 _ => ?_, Int.le_of_eq h6.symm⟩
  · cases i with
    | zero =>
      rw [hρ 0 (by omega)] at h2
      simp only [List.getElem?_cons_zero] at h1
      cases h1
      exact ⟨p, L[p], hMp, h2, ⟨rfl, rfl, rfl, rfl, rfl⟩⟩
    | succ i =>
      rw [List.getElem?_cons_succ, List.getElem?_eraseIdx] at h1
      by_cases e : i < p
      · rw [if_pos e] at h1
        rw [hρ (i + 1) (by omega), show τU p (i + 1) = i by unfold τU; rw [if_neg (by omega), if_pos (by omega)]; omega] at h2
        exact ⟨i, M', h1, h2, mSame.rf M'⟩
      · rw [if_neg e] at h1
        have := (List.getElem?_eq_some_iff.mp h1).1
        rw [hρ (i + 1) (by omega), show τU p (i + 1) = i + 1 by unfold τU; rw [if_neg (by omega), if_neg (by omega)]] at h2
        exact ⟨i + 1, M', h1, h2, mSame.rf M'⟩
  · have hj := (List.getElem?_eq_some_iff.mp h1).1
    by_cases e : j = p
    · subst e
      rw [hMp] at h1
      cases h1
      exact ⟨0, mUse L[j], rfl, by rw [hρ 0 (by omega)]; exact h2, ⟨rfl, rfl, rfl, rfl, rfl⟩⟩
    · by_cases e2 : j < p
      · exact ⟨j + 1, M, by rw [List.getElem?_cons_succ, List.getElem?_eraseIdx, if_pos e2]; exact h1, by rw [hρ (j + 1) (by omega), show τU p (j + 1) = j by unfold τU; rw [if_neg (by omega), if_pos (by omega)]; omega]; exact h2, mSame.rf M⟩
      · obtain ⟨j', rfl⟩ : ∃ j', j = j' + 1 := ⟨j - 1, by omega⟩
        exact ⟨j' + 1, M, by rw [List.getElem?_cons_succ, List.getElem?_eraseIdx, if_neg (by omega)]; exact h1, by rw [hρ (j' + 1) (by omega), show τU p (j' + 1) = j' + 1 by unfold τU; rw [if_neg (by omega), if_neg (by omega)]]; exact h2, mSame.rf M⟩
theorem obj_drop {s p : Nat} {z : Int} {σ σ' : Sg} {L : List Mem} (hL : RSm σ s L) (hp : p < L.length) (hpos : ∀ M ∈ L, 0 < mSer M) (hρ : ∀ i, i < 17 → hR σ' (s + 4) i = hR σ (s + 4) (τD p (L.length - 1) i)) (hm : ∀ mP, hR σ (s + 4) p = some mP → hI σ' mP 4 = 0 ∧ ∀ m, m ≠ mP → hI σ' m 4 = hI σ m 4) (h6 : hI σ' s 6 = hI σ s 6) : OBJ s z σ L σ' (L.eraseIdx p) := by
  have hl17 := hL.1
  obtain ⟨pp, hpp, hmP⟩ := hL.2.2.1 p (by omega)
  obtain ⟨hz, ho⟩ := hm _ hmP
  refine ⟨fun i M' m h1 h2 _ => ?_, fun q hq => ?_, fun j M m h1 h2 h3 => ?_, Int.le_of_eq h6.symm⟩
  · have hi := (List.getElem?_eq_some_iff.mp h1).1
    rw [List.length_eraseIdx_of_lt hp] at hi
    rw [List.getElem?_eraseIdx] at h1
    rw [hρ i (by omega)] at h2
    unfold τD at h2
    by_cases e : i < p
    · rw [if_pos e] at h1 h2
      exact ⟨i, M', h1, h2, mSame.rf M'⟩
    · rw [if_neg e] at h1 h2
      rw [if_pos hi] at h2
      exact ⟨i + 1, M', h1, h2, mSame.rf M'⟩
  · by_cases e : s + 7 + 3 * q = s + 7 + 3 * pp
    · rw [e]
      exact Or.inr (Or.inl hz)
    · exact Or.inl (ho _ e)
  · have hj := (List.getElem?_eq_some_iff.mp h1).1
    have hps := hpos M (List.mem_of_getElem? h1)
    by_cases e : j = p
    · subst e
      rw [hmP] at h2
      cases h2
      omega
    · by_cases e2 : j < p
      · refine ⟨j, M, by rw [List.getElem?_eraseIdx, if_pos e2]; exact h1, ?_, mSame.rf M⟩
        rw [hρ j (by omega)]
        unfold τD
        rw [if_pos e2]
        exact h2
      · obtain ⟨j', rfl⟩ : ∃ j', j = j' + 1 := ⟨j - 1, by omega⟩
        refine ⟨j', M, by rw [List.getElem?_eraseIdx, if_neg (by omega)]; exact h1, ?_, mSame.rf M⟩
        rw [hρ j' (by omega)]
        unfold τD
        rw [if_neg (by omega), if_pos (by omega)]
        exact h2
section STN
variable {G : GT} {d k n : Nat} {σ : Sg} {Q : Option AV → Sg → Prop}
theorem sp_X4_dropBeyondRoom {s room : Nat} {L : List Mem} (hs : ShS σ s) (hL : RSm σ s L) (hr0 : hI σ (s + 2) 0 = (room : Int)) (hr1 : 1 ≤ room ∧ room ≤ 16) (hdp : 1 ≤ d) {z : Int} (hz : ∀ M ∈ L, 0 < mSer M ∧ mSer M ≤ z) (hQ : ∀ σ', FrM s σ σ' → RSm σ' s (L.take room) → OBJ s z σ L σ' (L.take room) → Q none σ') : WA G d k n mX4_dropBeyondRoom 0 [Va s, Vu] [] σ Q := by
  have hl17 := hL.1
  have loop : ∀ i : Nat, ∀ σi, i ≤ L.length → (i = L.length ∨ room ≤ i) → FrM s σ σi → RSm σi s (L.take i) → OBJ s z σ L σi (L.take i) → WA G d k n mX4_dropBeyondRoom 7 [Va s, Vi ((i : Int) - 1)] [] σi Q := by
    intro i
    induction i with
    | zero =>
      intro σi hi hor hf hLi hob
      have hsi := hs.frm hf
      have hk := hsi.1
      have hk2 : sk σi (s + 2) = (10, 2) := hsi.2.2.1
      have hr2 : hR σi s 2 = some (s + 2) := hsi.2.2.2.2.2.2.2.2.1
      have hrm : hI σi (s + 2) 0 = (room : Int) := by rw [hf.2.2.2.1 _ (by omega)]; exact hr0
      refine ar_iload_n 8 rfl d_X4_dropBeyondRoom_7 rfl ?_
      refine ar_aload_n 9 rfl d_X4_dropBeyondRoom_8 rfl ?_
      refine ar_getA 12 rfl d_X4_dropBeyondRoom_9 fl_X4_15 rfl (by assumption) (by assumption) ?_
      refine ar_iconst 13 rfl d_X4_dropBeyondRoom_12 ?_
      refine ar_ilv (y := (room : Int)) 14 rfl d_X4_dropBeyondRoom_13 (by assumption) (by omega) (by assumption) ?_
      refine ar_icmp_lt 28 17 rfl rfl d_X4_dropBeyondRoom_14 (by omega) (by omega) (fun g14 => ?_) (fun h => by omega)
      refine WA.ret none ⟨d_X4_dropBeyondRoom_28, rfl, rfl⟩ ?_
      have e : L.take room = L.take 0 := by
        rcases hor with h | h
        · have : L = [] := List.length_eq_zero_iff.mp h.symm
          rw [this]
          simp
        · omega
      exact hQ _ hf (by rw [e]; exact hLi) (by rw [e]; exact hob)
    | succ i ih =>
      intro σi hi hor hf hLi hob
      have hsi := hs.frm hf
      have hk := hsi.1
      have hk2 : sk σi (s + 2) = (10, 2) := hsi.2.2.1
      have hr2 : hR σi s 2 = some (s + 2) := hsi.2.2.2.2.2.2.2.2.1
      have hrm : hI σi (s + 2) 0 = (room : Int) := by rw [hf.2.2.2.1 _ (by omega)]; exact hr0
      refine ar_iload_n 8 rfl d_X4_dropBeyondRoom_7 rfl ?_
      refine ar_aload_n 9 rfl d_X4_dropBeyondRoom_8 rfl ?_
      refine ar_getA 12 rfl d_X4_dropBeyondRoom_9 fl_X4_15 rfl (by assumption) (by assumption) ?_
      refine ar_iconst 13 rfl d_X4_dropBeyondRoom_12 ?_
      refine ar_ilv (y := (room : Int)) 14 rfl d_X4_dropBeyondRoom_13 (by assumption) (by omega) (by assumption) ?_
      refine ar_icmp_lt 28 17 rfl rfl d_X4_dropBeyondRoom_14 (by omega) (by omega) (fun g14 => ?_) (fun g14 => ?_)
      · refine WA.ret none ⟨d_X4_dropBeyondRoom_28, rfl, rfl⟩ ?_
        have e : L.take room = L.take (i + 1) := by
          rcases hor with h | h
          · rw [List.take_of_length_le (by omega), List.take_of_length_le (by omega)]
          · rw [show room = i + 1 by omega]
        exact hQ _ hf (by rw [e]; exact hLi) (by rw [e]; exact hob)
      · refine ar_aload_n 18 rfl d_X4_dropBeyondRoom_17 rfl ?_
        refine ar_iload_n 19 rfl d_X4_dropBeyondRoom_18 rfl ?_
        refine ar_top (y := (i : Int)) (by omega) ?_
        refine ar_callV0 (M' := mX4_drop) (As := [_]) (ls' := [Va _, Vi _, Vu, Vu]) 22 rfl d_X4_dropBeyondRoom_19 ml_X4_86 mt_X4_drop (by assumption) rfl (Nat.le_of_ble_eq_true rfl) rfl (Nat.le_of_ble_eq_true rfl) (by omega) ?_
        refine sp_X4_drop hsi hLi (by rw [List.length_take]; omega) (fun σ1 hf1 hL1 hρ1 hm1 => ?_)
        have ho1 := obj_drop (z := z) hLi (by rw [List.length_take]; omega) (fun M hM => (hz M (List.mem_of_mem_take hM)).1) hρ1 hm1 (hf1.2.2.2.2 6 (by omega))
        rw [take_er] at hL1 ho1
        refine ar_inc_1 (y := ((i : Int) - 1)) 25 rfl d_X4_dropBeyondRoom_22 rfl (by intro _ h; cases h) (by omega) ?_
        refine ar_goto 7 rfl d_X4_dropBeyondRoom_25 ?_
        exact ih σ1 (by omega) (by omega) (hf.tr hf1) hL1 (hob.tr ho1 (Int.le_refl _) hL hz)
  have hk := hs.1
  have h5 := hL.2.1
  refine ar_aload_n 1 rfl d_X4_dropBeyondRoom_0 rfl ?_
  refine ar_giv (y := (L.length : Int)) 4 rfl d_X4_dropBeyondRoom_1 fl_X4_47 rfl (by assumption) (by assumption) ?_
  refine ar_iconst 5 rfl d_X4_dropBeyondRoom_4 ?_
  refine ar_isub 6 rfl d_X4_dropBeyondRoom_5 ?_
  refine ar_ist_1 7 rfl d_X4_dropBeyondRoom_6 rfl (by intro _ h; cases h) ?_
  exact loop L.length σ (Nat.le_refl _) (Or.inl rfl) FrM.rf (by rw [List.take_length]; exact hL) (by rw [List.take_length]; exact OBJ.rf)
def notOf (l : Int) (M : Mem) : Bool := !(mLoaf M == l)
theorem sp_X4_dropAllOf {s : Nat} {l : Int} {L : List Mem} (hs : ShS σ s) (hL : RSm σ s L) (hl : i32 l) (hW : ∀ M ∈ L, i32 (mLoaf M)) (hdp : 1 ≤ d) (hQ : ∀ σ', FrM s σ σ' → RSm σ' s (L.filter (notOf l)) → Q none σ') : WA G d k n mX4_dropAllOf 0 [Va s, Vi l, Vu] [] σ Q := by
  have hl17 := hL.1
  have loop : ∀ i : Nat, ∀ σi, i ≤ L.length → FrM s σ σi → RSm σi s (L.take i ++ (L.drop i).filter (notOf l)) → WA G d k n mX4_dropAllOf 7 [Va s, Vi l, Vi ((i : Int) - 1)] [] σi Q := by
    intro i
    induction i with
    | zero =>
      intro σi hi hf hLi
      refine ar_iload_n 8 rfl d_X4_dropAllOf_7 rfl ?_
      refine ar_if_lt 35 11 rfl rfl d_X4_dropAllOf_8 (by omega) (fun g8 => ?_) (fun h => by omega)
      refine WA.ret none ⟨d_X4_dropAllOf_35, rfl, rfl⟩ ?_
      exact hQ _ hf (by simpa using hLi)
    | succ i ih =>
      intro σi hi hf hLi
      have hsi := hs.frm hf
      have hk := hsi.1
      have hk4 : sk σi (s + 4) = (12, 17) := hsi.2.2.2.2.1
      have hr4 : hR σi s 4 = some (s + 4) := hsi.2.2.2.2.2.2.2.2.2.2.1
      have hlt : i < L.length := by omega
      have hMi : (L.take (i + 1) ++ (L.drop (i + 1)).filter (notOf l))[i]? = some L[i] := by
        rw [List.getElem?_append_left (by rw [List.length_take]; omega), List.getElem?_take_of_lt (by omega)]
        exact List.getElem?_eq_getElem hlt
      obtain ⟨m1, hm1, hsh1, -, -⟩ := hLi.at hsi (i := i) (by omega)
      have hk1 := hsh1.1
      have hRM1 := hLi.2.2.2.2 i _ m1 hMi hm1
      have hw1 := hW _ (List.getElem_mem hlt)
      have hdr : L.drop i = L[i] :: L.drop (i + 1) := List.drop_eq_getElem_cons hlt
      refine ar_iload_n 8 rfl d_X4_dropAllOf_7 rfl ?_
      refine ar_if_lt 35 11 rfl rfl d_X4_dropAllOf_8 (by omega) (fun h => by omega) (fun g8 => ?_)
      refine ar_aload_n 12 rfl d_X4_dropAllOf_11 rfl ?_
      refine ar_getA 15 rfl d_X4_dropAllOf_12 fl_X4_26 rfl (by assumption) (by assumption) ?_
      refine ar_iload_n 16 rfl d_X4_dropAllOf_15 rfl ?_
      refine ar_top (y := (i : Int)) (by omega) ?_
      refine ar_aalA 17 rfl d_X4_dropAllOf_16 (by assumption) (by omega) (by omega) (by assumption) ?_
      refine ar_giv (y := (mLoaf L[i])) 20 rfl d_X4_dropAllOf_17 fl_X4_70 rfl (by assumption) hRM1.1 ?_
      refine ar_iload_n 21 rfl d_X4_dropAllOf_20 rfl ?_
      refine ar_icmp_ne 29 24 rfl rfl d_X4_dropAllOf_21 (by omega) (by omega) (fun g21 => ?_) (fun g21 => ?_)
      · refine ar_inc_2 (y := ((i : Int) - 1)) 32 rfl d_X4_dropAllOf_29 rfl (by intro _ h; cases h) (by omega) ?_
        refine ar_goto 7 rfl d_X4_dropAllOf_32 ?_
        refine ih σi (by omega) hf ?_
        have e : L.take i ++ (L.drop i).filter (notOf l) = L.take (i + 1) ++ (L.drop (i + 1)).filter (notOf l) := by
          rw [hdr, List.filter_cons_of_pos (by simp [notOf]; exact g21), List.take_succ_eq_append_getElem hlt, List.append_assoc]
          rfl
        rw [e]
        exact hLi
      · refine ar_aload_n 25 rfl d_X4_dropAllOf_24 rfl ?_
        refine ar_iload_n 26 rfl d_X4_dropAllOf_25 rfl ?_
        refine ar_top (y := (i : Int)) (by omega) ?_
        refine ar_callV0 (M' := mX4_drop) (As := [_]) (ls' := [Va _, Vi _, Vu, Vu]) 29 rfl d_X4_dropAllOf_26 ml_X4_86 mt_X4_drop (by assumption) rfl (Nat.le_of_ble_eq_true rfl) rfl (Nat.le_of_ble_eq_true rfl) (by omega) ?_
        refine sp_X4_drop hsi hLi (by rw [List.length_append, List.length_take]; omega) (fun σ1 hf1 hL1 _ _ => ?_)
        rw [app_er hlt] at hL1
        refine ar_inc_2 (y := ((i : Int) - 1)) 32 rfl d_X4_dropAllOf_29 rfl (by intro _ h; cases h) (by omega) ?_
        refine ar_goto 7 rfl d_X4_dropAllOf_32 ?_
        refine ih σ1 (by omega) (hf.tr hf1) ?_
        have e : L.take i ++ (L.drop i).filter (notOf l) = L.take i ++ (L.drop (i + 1)).filter (notOf l) := by
          rw [hdr, List.filter_cons_of_neg (by simp [notOf]; exact g21)]
        rw [e]
        exact hL1
  have hk := hs.1
  have h5 := hL.2.1
  refine ar_aload_n 1 rfl d_X4_dropAllOf_0 rfl ?_
  refine ar_giv (y := (L.length : Int)) 4 rfl d_X4_dropAllOf_1 fl_X4_47 rfl (by assumption) (by assumption) ?_
  refine ar_iconst 5 rfl d_X4_dropAllOf_4 ?_
  refine ar_isub 6 rfl d_X4_dropAllOf_5 ?_
  refine ar_ist_2 7 rfl d_X4_dropAllOf_6 rfl (by intro _ h; cases h) ?_
  exact loop L.length σ (Nat.le_refl _) FrM.rf (by simpa using hL)
theorem sp_X4_placeOfSerial {s : Nat} {w : Int} {L : List Mem} (hs : ShS σ s) (hL : RSm σ s L) (hw : i32 w) (hW : ∀ M ∈ L, i32 (mSer M)) (hQ : ∀ (i : Nat) (M : Mem), L[i]? = some M → mSer M = w → (∀ (j : Nat) (M' : Mem), j < i → L[j]? = some M' → mSer M' ≠ w) → Q (some (Vi (i : Int))) σ) (hN : (∀ M ∈ L, mSer M ≠ w) → Q (some (Vi (-1))) σ) : WA G d k n mX4_placeOfSerial 0 [Va s, Vi w, Vu] [] σ Q := by
  have hl17 := hL.1
  have hk := hs.1
  have h5 := hL.2.1
  have hk4 : sk σ (s + 4) = (12, 17) := hs.2.2.2.2.1
  have hr4 : hR σ s 4 = some (s + 4) := hs.2.2.2.2.2.2.2.2.2.2.1
  have loop : ∀ r i : Nat, L.length - i = r → i ≤ L.length → (∀ (j : Nat) (M' : Mem), j < i → L[j]? = some M' → mSer M' ≠ w) → WA G d k n mX4_placeOfSerial 2 [Va s, Vi w, Vi (i : Int)] [] σ Q := by
    intro r
    induction r using Nat.strongRecOn with
    | ind r ih =>
    intro i hr hi hj
    refine ar_iload_n 3 rfl d_X4_placeOfSerial_2 rfl ?_
    refine ar_aload_n 4 rfl d_X4_placeOfSerial_3 rfl ?_
    refine ar_giv (y := (L.length : Int)) 7 rfl d_X4_placeOfSerial_4 fl_X4_47 rfl (by assumption) (by assumption) ?_
    refine ar_icmp_ge 31 10 rfl rfl d_X4_placeOfSerial_7 (by omega) (by omega) (fun g7 => ?_) (fun g7 => ?_)
    · refine ar_iconst 32 rfl d_X4_placeOfSerial_31 ?_
      refine WA.ret (some (Vi _)) ⟨d_X4_placeOfSerial_32, rfl, Or.inl rfl⟩ ?_
      refine hN fun M hM => ?_
      obtain ⟨j, hj2⟩ := List.getElem?_of_mem hM
      exact hj j M (by have := (List.getElem?_eq_some_iff.mp hj2).1; omega) hj2
    · have hlt : i < L.length := by omega
      have hx0 : L[i]? = some L[i] := List.getElem?_eq_getElem hlt
      obtain ⟨m1, hm1, hsh1, -, -⟩ := hL.at hs (i := i) (by omega)
      have hk1 := hsh1.1
      have hRM1 := hL.2.2.2.2 i _ m1 hx0 hm1
      have hw1 := hW _ (List.getElem_mem hlt)
      refine ar_aload_n 11 rfl d_X4_placeOfSerial_10 rfl ?_
      refine ar_getA 14 rfl d_X4_placeOfSerial_11 fl_X4_26 rfl (by assumption) (by assumption) ?_
      refine ar_iload_n 15 rfl d_X4_placeOfSerial_14 rfl ?_
      refine ar_aalA 16 rfl d_X4_placeOfSerial_15 (by assumption) (by omega) (by omega) (by assumption) ?_
      refine ar_giv (y := (mSer L[i])) 19 rfl d_X4_placeOfSerial_16 fl_X4_73 rfl (by assumption) hRM1.2.2.2.2.1 ?_
      refine ar_iload_n 20 rfl d_X4_placeOfSerial_19 rfl ?_
      refine ar_icmp_ne 25 23 rfl rfl d_X4_placeOfSerial_20 (by omega) (by omega) (fun g20 => ?_) (fun g20 => ?_)
      · refine ar_inc_2 (y := ((i + 1 : Nat) : Int)) 28 rfl d_X4_placeOfSerial_25 rfl (by intro _ h; cases h) (by omega) ?_
        refine ar_goto 2 rfl d_X4_placeOfSerial_28 ?_
        exact ih (L.length - (i + 1)) (by omega) (i + 1) rfl (by omega) (fun j M' hj2 hj3 => by
          by_cases e : j = i
          · subst e
            rw [hx0] at hj3
            cases hj3
            exact g20
          · exact hj j M' (by omega) hj3)
      · refine ar_iload_n 24 rfl d_X4_placeOfSerial_23 rfl ?_
        refine WA.ret (some (Vi _)) ⟨d_X4_placeOfSerial_24, rfl, Or.inl rfl⟩ ?_
        exact hQ i _ hx0 g20 hj
  refine ar_iconst 1 rfl d_X4_placeOfSerial_0 ?_
  refine ar_ist_2 2 rfl d_X4_placeOfSerial_1 rfl (by intro _ h; cases h) ?_
  exact loop _ 0 rfl (by omega) (fun j y h => absurd h (by omega))
theorem take_f {α : Type} {L : List α} {p : α → Bool} {i : Nat} (h : i < L.length) : (L.take (i + 1)).filter p = (L.take i).filter p ++ (if p L[i] = true then [L[i]] else []) := by
  rw [List.take_succ_eq_append_getElem h, List.filter_append]
  by_cases e : p L[i] = true
  · rw [if_pos e, List.filter_cons_of_pos e]
    rfl
  · rw [if_neg e, List.filter_cons_of_neg e]
    rfl
def isOf (l : Int) (M : Mem) : Bool := mLoaf M == l
theorem sp_X4_memoriesOf {s : Nat} {l : Int} {L : List Mem} (hs : ShS σ s) (hL : RSm σ s L) (hl : i32 l) (hW : ∀ M ∈ L, i32 (mLoaf M)) (hQ : Q (some (Vi ((L.filter (isOf l)).length : Int))) σ) : WA G d k n mX4_memoriesOf 0 [Va s, Vi l, Vu, Vu] [] σ Q := by
  have hl17 := hL.1
  have hk := hs.1
  have h5 := hL.2.1
  have hk4 : sk σ (s + 4) = (12, 17) := hs.2.2.2.2.1
  have hr4 : hR σ s 4 = some (s + 4) := hs.2.2.2.2.2.2.2.2.2.2.1
  have loop : ∀ r i : Nat, L.length - i = r → i ≤ L.length → WA G d k n mX4_memoriesOf 4 [Va s, Vi l, Vi (((L.take i).filter (isOf l)).length : Int), Vi (i : Int)] [] σ Q := by
    intro r
    induction r using Nat.strongRecOn with
    | ind r ih =>
    intro i hr hi
    refine ar_iload_n 5 rfl d_X4_memoriesOf_4 rfl ?_
    refine ar_aload_n 6 rfl d_X4_memoriesOf_5 rfl ?_
    refine ar_giv (y := (L.length : Int)) 9 rfl d_X4_memoriesOf_6 fl_X4_47 rfl (by assumption) (by assumption) ?_
    refine ar_icmp_ge 34 12 rfl rfl d_X4_memoriesOf_9 (by omega) (by omega) (fun g9 => ?_) (fun g9 => ?_)
    · refine ar_iload_n 35 rfl d_X4_memoriesOf_34 rfl ?_
      refine WA.ret (some (Vi _)) ⟨d_X4_memoriesOf_35, rfl, Or.inl rfl⟩ ?_
      rw [show i = L.length by omega, List.take_length]
      exact hQ
    · have hlt : i < L.length := by omega
      have hx0 : L[i]? = some L[i] := List.getElem?_eq_getElem hlt
      obtain ⟨m1, hm1, hsh1, -, -⟩ := hL.at hs (i := i) (by omega)
      have hk1 := hsh1.1
      have hRM1 := hL.2.2.2.2 i _ m1 hx0 hm1
      have hw1 := hW _ (List.getElem_mem hlt)
      have htf := take_f (p := isOf l) hlt
      refine ar_aload_n 13 rfl d_X4_memoriesOf_12 rfl ?_
      refine ar_getA 16 rfl d_X4_memoriesOf_13 fl_X4_26 rfl (by assumption) (by assumption) ?_
      refine ar_iload_n 17 rfl d_X4_memoriesOf_16 rfl ?_
      refine ar_aalA 18 rfl d_X4_memoriesOf_17 (by assumption) (by omega) (by omega) (by assumption) ?_
      refine ar_giv (y := (mLoaf L[i])) 21 rfl d_X4_memoriesOf_18 fl_X4_70 rfl (by assumption) hRM1.1 ?_
      refine ar_iload_n 22 rfl d_X4_memoriesOf_21 rfl ?_
      refine ar_icmp_ne 28 25 rfl rfl d_X4_memoriesOf_22 (by omega) (by omega) (fun g22 => ?_) (fun g22 => ?_)
      · refine ar_inc_3 (y := ((i + 1 : Nat) : Int)) 31 rfl d_X4_memoriesOf_28 rfl (by intro _ h; cases h) (by omega) ?_
        refine ar_goto 4 rfl d_X4_memoriesOf_31 ?_
        rw [if_neg (by simp [isOf]; exact g22), List.append_nil] at htf
        rw [← htf]
        exact ih (L.length - (i + 1)) (by omega) (i + 1) rfl (by omega)
      · rw [if_pos (by simp [isOf]; exact g22)] at htf
        have hln : ((L.take (i + 1)).filter (isOf l)).length = ((L.take i).filter (isOf l)).length + 1 := by rw [htf]; simp
        refine ar_inc_2 (y := (((L.take (i + 1)).filter (isOf l)).length : Int)) 28 rfl d_X4_memoriesOf_25 rfl (by intro _ h; cases h) (by omega) ?_
        refine ar_inc_3 (y := ((i + 1 : Nat) : Int)) 31 rfl d_X4_memoriesOf_28 rfl (by intro _ h; cases h) (by omega) ?_
        refine ar_goto 4 rfl d_X4_memoriesOf_31 ?_
        exact ih (L.length - (i + 1)) (by omega) (i + 1) rfl (by omega)
  refine ar_iconst 1 rfl d_X4_memoriesOf_0 ?_
  refine ar_ist_2 2 rfl d_X4_memoriesOf_1 rfl (by intro _ h; cases h) ?_
  refine ar_iconst 3 rfl d_X4_memoriesOf_2 ?_
  refine ar_ist_3 4 rfl d_X4_memoriesOf_3 rfl (by intro _ h; cases h) ?_
  exact loop _ 0 rfl (by omega)
set_option maxHeartbeats 4000000 in
theorem sp_X4_serialsOf {s ar : Nat} {l : Int} {L : List Mem} (hs : ShS σ s) (hL : RSm σ s L) (hl : i32 l) (hW : ∀ M ∈ L, i32 (mLoaf M)) (ha : sk σ ar = (10, 17)) (hd : ar < s ∨ s + 58 ≤ ar) (hQ : ∀ σ', FrI ar (ar + 1) σ σ' → (∀ (j : Nat) (x : Int), ((L.filter (isOf l)).map mSer)[j]? = some x → hI σ' ar j = x) → Q (some (Vi ((L.filter (isOf l)).length : Int))) σ') : WA G d k n mX4_serialsOf 0 [Va s, Vi l, Va ar, Vu, Vu] [] σ Q := by
  have hl17 := hL.1
  have loop : ∀ r i : Nat, ∀ σi, L.length - i = r → i ≤ L.length → FrI ar (ar + 1) σ σi → (∀ (j : Nat) (x : Int), (((L.take i).filter (isOf l)).map mSer)[j]? = some x → hI σi ar j = x) → WA G d k n mX4_serialsOf 5 [Va s, Vi l, Va ar, Vi (((L.take i).filter (isOf l)).length : Int), Vi (i : Int)] [] σi Q := by
    intro r
    induction r using Nat.strongRecOn with
    | ind r ih =>
    intro i σi hr hi hf hj
    have e2 : σi.2 = σ.2 := hf.1
    have hsk : sk σi = sk σ := by
      show σi.2.2.1 = _
      rw [e2]
    have hrr : hR σi = hR σ := by
      show σi.2.1 = _
      rw [e2]
    have hLi : RSm σi s L := hL.frm0 (fun b hb => hf.2 b (by omega)) (by rw [hrr])
    have hk : (sk σi s).1 = 5 := by rw [hsk]; exact hs.1
    have h5 := hLi.2.1
    have hk4 : sk σi (s + 4) = (12, 17) := by rw [hsk]; exact hs.2.2.2.2.1
    have hr4 : hR σi s 4 = some (s + 4) := by rw [hrr]; exact hs.2.2.2.2.2.2.2.2.2.2.1
    have hai : sk σi ar = (10, 17) := by rw [hsk]; exact ha
    refine ar_iload 7 rfl d_X4_serialsOf_5 rfl ?_
    refine ar_aload_n 8 rfl d_X4_serialsOf_7 rfl ?_
    refine ar_giv (y := (L.length : Int)) 11 rfl d_X4_serialsOf_8 fl_X4_47 rfl (by assumption) (by assumption) ?_
    refine ar_icmp_ge 56 14 rfl rfl d_X4_serialsOf_11 (by omega) (by omega) (fun g11 => ?_) (fun g11 => ?_)
    · refine ar_iload_n 57 rfl d_X4_serialsOf_56 rfl ?_
      refine WA.ret (some (Vi _)) ⟨d_X4_serialsOf_57, rfl, Or.inl rfl⟩ ?_
      rw [show i = L.length by omega, List.take_length] at hj ⊢
      exact hQ _ hf hj
    · have hlt : i < L.length := by omega
      have hx0 : L[i]? = some L[i] := List.getElem?_eq_getElem hlt
      obtain ⟨m1, hm1, hsh1, -, -⟩ := hL.at hs (i := i) (by omega)
      have hk1 : (sk σi m1).1 = 2 := by rw [hsk]; exact hsh1.1
      have hm1 : hR σi (s + 4) i = some m1 := by rw [hrr]; exact hm1
      have hRM1 := hLi.2.2.2.2 i _ m1 hx0 hm1
      have hw1 := hW _ (List.getElem_mem hlt)
      have htf := take_f (p := isOf l) hlt
      have hle : ((L.take i).filter (isOf l)).length ≤ i := Nat.le_trans (List.length_filter_le _ _) (by rw [List.length_take]; omega)
      refine ar_aload_n 15 rfl d_X4_serialsOf_14 rfl ?_
      refine ar_getA 18 rfl d_X4_serialsOf_15 fl_X4_26 rfl (by assumption) (by assumption) ?_
      refine ar_iload 20 rfl d_X4_serialsOf_18 rfl ?_
      refine ar_aalA 21 rfl d_X4_serialsOf_20 (by assumption) (by omega) (by omega) (by assumption) ?_
      refine ar_giv (y := (mLoaf L[i])) 24 rfl d_X4_serialsOf_21 fl_X4_70 rfl (by assumption) hRM1.1 ?_
      refine ar_iload_n 25 rfl d_X4_serialsOf_24 rfl ?_
      refine ar_icmp_ne 50 28 rfl rfl d_X4_serialsOf_25 (by omega) (by omega) (fun g25 => ?_) (fun g25 => ?_)
      · refine ar_inc_4 (y := ((i + 1 : Nat) : Int)) 53 rfl d_X4_serialsOf_50 rfl (by intro _ h; cases h) (by omega) ?_
        refine ar_goto 5 rfl d_X4_serialsOf_53 ?_
        rw [if_neg (by simp [isOf]; exact g25), List.append_nil] at htf
        rw [← htf] at hj ⊢
        exact ih (L.length - (i + 1)) (by omega) (i + 1) σi rfl (by omega) hf hj
      · refine ar_iload_n 29 rfl d_X4_serialsOf_28 rfl ?_
        refine ar_aload_n 30 rfl d_X4_serialsOf_29 rfl ?_
        refine ar_alen 31 rfl d_X4_serialsOf_30 (by assumption) (by omega) ?_
        refine ar_icmp_ge 50 34 rfl rfl d_X4_serialsOf_31 (by omega) (by omega) (fun h => by omega) (fun g31 => ?_)
        refine ar_aload_n 35 rfl d_X4_serialsOf_34 rfl ?_
        refine ar_iload_n 36 rfl d_X4_serialsOf_35 rfl ?_
        refine ar_aload_n 37 rfl d_X4_serialsOf_36 rfl ?_
        refine ar_getA 40 rfl d_X4_serialsOf_37 fl_X4_26 rfl (by assumption) (by assumption) ?_
        refine ar_iload 42 rfl d_X4_serialsOf_40 rfl ?_
        refine ar_aalA 43 rfl d_X4_serialsOf_42 (by assumption) (by omega) (by omega) (by assumption) ?_
        refine ar_giv (y := (mSer L[i])) 46 rfl d_X4_serialsOf_43 fl_X4_73 rfl (by assumption) hRM1.2.2.2.2.1 ?_
        refine ar_iasN ((L.take i).filter (isOf l)).length 47 rfl d_X4_serialsOf_46 (by assumption) (by omega) (by omega) ?_
        rw [if_pos (by simp [isOf]; exact g25)] at htf
        have hln : ((L.take (i + 1)).filter (isOf l)).length = ((L.take i).filter (isOf l)).length + 1 := by rw [htf]; simp
        refine ar_inc_3 (y := (((L.take (i + 1)).filter (isOf l)).length : Int)) 50 rfl d_X4_serialsOf_47 rfl (by intro _ h; cases h) (by omega) ?_
        refine ar_inc_4 (y := ((i + 1 : Nat) : Int)) 53 rfl d_X4_serialsOf_50 rfl (by intro _ h; cases h) (by omega) ?_
        refine ar_goto 5 rfl d_X4_serialsOf_53 ?_
        refine ih (L.length - (i + 1)) (by omega) (i + 1) _ rfl (by omega) (hf.tr (FrI.w (by omega) (by omega))) (fun j x hx => ?_)
        rw [htf, List.map_append] at hx
        rw [hI_w]
        by_cases e : j = ((L.take i).filter (isOf l)).length
        · rw [if_pos ⟨rfl, e⟩]
          subst e
          rw [List.getElem?_append_right (by rw [List.length_map]; omega), List.length_map, Nat.sub_self] at hx
          simpa using hx
        · rw [if_neg (by omega)]
          have hlt2 : j < ((L.take i).filter (isOf l)).length := by
            have := (List.getElem?_eq_some_iff.mp hx).1
            simp only [List.length_append, List.length_map, List.length_cons, List.length_nil] at this
            omega
          rw [List.getElem?_append_left (by rw [List.length_map]; exact hlt2)] at hx
          exact hj j x hx
  refine ar_iconst 1 rfl d_X4_serialsOf_0 ?_
  refine ar_ist_3 2 rfl d_X4_serialsOf_1 rfl (by intro _ h; cases h) ?_
  refine ar_iconst 3 rfl d_X4_serialsOf_2 ?_
  refine ar_ist_4 5 rfl d_X4_serialsOf_3 rfl (by intro _ h; cases h) ?_
  exact loop _ 0 σ rfl (by omega) FrI.rf (fun j x h => by simp at h)
def keepL (L : List Mem) (D : Mem) (ser : Int) (room : Nat) : List Mem := ((mLoaf D, mRes D, mSteps D, mUses D + 1, ser, mLk D) :: L).take room
set_option maxHeartbeats 4000000 in
theorem sp_X4_keepMemory {s room dm : Nat} {ser : Int} {L : List Mem} {D : Mem} (hs : ShS σ s) (hL : RSm σ s L) (hl16 : L.length ≤ 16) (hr0 : hI σ (s + 2) 0 = (room : Int)) (hr1 : 1 ≤ room ∧ room ≤ 16) (hser : hI σ s 6 = ser) (hz : ∀ M ∈ L, 0 < mSer M ∧ mSer M ≤ ser) (hs0 : 0 ≤ ser) (hD : RM σ dm D) (hDs : ShM σ dm) (hDl : (mLk D).length ≤ 18) (hdd : dm + 3 ≤ s ∨ s + 58 ≤ dm) (hdp : 2 ≤ d) (hQ : ∀ σ', FrM s (wI σ s 6 (ser + 1)) σ' → RSm σ' s (keepL L D (ser + 1) room) → OBJ s ser σ L σ' (keepL L D (ser + 1) room) → Q none σ') : WA G d k n mX4_keepMemory 0 [Va s, Va dm] [] σ Q := by
  obtain ⟨m1, hm1, hsh1, hlo, hhi⟩ := hL.at hs (i := L.length) (by omega)
  have hk := hs.1
  have hk4 : sk σ (s + 4) = (12, 17) := hs.2.2.2.2.1
  have hr4 : hR σ s 4 = some (s + 4) := hs.2.2.2.2.2.2.2.2.2.2.1
  have h5 := hL.2.1
  have hc6 : hI (wI σ s 6 (ser + 1)) s 5 = (L.length : Int) := by rw [hI_w, if_neg (by omega)]; exact h5
  refine ar_aload_n 1 rfl d_X4_keepMemory_0 rfl ?_
  refine ar_giv (y := (L.length : Int)) 4 rfl d_X4_keepMemory_1 fl_X4_47 rfl (by assumption) (by assumption) ?_
  refine ar_aload_n 5 rfl d_X4_keepMemory_4 rfl ?_
  refine ar_getA 8 rfl d_X4_keepMemory_5 fl_X4_26 rfl (by assumption) (by assumption) ?_
  refine ar_alen 9 rfl d_X4_keepMemory_8 (by assumption) (by omega) ?_
  refine ar_icmp_lt 13 12 rfl rfl d_X4_keepMemory_9 (by omega) (by omega) (fun g9 => ?_) (fun h => by omega)
  refine ar_aload_n 14 rfl d_X4_keepMemory_13 rfl ?_
  refine ar_dup 15 rfl d_X4_keepMemory_14 (fun _ => rfl) ?_
  refine ar_giv (y := ser) 18 rfl d_X4_keepMemory_15 fl_X4_54 rfl (by assumption) (by assumption) ?_
  refine ar_iconst 19 rfl d_X4_keepMemory_18 ?_
  refine ar_iadd 20 rfl d_X4_keepMemory_19 ?_
  refine ar_putI 23 rfl d_X4_keepMemory_20 fl_X4_54 rfl rfl (by assumption) ?_
  refine ar_aload_n 24 rfl d_X4_keepMemory_23 rfl ?_
  refine ar_getA 27 rfl d_X4_keepMemory_24 fl_X4_26 rfl (by assumption) (by assumption) ?_
  refine ar_aload_n 28 rfl d_X4_keepMemory_27 rfl ?_
  refine ar_giv (y := (L.length : Int)) 31 rfl d_X4_keepMemory_28 fl_X4_47 rfl (by assumption) hc6 ?_
  refine ar_aalA 32 rfl d_X4_keepMemory_31 (by assumption) (by omega) (by omega) hm1 ?_
  refine ar_aload_n 33 rfl d_X4_keepMemory_32 rfl ?_
  refine ar_callV0 (M' := mX1_copyFrom) (As := [_]) (ls' := [Va _, Vr _]) 36 rfl d_X4_keepMemory_33 ml_X4_50 mt_X1_copyFrom hsh1.1 rfl (Nat.le_of_ble_eq_true rfl) rfl (Nat.le_of_ble_eq_true rfl) (by omega) ?_
  refine sp_X1_copyFrom hsh1 hDs (RM.fr hD (FrI.w (lo := s) (hi := s + 1) (by omega) (by omega)) (by omega)) hDl (by omega) (by omega) (fun σ2 hf2 hM2 => ?_)
  have e2 : σ2.2 = σ.2 := hf2.1
  have hsk : sk σ2 = sk σ := by
    show σ2.2.2.1 = _
    rw [e2]
  have hrr : hR σ2 = hR σ := by
    show σ2.2.1 = _
    rw [e2]
  have hk : (sk σ2 s).1 = 5 := by rw [hsk]; exact hs.1
  have hk4 : sk σ2 (s + 4) = (12, 17) := by rw [hsk]; exact hs.2.2.2.2.1
  have hr4 : hR σ2 s 4 = some (s + 4) := by rw [hrr]; exact hs.2.2.2.2.2.2.2.2.2.2.1
  have hc5 : hI σ2 s 5 = (L.length : Int) := by rw [hf2.2 s (by omega)]; exact hc6
  have hc7 : hI σ2 s 6 = ser + 1 := by rw [hf2.2 s (by omega), hI_w, if_pos ⟨rfl, rfl⟩]
  have hk1 : (sk σ2 m1).1 = 2 := by rw [hsk]; exact hsh1.1
  have hm2 : hR σ2 (s + 4) L.length = some m1 := by rw [hrr]; exact hm1
  refine ar_aload_n 37 rfl d_X4_keepMemory_36 rfl ?_
  refine ar_getA 40 rfl d_X4_keepMemory_37 fl_X4_26 rfl (by assumption) (by assumption) ?_
  refine ar_aload_n 41 rfl d_X4_keepMemory_40 rfl ?_
  refine ar_giv (y := (L.length : Int)) 44 rfl d_X4_keepMemory_41 fl_X4_47 rfl (by assumption) (by assumption) ?_
  refine ar_aalA 45 rfl d_X4_keepMemory_44 (by assumption) (by omega) (by omega) hm2 ?_
  refine ar_aload_n 46 rfl d_X4_keepMemory_45 rfl ?_
  refine ar_giv (y := (ser + 1)) 49 rfl d_X4_keepMemory_46 fl_X4_54 rfl (by assumption) (by assumption) ?_
  refine ar_putI 52 rfl d_X4_keepMemory_49 fl_X4_73 rfl rfl (by assumption) ?_
  refine ar_aload_n 53 rfl d_X4_keepMemory_52 rfl ?_
  refine ar_dup 54 rfl d_X4_keepMemory_53 (fun _ => rfl) ?_
  refine ar_giv (y := (L.length : Int)) 57 rfl d_X4_keepMemory_54 fl_X4_47 rfl (by assumption) (by rw [hI_w, if_neg (by omega)]; exact hc5) ?_
  refine ar_iconst 58 rfl d_X4_keepMemory_57 ?_
  refine ar_iadd 59 rfl d_X4_keepMemory_58 ?_
  refine ar_top (y := ((L.length + 1 : Nat) : Int)) (by omega) ?_
  refine ar_putI 62 rfl d_X4_keepMemory_59 fl_X4_47 rfl rfl (by assumption) ?_
  have hf4 : FrM s (wI σ s 6 (ser + 1)) (wI (wI σ2 m1 4 (ser + 1)) s 5 ((L.length + 1 : Nat) : Int)) := ((FrM.i hf2 (by omega) (by omega)).tr (FrM.w (by omega))).tr (FrM.w (by omega))
  have hs4 : ShS (wI (wI σ2 m1 4 (ser + 1)) s 5 ((L.length + 1 : Nat) : Int)) s := ShS.frm (σ := wI σ s 6 (ser + 1)) hs hf4
  have hold : ∀ (i : Nat) (M : Mem) (m : Nat), L[i]? = some M → hR σ (s + 4) i = some m → RM (wI (wI σ2 m1 4 (ser + 1)) s 5 ((L.length + 1 : Nat) : Int)) m M := by
    intro i M m hM hm
    have hi := (List.getElem?_eq_some_iff.mp hM).1
    have hsep := hL.sep (i := i) (j := L.length) (by omega) (by omega) hm hm1 (by omega)
    obtain ⟨m9, hm9, -, hlo9, hhi9⟩ := hL.at hs (i := i) (by omega)
    have e9 : m9 = m := Option.some.inj (hm9.symm.trans hm)
    subst e9
    have g0 := hL.2.2.2.2 i M m9 hM hm
    have g1 := RM.fr g0 (FrI.w (lo := s) (hi := s + 1) (j := 6) (x := ser + 1) (a := s) (by omega) (by omega)) (by omega)
    have g2 := RM.fr g1 hf2 (by omega)
    have g3 := RM.fr g2 (FrI.w (lo := m1) (hi := m1 + 3) (j := 4) (x := ser + 1) (a := m1) (by omega) (by omega)) (by omega)
    exact RM.fr g3 (FrI.w (lo := s) (hi := s + 1) (j := 5) (x := ((L.length + 1 : Nat) : Int)) (a := s) (by omega) (by omega)) (by omega)
  have hL4 : RSm (wI (wI σ2 m1 4 (ser + 1)) s 5 ((L.length + 1 : Nat) : Int)) s (L ++ [(mLoaf D, mRes D, mSteps D, mUses D, ser + 1, mLk D)]) := by
    refine RSm.perm (fun i => i) hL (fun i hi => hi) (fun i j _ _ e => e) (fun i _ => ?_) (by simp; omega) (by rw [hI_w, if_pos ⟨rfl, rfl⟩]; simp) (fun i M m h1 h2 => ?_)
    · show hR σ2 (s + 4) i = _
      rw [hrr]
    · have h2 : hR σ (s + 4) i = some m := h2
      by_cases e : i < L.length
      · rw [List.getElem?_append_left e] at h1
        exact hold i M m h1 h2
      · have hi := (List.getElem?_eq_some_iff.mp h1).1
        have e3 : i = L.length := by
          simp at hi
          omega
        subst e3
        rw [List.getElem?_append_right (Nat.le_refl _), Nat.sub_self] at h1
        simp only [List.getElem?_cons_zero] at h1
        cases h1
        cases hm1.symm.trans h2
        obtain ⟨q0, q1, q2, q3, q4, q5, q6⟩ := hM2
        refine ⟨?_, ?_, ?_, ?_, ?_, ?_, fun j x hx => ?_⟩
        · rw [hI_w, if_neg (by omega), hI_w, if_neg (by omega)]; exact q0
        · rw [hI_w, if_neg (by omega), hI_w, if_neg (by omega)]; exact q1
        · rw [hI_w, if_neg (by omega), hI_w, if_neg (by omega)]; exact q2
        · rw [hI_w, if_neg (by omega), hI_w, if_neg (by omega)]; exact q3
        · rw [hI_w, if_neg (by omega), hI_w, if_pos ⟨rfl, rfl⟩]
        · rw [hI_w, if_neg (by omega), hI_w, if_neg (by omega)]; exact q5
        · have := q6 j x hx
          refine ⟨?_, ?_⟩
          · rw [hI_w, if_neg (by omega), hI_w, if_neg (by omega)]; exact this.1
          · rw [hI_w, if_neg (by omega), hI_w, if_neg (by omega)]; exact this.2
  have ho4 : OBJ s ser σ L (wI (wI σ2 m1 4 (ser + 1)) s 5 ((L.length + 1 : Nat) : Int)) (L ++ [(mLoaf D, mRes D, mSteps D, mUses D, ser + 1, mLk D)]) := by
    have h46 : hI (wI (wI σ2 m1 4 (ser + 1)) s 5 ((L.length + 1 : Nat) : Int)) s 6 = ser + 1 := by rw [hI_w, if_neg (by omega), hI_w, if_neg (by omega)]; exact hc7
    refine ⟨fun i M' m h1 h2 h3 => ?_, fun p hp => ?_, fun j M m h1 h2 h3 => ?_, by omega⟩
    · by_cases e : i < L.length
      · rw [List.getElem?_append_left e] at h1
        exact ⟨i, M', h1, by rw [← h2]; show _ = hR σ2 (s + 4) i; rw [hrr], mSame.rf M'⟩
      · have hi := (List.getElem?_eq_some_iff.mp h1).1
        have e3 : i = L.length := by
          simp at hi
          omega
        subst e3
        rw [List.getElem?_append_right (Nat.le_refl _), Nat.sub_self] at h1
        simp only [List.getElem?_cons_zero] at h1
        cases h1
        have h3 : ser + 1 ≤ ser := h3
        omega
    · by_cases e : s + 7 + 3 * p = m1
      · refine Or.inr (Or.inr ?_)
        have e9 : hI (wI (wI σ2 m1 4 (ser + 1)) s 5 ((L.length + 1 : Nat) : Int)) (s + 7 + 3 * p) 4 = ser + 1 := by rw [hI_w, if_neg (by omega), hI_w, if_pos ⟨e, rfl⟩]
        omega
      · refine Or.inl ?_
        rw [hI_w, if_neg (by omega), hI_w, if_neg (by omega)]
        obtain ⟨p1, hp1, e1⟩ := hL.2.2.1 L.length (by omega)
        rw [hm1] at e1
        cases e1
        rw [hf2.2 _ (by omega), hI_w, if_neg (by omega)]
    · have hj := (List.getElem?_eq_some_iff.mp h1).1
      exact ⟨j, M, by rw [List.getElem?_append_left hj]; exact h1, by rw [← h2]; show hR σ2 (s + 4) j = _; rw [hrr], mSame.rf M⟩
  have hu4 : useL (L ++ [(mLoaf D, mRes D, mSteps D, mUses D, ser + 1, mLk D)]) L.length = (mLoaf D, mRes D, mSteps D, mUses D + 1, ser + 1, mLk D) :: L := by
    unfold useL
    rw [List.getElem?_append_right (Nat.le_refl _), Nat.sub_self]
    simp only [List.getElem?_cons_zero]
    have : (L ++ [((mLoaf D, mRes D, mSteps D, mUses D, ser + 1, mLk D) : Mem)]).eraseIdx L.length = L := by
      rw [List.eraseIdx_append_of_length_le (Nat.le_refl _), Nat.sub_self]
      simp
    rw [this]
    rfl
  have hk4' := hs4.1
  refine ar_aload_n 63 rfl d_X4_keepMemory_62 rfl ?_
  refine ar_aload_n 64 rfl d_X4_keepMemory_63 rfl ?_
  refine ar_giv (y := ((L.length + 1 : Nat) : Int)) 67 rfl d_X4_keepMemory_64 fl_X4_47 rfl hk4' (hL4.2.1.trans (by simp)) ?_
  refine ar_iconst 68 rfl d_X4_keepMemory_67 ?_
  refine ar_isub 69 rfl d_X4_keepMemory_68 ?_
  refine ar_top (y := (L.length : Int)) (by omega) ?_
  refine ar_callV0 (M' := mX4_use) (As := [_]) (ls' := [Va _, Vi _, Vu, Vu]) 72 rfl d_X4_keepMemory_69 ml_X4_79 mt_X4_use hk4' rfl (Nat.le_of_ble_eq_true rfl) rfl (Nat.le_of_ble_eq_true rfl) (by omega) ?_
  refine sp_X4_use hs4 hL4 (by simp) (fun σ5 hf5 hL5 hρ5 hm5 => ?_)
  have ho5 := obj_use (z := ser) hL4 (by simp) hρ5 hm5 (hf5.2.2.2.2 6 (by omega))
  rw [hu4] at hL5 ho5
  have hs5 := hs4.frm hf5
  have hk5 := hs5.1
  have hr5 : hI σ5 (s + 2) 0 = (room : Int) := by rw [hf5.2.2.2.1 _ (by omega), hf4.2.2.2.1 _ (by omega), hI_w, if_neg (by omega)]; exact hr0
  have hz5 : ∀ M ∈ ((mLoaf D, mRes D, mSteps D, mUses D + 1, ser + 1, mLk D) : Mem) :: L, 0 < mSer M ∧ mSer M ≤ ser + 1 := by
    intro M hM
    rcases List.mem_cons.mp hM with e | e
    · subst e
      show 0 < ser + 1 ∧ ser + 1 ≤ ser + 1
      omega
    · have := hz M e
      omega
  refine ar_aload_n 73 rfl d_X4_keepMemory_72 rfl ?_
  refine ar_callV0 (M' := mX4_dropBeyondRoom) (As := []) (ls' := [Va _, Vu]) 76 rfl d_X4_keepMemory_73 ml_X4_83 mt_X4_dropBeyondRoom hk5 rfl (Nat.le_of_ble_eq_true rfl) rfl (Nat.le_of_ble_eq_true rfl) (by omega) ?_
  refine sp_X4_dropBeyondRoom (z := ser + 1) hs5 hL5 hr5 hr1 (by omega) hz5 (fun σ6 hf6 hL6 ho6 => ?_)
  refine WA.ret none ⟨d_X4_keepMemory_76, rfl, rfl⟩ ?_
  exact hQ _ ((hf4.tr hf5).tr hf6) hL6 ((ho4.tr ho5 (Int.le_refl _) hL hz).tr ho6 (by omega) hL hz)
end STN
