-- ===== what the heap says: memories =====
abbrev Mem : Type := Int × Int × Int × Int × Int × List (Int × Int)
abbrev mLoaf (M : Mem) : Int := M.1
abbrev mRes (M : Mem) : Int := M.2.1
abbrev mSteps (M : Mem) : Int := M.2.2.1
abbrev mUses (M : Mem) : Int := M.2.2.2.1
abbrev mSer (M : Mem) : Int := M.2.2.2.2.1
abbrev mLk (M : Mem) : List (Int × Int) := M.2.2.2.2.2
/-- the fixed parts of a memory's object: two rows of its own behind it -/
def ShM (σ : Sg) (m : Nat) : Prop := (sk σ m).1 = 2 ∧ sk σ (m + 1) = (10, 18) ∧ sk σ (m + 2) = (10, 18) ∧ hR σ m 6 = some (m + 1) ∧ hR σ m 7 = some (m + 2)
def RM (σ : Sg) (m : Nat) (M : Mem) : Prop := hI σ m 0 = mLoaf M ∧ hI σ m 1 = mRes M ∧ hI σ m 2 = mSteps M ∧ hI σ m 3 = mUses M ∧ hI σ m 4 = mSer M ∧ hI σ m 5 = ((mLk M).length : Int) ∧ ∀ i x, (mLk M)[i]? = some x → hI σ (m + 1) i = x.1 ∧ hI σ (m + 2) i = x.2
/-- only ints of the cells lo to hi - 1 change -/
def FrI (lo hi : Nat) (σ σ' : Sg) : Prop := σ'.2 = σ.2 ∧ ∀ b, (b < lo ∨ hi ≤ b) → hI σ' b = hI σ b
theorem FrI.rf {lo hi : Nat} {σ : Sg} : FrI lo hi σ σ := ⟨rfl, fun _ _ => rfl⟩
theorem FrI.tr {lo hi : Nat} {σ σ1 σ2 : Sg} (h : FrI lo hi σ σ1) (h2 : FrI lo hi σ1 σ2) : FrI lo hi σ σ2 := ⟨h2.1.trans h.1, fun b hb => (h2.2 b hb).trans (h.2 b hb)⟩
theorem FrI.w {lo hi : Nat} {σ : Sg} {a j : Nat} {x : Int} (h1 : lo ≤ a) (h2 : a < hi) : FrI lo hi σ (wI σ a j x) := ⟨rfl, fun b hb => by
  funext i
  show (if b = a ∧ i = j then x else σ.1 b i) = σ.1 b i
  rw [if_neg (by omega)]⟩
theorem FrI.c {lo hi : Nat} {σ : Sg} {a sp b dp n : Nat} (h1 : lo ≤ b) (h2 : b < hi) : FrI lo hi σ (cI σ a sp b dp n) := ⟨rfl, fun c hc => by
  funext i
  show (if c = b ∧ dp ≤ i ∧ i < dp + n then σ.1 a (sp + (i - dp)) else σ.1 c i) = σ.1 c i
  rw [if_neg (by omega)]⟩
theorem FrI.sub {lo hi lo' hi' : Nat} {σ σ' : Sg} (h : FrI lo hi σ σ') (h1 : lo' ≤ lo) (h2 : hi ≤ hi') : FrI lo' hi' σ σ' := ⟨h.1, fun b hb => h.2 b (by omega)⟩
theorem hI_w (σ : Sg) (a j : Nat) (x : Int) (b i : Nat) : hI (wI σ a j x) b i = if b = a ∧ i = j then x else hI σ b i := rfl
theorem hI_wR (σ : Sg) (a j : Nat) (r : Option Nat) : hI (wR σ a j r) = hI σ := rfl
theorem hR_w (σ : Sg) (a j : Nat) (r : Option Nat) (b i : Nat) : hR (wR σ a j r) b i = if b = a ∧ i = j then r else hR σ b i := rfl
theorem hR_wI (σ : Sg) (a j : Nat) (x : Int) : hR (wI σ a j x) = hR σ := rfl
theorem hI_c (σ : Sg) (a sp b dp n c i : Nat) : hI (cI σ a sp b dp n) c i = if c = b ∧ dp ≤ i ∧ i < dp + n then hI σ a (sp + (i - dp)) else hI σ c i := rfl
theorem ShM.fr {σ σ' : Sg} {m : Nat} (h : ShM σ m) (e : σ'.2 = σ.2) : ShM σ' m := by
  unfold ShM at h ⊢
  unfold sk hR at h ⊢
  rw [e]
  exact h
theorem RM.fr {σ σ' : Sg} {m lo hi : Nat} {M : Mem} (h : RM σ m M) (hf : FrI lo hi σ σ') (hd : m + 3 ≤ lo ∨ hi ≤ m) : RM σ' m M := by
  unfold RM at h ⊢
  rw [hf.2 m (by omega), hf.2 (m + 1) (by omega), hf.2 (m + 2) (by omega)]
  exact h
-- small tests
section SMALL
variable {G : GT} {d k n : Nat} {σ : Sg} {Q : Option AV → Sg → Prop}
theorem sp_X5_isShelf {x : Int} (hx : i32 x) (hq1 : 0 ≤ x ∧ x < 12 → Q (some (Vi 1)) σ) (hq0 : ¬ (0 ≤ x ∧ x < 12) → Q (some (Vi 0)) σ) : WA G d k n mX5_isShelf 0 [Vi x] [] σ Q := by
  refine ar_iload_n 1 rfl d_X5_isShelf_0 rfl ?_
  refine ar_if_lt 14 4 rfl rfl d_X5_isShelf_1 (by omega) (fun g1 => ?_) (fun g1 => ?_)
  · refine ar_iconst 15 rfl d_X5_isShelf_14 ?_
    refine WA.ret (some (Vi _)) ⟨d_X5_isShelf_15, rfl, Or.inr ⟨rfl, Or.inl rfl⟩⟩ ?_
    first | exact hq1 (by omega) | exact hq0 (by omega)
  · refine ar_iload_n 5 rfl d_X5_isShelf_4 rfl ?_
    refine ar_bipush 7 rfl d_X5_isShelf_5 rfl ?_
    refine ar_icmp_ge 14 10 rfl rfl d_X5_isShelf_7 (by omega) (by omega) (fun g7 => ?_) (fun g7 => ?_)
    · refine ar_iconst 15 rfl d_X5_isShelf_14 ?_
      refine WA.ret (some (Vi _)) ⟨d_X5_isShelf_15, rfl, Or.inr ⟨rfl, Or.inl rfl⟩⟩ ?_
      first | exact hq1 (by omega) | exact hq0 (by omega)
    · refine ar_iconst 11 rfl d_X5_isShelf_10 ?_
      refine ar_goto 15 rfl d_X5_isShelf_11 ?_
      refine WA.ret (some (Vi _)) ⟨d_X5_isShelf_15, rfl, Or.inr ⟨rfl, (by omega)⟩⟩ ?_
      first | exact hq1 (by omega) | exact hq0 (by omega)
theorem sp_X5_isLoaf {x : Int} (hx : i32 x) (hq1 : 0 ≤ x ∧ x < 6 → Q (some (Vi 1)) σ) (hq0 : ¬ (0 ≤ x ∧ x < 6) → Q (some (Vi 0)) σ) : WA G d k n mX5_isLoaf 0 [Vi x] [] σ Q := by
  refine ar_iload_n 1 rfl d_X5_isLoaf_0 rfl ?_
  refine ar_if_lt 14 4 rfl rfl d_X5_isLoaf_1 (by omega) (fun g1 => ?_) (fun g1 => ?_)
  · refine ar_iconst 15 rfl d_X5_isLoaf_14 ?_
    refine WA.ret (some (Vi _)) ⟨d_X5_isLoaf_15, rfl, Or.inr ⟨rfl, Or.inl rfl⟩⟩ ?_
    first | exact hq1 (by omega) | exact hq0 (by omega)
  · refine ar_iload_n 5 rfl d_X5_isLoaf_4 rfl ?_
    refine ar_bipush 7 rfl d_X5_isLoaf_5 rfl ?_
    refine ar_icmp_ge 14 10 rfl rfl d_X5_isLoaf_7 (by omega) (by omega) (fun g7 => ?_) (fun g7 => ?_)
    · refine ar_iconst 15 rfl d_X5_isLoaf_14 ?_
      refine WA.ret (some (Vi _)) ⟨d_X5_isLoaf_15, rfl, Or.inr ⟨rfl, Or.inl rfl⟩⟩ ?_
      first | exact hq1 (by omega) | exact hq0 (by omega)
    · refine ar_iconst 11 rfl d_X5_isLoaf_10 ?_
      refine ar_goto 15 rfl d_X5_isLoaf_11 ?_
      refine WA.ret (some (Vi _)) ⟨d_X5_isLoaf_15, rfl, Or.inr ⟨rfl, (by omega)⟩⟩ ?_
      first | exact hq1 (by omega) | exact hq0 (by omega)
theorem sp_X5_isNumber {x : Int} (hx : i32 x) (hq1 : 0 ≤ x ∧ x < 100 → Q (some (Vi 1)) σ) (hq0 : ¬ (0 ≤ x ∧ x < 100) → Q (some (Vi 0)) σ) : WA G d k n mX5_isNumber 0 [Vi x] [] σ Q := by
  refine ar_iload_n 1 rfl d_X5_isNumber_0 rfl ?_
  refine ar_if_lt 14 4 rfl rfl d_X5_isNumber_1 (by omega) (fun g1 => ?_) (fun g1 => ?_)
  · refine ar_iconst 15 rfl d_X5_isNumber_14 ?_
    refine WA.ret (some (Vi _)) ⟨d_X5_isNumber_15, rfl, Or.inr ⟨rfl, Or.inl rfl⟩⟩ ?_
    first | exact hq1 (by omega) | exact hq0 (by omega)
  · refine ar_iload_n 5 rfl d_X5_isNumber_4 rfl ?_
    refine ar_bipush 7 rfl d_X5_isNumber_5 rfl ?_
    refine ar_icmp_ge 14 10 rfl rfl d_X5_isNumber_7 (by omega) (by omega) (fun g7 => ?_) (fun g7 => ?_)
    · refine ar_iconst 15 rfl d_X5_isNumber_14 ?_
      refine WA.ret (some (Vi _)) ⟨d_X5_isNumber_15, rfl, Or.inr ⟨rfl, Or.inl rfl⟩⟩ ?_
      first | exact hq1 (by omega) | exact hq0 (by omega)
    · refine ar_iconst 11 rfl d_X5_isNumber_10 ?_
      refine ar_goto 15 rfl d_X5_isNumber_11 ?_
      refine WA.ret (some (Vi _)) ⟨d_X5_isNumber_15, rfl, Or.inr ⟨rfl, (by omega)⟩⟩ ?_
      first | exact hq1 (by omega) | exact hq0 (by omega)
theorem sp_X5_isSlot {x : Int} (hx : i32 x) (hq1 : 0 ≤ x ∧ x < 2 → Q (some (Vi 1)) σ) (hq0 : ¬ (0 ≤ x ∧ x < 2) → Q (some (Vi 0)) σ) : WA G d k n mX5_isSlot 0 [Vi x] [] σ Q := by
  refine ar_iload_n 1 rfl d_X5_isSlot_0 rfl ?_
  refine ar_if_lt 13 4 rfl rfl d_X5_isSlot_1 (by omega) (fun g1 => ?_) (fun g1 => ?_)
  · refine ar_iconst 14 rfl d_X5_isSlot_13 ?_
    refine WA.ret (some (Vi _)) ⟨d_X5_isSlot_14, rfl, Or.inr ⟨rfl, Or.inl rfl⟩⟩ ?_
    first | exact hq1 (by omega) | exact hq0 (by omega)
  · refine ar_iload_n 5 rfl d_X5_isSlot_4 rfl ?_
    refine ar_iconst 6 rfl d_X5_isSlot_5 ?_
    refine ar_icmp_ge 13 9 rfl rfl d_X5_isSlot_6 (by omega) (by omega) (fun g6 => ?_) (fun g6 => ?_)
    · refine ar_iconst 14 rfl d_X5_isSlot_13 ?_
      refine WA.ret (some (Vi _)) ⟨d_X5_isSlot_14, rfl, Or.inr ⟨rfl, Or.inl rfl⟩⟩ ?_
      first | exact hq1 (by omega) | exact hq0 (by omega)
    · refine ar_iconst 10 rfl d_X5_isSlot_9 ?_
      refine ar_goto 14 rfl d_X5_isSlot_10 ?_
      refine WA.ret (some (Vi _)) ⟨d_X5_isSlot_14, rfl, Or.inr ⟨rfl, (by omega)⟩⟩ ?_
      first | exact hq1 (by omega) | exact hq0 (by omega)
end SMALL
section MEMM
variable {G : GT} {d k n : Nat} {σ : Sg} {Q : Option AV → Sg → Prop}
theorem sp_X1_begin {m : Nat} {l : Int} (hs : ShM σ m) (hQ : ∀ σ', FrI m (m + 3) σ σ' → RM σ' m (l, 100, 0, 0, 0, []) → Q none σ') : WA G d k n mX1_begin 0 [Va m, Vi l] [] σ Q := by
  have hk := hs.1
  refine ar_aload_n 1 rfl d_X1_begin_0 rfl ?_
  refine ar_iload_n 2 rfl d_X1_begin_1 rfl ?_
  refine ar_putI 5 rfl d_X1_begin_2 fl_X1_18 rfl rfl hk ?_
  refine ar_aload_n 6 rfl d_X1_begin_5 rfl ?_
  refine ar_bipush 8 rfl d_X1_begin_6 rfl ?_
  refine ar_putI 11 rfl d_X1_begin_8 fl_X1_22 rfl rfl hk ?_
  refine ar_aload_n 12 rfl d_X1_begin_11 rfl ?_
  refine ar_iconst 13 rfl d_X1_begin_12 ?_
  refine ar_putI 16 rfl d_X1_begin_13 fl_X1_25 rfl rfl hk ?_
  refine ar_aload_n 17 rfl d_X1_begin_16 rfl ?_
  refine ar_iconst 18 rfl d_X1_begin_17 ?_
  refine ar_putI 21 rfl d_X1_begin_18 fl_X1_28 rfl rfl hk ?_
  refine ar_aload_n 22 rfl d_X1_begin_21 rfl ?_
  refine ar_iconst 23 rfl d_X1_begin_22 ?_
  refine ar_putI 26 rfl d_X1_begin_23 fl_X1_31 rfl rfl hk ?_
  refine ar_aload_n 27 rfl d_X1_begin_26 rfl ?_
  refine ar_iconst 28 rfl d_X1_begin_27 ?_
  refine ar_putI 31 rfl d_X1_begin_28 fl_X1_34 rfl rfl hk ?_
  refine WA.ret none ⟨d_X1_begin_31, rfl, rfl⟩ ?_
  refine hQ _ ?_ ?_
  · refine (((((FrI.w (by omega) (by omega)).tr (FrI.w (by omega) (by omega))).tr (FrI.w (by omega) (by omega))).tr (FrI.w (by omega) (by omega))).tr (FrI.w (by omega) (by omega))).tr (FrI.w (by omega) (by omega))
  · refine ⟨?_, ?_, ?_, ?_, ?_, ?_, fun i x h => by simp [mLk] at h⟩ <;> simp [hI_w, mLoaf, mRes, mSteps, mUses, mSer, mLk]
theorem sp_X1_addLook {m : Nat} {key v : Int} {M : Mem} (hs : ShM σ m) (hM : RM σ m M) (hl : (mLk M).length < 18) (hQ : ∀ σ', FrI m (m + 3) σ σ' → RM σ' m (mLoaf M, mRes M, mSteps M, mUses M, mSer M, mLk M ++ [(key, v)]) → Q none σ') : WA G d k n mX1_addLook 0 [Va m, Vi key, Vi v] [] σ Q := by
  obtain ⟨hk, hk1, hk2, hr1, hr2⟩ := hs
  obtain ⟨m0, m1, m2, m3, m4, m5, m6⟩ := hM
  have e1 : ∀ x, hI (wI σ (m + 1) (mLk M).length x) m 5 = ((mLk M).length : Int) := fun x => by rw [hI_w, if_neg (by omega)]; exact m5
  have e2 : ∀ x y, hI (wI (wI σ (m + 1) (mLk M).length x) (m + 2) (mLk M).length y) m 5 = ((mLk M).length : Int) := fun x y => by rw [hI_w, if_neg (by omega)]; exact e1 x
  refine ar_aload_n 1 rfl d_X1_addLook_0 rfl ?_
  refine ar_giv (y := ((mLk M).length : Int)) 4 rfl d_X1_addLook_1 fl_X1_34 rfl (by assumption) (by assumption) ?_
  refine ar_bipush 6 rfl d_X1_addLook_4 rfl ?_
  refine ar_icmp_ge 39 9 rfl rfl d_X1_addLook_6 (by omega) (by omega) (fun h => by omega) (fun g6 => ?_)
  refine ar_aload_n 10 rfl d_X1_addLook_9 rfl ?_
  refine ar_getA 13 rfl d_X1_addLook_10 fl_X1_9 rfl (by assumption) (by assumption) ?_
  refine ar_aload_n 14 rfl d_X1_addLook_13 rfl ?_
  refine ar_giv (y := ((mLk M).length : Int)) 17 rfl d_X1_addLook_14 fl_X1_34 rfl (by assumption) (by assumption) ?_
  refine ar_iload_n 18 rfl d_X1_addLook_17 rfl ?_
  refine ar_iasN (mLk M).length 19 rfl d_X1_addLook_18 (by assumption) (by omega) (by omega) ?_
  refine ar_aload_n 20 rfl d_X1_addLook_19 rfl ?_
  refine ar_getA 23 rfl d_X1_addLook_20 fl_X1_15 rfl (by assumption) (by assumption) ?_
  refine ar_aload_n 24 rfl d_X1_addLook_23 rfl ?_
  refine ar_giv (y := ((mLk M).length : Int)) 27 rfl d_X1_addLook_24 fl_X1_34 rfl (by assumption) (e1 _) ?_
  refine ar_iload_n 28 rfl d_X1_addLook_27 rfl ?_
  refine ar_iasN (mLk M).length 29 rfl d_X1_addLook_28 (by assumption) (by omega) (by omega) ?_
  refine ar_aload_n 30 rfl d_X1_addLook_29 rfl ?_
  refine ar_dup 31 rfl d_X1_addLook_30 (fun _ => rfl) ?_
  refine ar_giv (y := ((mLk M).length : Int)) 34 rfl d_X1_addLook_31 fl_X1_34 rfl (by assumption) (e2 _ _) ?_
  refine ar_iconst 35 rfl d_X1_addLook_34 ?_
  refine ar_iadd 36 rfl d_X1_addLook_35 ?_
  refine ar_putI 39 rfl d_X1_addLook_36 fl_X1_34 rfl rfl (by assumption) ?_
  refine WA.ret none ⟨d_X1_addLook_39, rfl, rfl⟩ ?_
  refine hQ _ ?_ ?_
  · exact ((FrI.w (by omega) (by omega)).tr (FrI.w (by omega) (by omega))).tr (FrI.w (by omega) (by omega))
  · refine ⟨?_, ?_, ?_, ?_, ?_, ?_, fun i x h => ?_⟩
    · simpa [hI_w] using m0
    · simpa [hI_w] using m1
    · simpa [hI_w] using m2
    · simpa [hI_w] using m3
    · simpa [hI_w] using m4
    · simp [hI_w, mLk]
    · by_cases e : i = (mLk M).length
      · subst e
        simp [mLk] at h
        subst h
        simp [hI_w]
      · have hi : i < (mLk M).length := by
          have h8 : i < (mLk M ++ [(key, v)]).length := (List.getElem?_eq_some_iff.mp h).1
          rw [List.length_append] at h8
          simp only [List.length_cons, List.length_nil] at h8
          omega
        have h : (mLk M ++ [(key, v)])[i]? = some x := h
        rw [List.getElem?_append_left hi] at h
        have := m6 i x h
        simpa [hI_w, e] using this
/-- the first place of a key in a row of looks -/
def fk (l : List (Int × Int)) (w : Int) : Option Nat := l.findIdx? (fun x => x.1 == w)
theorem sp_X1_placeOfLook {m : Nat} {w : Int} {M : Mem} (hs : ShM σ m) (hM : RM σ m M) (hl : (mLk M).length ≤ 18) (hw : i32 w) (hk : ∀ x ∈ mLk M, i32 x.1) (hQ : ∀ (i : Nat) (x : Int × Int), (mLk M)[i]? = some x → x.1 = w → (∀ (j : Nat) (y : Int × Int), j < i → (mLk M)[j]? = some y → y.1 ≠ w) → Q (some (Vi (i : Int))) σ) (hN : (∀ x ∈ mLk M, x.1 ≠ w) → Q (some (Vi (-1))) σ) : WA G d k n mX1_placeOfLook 0 [Va m, Vi w, Vu] [] σ Q := by
  obtain ⟨hk0, hk1, hk2, hr1, hr2⟩ := hs
  obtain ⟨m0, m1, m2, m3, m4, m5, m6⟩ := hM
  have loop : ∀ r i : Nat, (mLk M).length - i = r → i ≤ (mLk M).length → (∀ (j : Nat) (y : Int × Int), j < i → (mLk M)[j]? = some y → y.1 ≠ w) → WA G d k n mX1_placeOfLook 2 [Va m, Vi w, Vi (i : Int)] [] σ Q := by
    intro r
    induction r using Nat.strongRecOn with
    | ind r ih =>
    intro i hr hi hj
    refine ar_iload_n 3 rfl d_X1_placeOfLook_2 rfl ?_
    refine ar_aload_n 4 rfl d_X1_placeOfLook_3 rfl ?_
    refine ar_giv (y := ((mLk M).length : Int)) 7 rfl d_X1_placeOfLook_4 fl_X1_34 rfl (by assumption) (by assumption) ?_
    refine ar_icmp_ge 28 10 rfl rfl d_X1_placeOfLook_7 (by omega) (by omega) (fun g7 => ?_) (fun g7 => ?_)
    · refine ar_iconst 29 rfl d_X1_placeOfLook_28 ?_
      refine WA.ret (some (Vi _)) ⟨d_X1_placeOfLook_29, rfl, Or.inl rfl⟩ ?_
      refine hN fun x hx => ?_
      obtain ⟨j, hj2⟩ := List.getElem?_of_mem hx
      exact hj j x (by have := (List.getElem?_eq_some_iff.mp hj2).1; omega) hj2
    · have hlt : i < (mLk M).length := by omega
      have hx0 : (mLk M)[i]? = some (mLk M)[i] := List.getElem?_eq_getElem hlt
      have hx1 := m6 i _ hx0
      have hx2 := hk _ (List.getElem_mem hlt)
      refine ar_aload_n 11 rfl d_X1_placeOfLook_10 rfl ?_
      refine ar_getA 14 rfl d_X1_placeOfLook_11 fl_X1_9 rfl (by assumption) (by assumption) ?_
      refine ar_iload_n 15 rfl d_X1_placeOfLook_14 rfl ?_
      refine ar_ilv (y := ((mLk M)[i].1)) 16 rfl d_X1_placeOfLook_15 (by assumption) (by omega) (by simpa using hx1.1) ?_
      refine ar_iload_n 17 rfl d_X1_placeOfLook_16 rfl ?_
      refine ar_icmp_ne 22 20 rfl rfl d_X1_placeOfLook_17 (by omega) (by omega) (fun g17 => ?_) (fun g17 => ?_)
      · refine ar_inc_2 (y := ((i + 1 : Nat) : Int)) 25 rfl d_X1_placeOfLook_22 rfl (by intro _ h; cases h) (by omega) ?_
        refine ar_goto 2 rfl d_X1_placeOfLook_25 ?_
        exact ih ((mLk M).length - (i + 1)) (by omega) (i + 1) rfl (by omega) (fun j y hj2 hj3 => by
          by_cases e : j = i
          · subst e
            rw [hx0] at hj3
            cases hj3
            exact g17
          · exact hj j y (by omega) hj3)
      · refine ar_iload_n 21 rfl d_X1_placeOfLook_20 rfl ?_
        refine WA.ret (some (Vi _)) ⟨d_X1_placeOfLook_21, rfl, Or.inl rfl⟩ ?_
        exact hQ i _ hx0 g17 hj
  refine ar_iconst 1 rfl d_X1_placeOfLook_0 ?_
  refine ar_ist_2 2 rfl d_X1_placeOfLook_1 rfl (by intro _ h; cases h) ?_
  exact loop _ 0 rfl (by omega) (fun j y h => absurd h (by omega))
end MEMM
