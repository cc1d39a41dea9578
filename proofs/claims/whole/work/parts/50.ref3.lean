-- ===== the reference: its object, loaves that are asked for =====
def ln6 (i : Nat) : Nat := match i with
  | 0 => 1496
  | 1 => 1496
  | 2 => 8976
  | 3 => 2992
  | 4 => 2
  | 5 => 60
  | 6 => 64
  | 7 => 64
  | 8 => 64
  | 9 => 64
  | 10 => 40
  | 11 => 6
  | 12 => 6
  | 13 => 96
  | 14 => 6
  | 15 => 6
  | 16 => 6
  | 17 => 6
  | 18 => 240
  | 19 => 6
  | 20 => 102
  | 21 => 102
  | 22 => 6
  | 23 => 6
  | 24 => 6
  | 25 => 6
  | _ => 0
def fj6 (i : Nat) : Nat := match i with
  | 0 => 0
  | 1 => 1
  | 2 => 2
  | 3 => 4
  | 4 => 5
  | 5 => 6
  | 6 => 8
  | 7 => 9
  | 8 => 11
  | 9 => 12
  | 10 => 15
  | 11 => 16
  | 12 => 17
  | 13 => 18
  | 14 => 19
  | 15 => 20
  | 16 => 21
  | 17 => 22
  | 18 => 23
  | 19 => 24
  | 20 => 25
  | 21 => 26
  | 22 => 27
  | 23 => 28
  | 24 => 31
  | 25 => 32
  | _ => 0
/-- the fixed parts of the reference's object -/
def Sh6 (σ : Sg) : Prop := (sk σ 625).1 = 7 ∧ (∀ i, i < 26 → sk σ (626 + i) = (if i = 4 then 11 else 10, ln6 i)) ∧ ∀ i, i < 26 → hR σ 625 (fj6 i) = some (626 + i)
theorem Sh6.e {σ σ' : Sg} (h : Sh6 σ) (e : σ'.2 = σ.2) : Sh6 σ' := by
  unfold Sh6 sk hR at h ⊢
  rw [e]
  exact h
theorem Sh6.k625 {σ : Sg} (h : Sh6 σ) : (sk σ 625).1 = 7 := h.1
theorem Sh6.k626 {σ : Sg} (h : Sh6 σ) : sk σ 626 = (10, 1496) := h.2.1 0 (by decide)
theorem Sh6.r0 {σ : Sg} (h : Sh6 σ) : hR σ 625 0 = some 626 := h.2.2 0 (by decide)
theorem Sh6.k627 {σ : Sg} (h : Sh6 σ) : sk σ 627 = (10, 1496) := h.2.1 1 (by decide)
theorem Sh6.r1 {σ : Sg} (h : Sh6 σ) : hR σ 625 1 = some 627 := h.2.2 1 (by decide)
theorem Sh6.k628 {σ : Sg} (h : Sh6 σ) : sk σ 628 = (10, 8976) := h.2.1 2 (by decide)
theorem Sh6.r2 {σ : Sg} (h : Sh6 σ) : hR σ 625 2 = some 628 := h.2.2 2 (by decide)
theorem Sh6.k629 {σ : Sg} (h : Sh6 σ) : sk σ 629 = (10, 2992) := h.2.1 3 (by decide)
theorem Sh6.r4 {σ : Sg} (h : Sh6 σ) : hR σ 625 4 = some 629 := h.2.2 3 (by decide)
theorem Sh6.k630 {σ : Sg} (h : Sh6 σ) : sk σ 630 = (11, 2) := h.2.1 4 (by decide)
theorem Sh6.r5 {σ : Sg} (h : Sh6 σ) : hR σ 625 5 = some 630 := h.2.2 4 (by decide)
theorem Sh6.k631 {σ : Sg} (h : Sh6 σ) : sk σ 631 = (10, 60) := h.2.1 5 (by decide)
theorem Sh6.r6 {σ : Sg} (h : Sh6 σ) : hR σ 625 6 = some 631 := h.2.2 5 (by decide)
theorem Sh6.k632 {σ : Sg} (h : Sh6 σ) : sk σ 632 = (10, 64) := h.2.1 6 (by decide)
theorem Sh6.r8 {σ : Sg} (h : Sh6 σ) : hR σ 625 8 = some 632 := h.2.2 6 (by decide)
theorem Sh6.k633 {σ : Sg} (h : Sh6 σ) : sk σ 633 = (10, 64) := h.2.1 7 (by decide)
theorem Sh6.r9 {σ : Sg} (h : Sh6 σ) : hR σ 625 9 = some 633 := h.2.2 7 (by decide)
theorem Sh6.k634 {σ : Sg} (h : Sh6 σ) : sk σ 634 = (10, 64) := h.2.1 8 (by decide)
theorem Sh6.r11 {σ : Sg} (h : Sh6 σ) : hR σ 625 11 = some 634 := h.2.2 8 (by decide)
theorem Sh6.k635 {σ : Sg} (h : Sh6 σ) : sk σ 635 = (10, 64) := h.2.1 9 (by decide)
theorem Sh6.r12 {σ : Sg} (h : Sh6 σ) : hR σ 625 12 = some 635 := h.2.2 9 (by decide)
theorem Sh6.k636 {σ : Sg} (h : Sh6 σ) : sk σ 636 = (10, 40) := h.2.1 10 (by decide)
theorem Sh6.r15 {σ : Sg} (h : Sh6 σ) : hR σ 625 15 = some 636 := h.2.2 10 (by decide)
theorem Sh6.k637 {σ : Sg} (h : Sh6 σ) : sk σ 637 = (10, 6) := h.2.1 11 (by decide)
theorem Sh6.r16 {σ : Sg} (h : Sh6 σ) : hR σ 625 16 = some 637 := h.2.2 11 (by decide)
theorem Sh6.k638 {σ : Sg} (h : Sh6 σ) : sk σ 638 = (10, 6) := h.2.1 12 (by decide)
theorem Sh6.r17 {σ : Sg} (h : Sh6 σ) : hR σ 625 17 = some 638 := h.2.2 12 (by decide)
theorem Sh6.k639 {σ : Sg} (h : Sh6 σ) : sk σ 639 = (10, 96) := h.2.1 13 (by decide)
theorem Sh6.r18 {σ : Sg} (h : Sh6 σ) : hR σ 625 18 = some 639 := h.2.2 13 (by decide)
theorem Sh6.k640 {σ : Sg} (h : Sh6 σ) : sk σ 640 = (10, 6) := h.2.1 14 (by decide)
theorem Sh6.r19 {σ : Sg} (h : Sh6 σ) : hR σ 625 19 = some 640 := h.2.2 14 (by decide)
theorem Sh6.k641 {σ : Sg} (h : Sh6 σ) : sk σ 641 = (10, 6) := h.2.1 15 (by decide)
theorem Sh6.r20 {σ : Sg} (h : Sh6 σ) : hR σ 625 20 = some 641 := h.2.2 15 (by decide)
theorem Sh6.k642 {σ : Sg} (h : Sh6 σ) : sk σ 642 = (10, 6) := h.2.1 16 (by decide)
theorem Sh6.r21 {σ : Sg} (h : Sh6 σ) : hR σ 625 21 = some 642 := h.2.2 16 (by decide)
theorem Sh6.k643 {σ : Sg} (h : Sh6 σ) : sk σ 643 = (10, 6) := h.2.1 17 (by decide)
theorem Sh6.r22 {σ : Sg} (h : Sh6 σ) : hR σ 625 22 = some 643 := h.2.2 17 (by decide)
theorem Sh6.k644 {σ : Sg} (h : Sh6 σ) : sk σ 644 = (10, 240) := h.2.1 18 (by decide)
theorem Sh6.r23 {σ : Sg} (h : Sh6 σ) : hR σ 625 23 = some 644 := h.2.2 18 (by decide)
theorem Sh6.k645 {σ : Sg} (h : Sh6 σ) : sk σ 645 = (10, 6) := h.2.1 19 (by decide)
theorem Sh6.r24 {σ : Sg} (h : Sh6 σ) : hR σ 625 24 = some 645 := h.2.2 19 (by decide)
theorem Sh6.k646 {σ : Sg} (h : Sh6 σ) : sk σ 646 = (10, 102) := h.2.1 20 (by decide)
theorem Sh6.r25 {σ : Sg} (h : Sh6 σ) : hR σ 625 25 = some 646 := h.2.2 20 (by decide)
theorem Sh6.k647 {σ : Sg} (h : Sh6 σ) : sk σ 647 = (10, 102) := h.2.1 21 (by decide)
theorem Sh6.r26 {σ : Sg} (h : Sh6 σ) : hR σ 625 26 = some 647 := h.2.2 21 (by decide)
theorem Sh6.k648 {σ : Sg} (h : Sh6 σ) : sk σ 648 = (10, 6) := h.2.1 22 (by decide)
theorem Sh6.r27 {σ : Sg} (h : Sh6 σ) : hR σ 625 27 = some 648 := h.2.2 22 (by decide)
theorem Sh6.k649 {σ : Sg} (h : Sh6 σ) : sk σ 649 = (10, 6) := h.2.1 23 (by decide)
theorem Sh6.r28 {σ : Sg} (h : Sh6 σ) : hR σ 625 28 = some 649 := h.2.2 23 (by decide)
theorem Sh6.k650 {σ : Sg} (h : Sh6 σ) : sk σ 650 = (10, 6) := h.2.1 24 (by decide)
theorem Sh6.r31 {σ : Sg} (h : Sh6 σ) : hR σ 625 31 = some 650 := h.2.2 24 (by decide)
theorem Sh6.k651 {σ : Sg} (h : Sh6 σ) : sk σ 651 = (10, 6) := h.2.1 25 (by decide)
theorem Sh6.r32 {σ : Sg} (h : Sh6 σ) : hR σ 625 32 = some 651 := h.2.2 25 (by decide)
def str6 (b : Nat) : Nat := if b = 639 then 16 else if b = 644 then 40 else if b = 646 ∨ b = 647 then 17 else 1
theorem str6_p (b l : Nat) : str6 b * (l + 1) = str6 b * l + str6 b := Nat.mul_succ _ _
/-- what asking for loaf l may change: the state's row a, held, given, wanted, the rows of the loaves to l -/
def FrW (a l : Nat) (σ σ' : Sg) : Prop := σ'.2 = σ.2 ∧ (∀ b, b ≠ a → b ≠ 625 → b ≠ 636 → (b < 637 ∨ 650 ≤ b) → hI σ' b = hI σ b) ∧ (∀ j, j ≠ 29 → j ≠ 30 → hI σ' 625 j = hI σ 625 j) ∧ ∀ b i, 637 ≤ b → b < 650 → str6 b * (l + 1) ≤ i → hI σ' b i = hI σ b i
theorem FrW.rf {a l : Nat} {σ : Sg} : FrW a l σ σ := ⟨rfl, fun _ _ _ _ _ => rfl, fun _ _ _ => rfl, fun _ _ _ _ _ => rfl⟩
theorem FrW.tr {a l : Nat} {σ σ1 σ2 : Sg} (h : FrW a l σ σ1) (h2 : FrW a l σ1 σ2) : FrW a l σ σ2 := ⟨h2.1.trans h.1, fun b a1 a2 a3 a4 => (h2.2.1 b a1 a2 a3 a4).trans (h.2.1 b a1 a2 a3 a4), fun j a1 a2 => (h2.2.2.1 j a1 a2).trans (h.2.2.1 j a1 a2), fun b i a1 a2 a3 => (h2.2.2.2 b i a1 a2 a3).trans (h.2.2.2 b i a1 a2 a3)⟩
theorem FrW.mono {a l l' : Nat} {σ σ' : Sg} (h : FrW a l σ σ') (hl : l ≤ l') : FrW a l' σ σ' := ⟨h.1, h.2.1, h.2.2.1, fun b i a1 a2 a3 => h.2.2.2 b i a1 a2 (Nat.le_trans (Nat.mul_le_mul_left _ (Nat.succ_le_succ hl)) a3)⟩
/-- a write to a loaf's row -/
theorem FrW.wl {a l b j : Nat} {x : Int} {σ : Sg} (hb : 637 ≤ b ∧ b < 650) (hj : j < str6 b * (l + 1)) : FrW a l σ (wI σ b j x) := by
  refine ⟨rfl, fun c a1 a2 a3 a4 => hI_off (by omega), fun i a1 a2 => by rw [hI_off (by omega)], fun c i a1 a2 a3 => ?_⟩
  rw [hI_w]
  by_cases e : c = b ∧ i = j
  · rw [e.1, e.2] at a3
    omega
  · rw [if_neg e]
theorem FrW.wg {a l j : Nat} {x : Int} {σ : Sg} (hj : j = 29 ∨ j = 30) : FrW a l σ (wI σ 625 j x) :=
  ⟨rfl, fun c a1 a2 a3 a4 => hI_off a2, fun i a1 a2 => by rw [hI_w, if_neg (by omega)], fun c i a1 a2 a3 => by rw [hI_off (by omega)]⟩
theorem FrW.wa {a l : Nat} {σ σ' : Sg} (ha : a = 626 ∨ a = 627) (e : σ'.2 = σ.2) (h : ∀ b, b ≠ a → b ≠ 636 → hI σ' b = hI σ b) : FrW a l σ σ' :=
  ⟨e, fun c a1 a2 a3 a4 => h c a1 a3, fun i a1 a2 => by rw [h 625 (by omega) (by omega)], fun c i a1 a2 a3 => by rw [h c (by omega) (by omega)]⟩
/-- loaf l goes through its memories: it has na of the names ids behind it, and lk looks of the next one -/
def Ck (σ : Sg) (l : Nat) (bb : Int) (ids : List Int) (na lk : Nat) : Prop := hI σ 637 l = bb ∧ hI σ 638 l = 1 ∧ hI σ 640 l = (ids.length : Int) ∧ (∀ j x, ids[j]? = some x → hI σ 639 (16 * l + j) = x - 1) ∧ hI σ 641 l = (na : Int) ∧ hI σ 642 l = (lk : Int) ∧ ids.length ≤ 16
/-- loaf l is baked -/
def Bk (σ : Sg) (l : Nat) (bb : Int) (a : Nat) (p : List Int) (dd : List (Int × Int)) (nn : Int) : Prop := hI σ 637 l = bb ∧ hI σ 638 l = 2 ∧ hI σ 643 l = (a : Int) ∧ hI σ 645 l = (p.length : Int) ∧ (∀ i x, p.reverse[i]? = some x → hI σ 644 (40 * l + i) = x) ∧ hI σ 648 l = (dd.length : Int) ∧ (∀ i x, dd[i]? = some x → hI σ 646 (17 * l + i) = x.1 ∧ hI σ 647 (17 * l + i) = x.2) ∧ hI σ 649 l = nn
theorem Ck.cg {σ σ' : Sg} {l : Nat} {bb : Int} {ids : List Int} {na lk : Nat} (h : Ck σ l bb ids na lk) (e : ∀ b i, 637 ≤ b → b < 650 → str6 b * l ≤ i → hI σ' b i = hI σ b i) : Ck σ' l bb ids na lk := by
  have e1 : ∀ b i, 637 ≤ b → b < 650 → str6 b * l ≤ i → hI σ' b i = hI σ b i := e
  obtain ⟨h1, h2, h3, h4, h5, h6, h7⟩ := h
  refine ⟨by rw [e 637 l (by omega) (by omega) (by unfold str6; simp)]; exact h1, by rw [e 638 l (by omega) (by omega) (by unfold str6; simp)]; exact h2, by rw [e 640 l (by omega) (by omega) (by unfold str6; simp)]; exact h3, fun j x hj => ?_, by rw [e 641 l (by omega) (by omega) (by unfold str6; simp)]; exact h5, by rw [e 642 l (by omega) (by omega) (by unfold str6; simp)]; exact h6, h7⟩
  rw [e 639 _ (by omega) (by omega) (by unfold str6; rw [if_pos rfl]; omega)]
  exact h4 j x hj
theorem Bk.cg {σ σ' : Sg} {l a : Nat} {bb nn : Int} {p : List Int} {dd : List (Int × Int)} (h : Bk σ l bb a p dd nn) (e : ∀ b i, 637 ≤ b → b < 650 → str6 b * l ≤ i → hI σ' b i = hI σ b i) : Bk σ' l bb a p dd nn := by
  obtain ⟨h1, h2, h3, h4, h5, h6, h7, h8⟩ := h
  refine ⟨by rw [e 637 l (by omega) (by omega) (by unfold str6; simp)]; exact h1, by rw [e 638 l (by omega) (by omega) (by unfold str6; simp)]; exact h2, by rw [e 643 l (by omega) (by omega) (by unfold str6; simp)]; exact h3, by rw [e 645 l (by omega) (by omega) (by unfold str6; simp)]; exact h4, fun j x hj => ?_, by rw [e 648 l (by omega) (by omega) (by unfold str6; simp)]; exact h6, fun j x hj => ?_, by rw [e 649 l (by omega) (by omega) (by unfold str6; simp)]; exact h8⟩
  · rw [e 644 _ (by omega) (by omega) (by unfold str6; simp <;> omega)]
    exact h5 j x hj
  · rw [e 646 _ (by omega) (by omega) (by unfold str6; simp <;> omega), e 647 _ (by omega) (by omega) (by unfold str6; simp <;> omega)]
    exact h7 j x hj
/-- behind a loaf below -/
theorem FrW.low {a l c : Nat} {σ σ' : Sg} (h : FrW a c σ σ') (hc : c < l) : ∀ b i, 637 ≤ b → b < 650 → str6 b * l ≤ i → hI σ' b i = hI σ b i := fun b i a1 a2 a3 => h.2.2.2 b i a1 a2 (Nat.le_trans (Nat.mul_le_mul_left _ hc) a3)
section REF3
variable {G : GT} {d k n : Nat} {σ : Sg} {Q : Option AV → Sg → Prop}
theorem sp_X6_nextName {l na : Nat} (hS : Sh6 σ) (hl : l < 6) (h1 : hI σ 641 l = (na : Int)) (hQ : Q none (wI (wI σ 641 l ((na + 1 : Nat) : Int)) 642 l 0)) : WA G d k n mX6_nextName 0 [Va 625, Vi (l : Int)] [] σ Q := by
  have k625 := hS.k625
  have r20 := hS.r20
  have k641 := hS.k641
  have r21 := hS.r21
  have k642 := hS.k642
  refine ar_aload_n 1 rfl d_X6_nextName_0 rfl ?_
  refine ar_getA 4 rfl d_X6_nextName_1 fl_X6_56 rfl (by assumption) (by assumption) ?_
  refine ar_iload_n 5 rfl d_X6_nextName_4 rfl ?_
  refine ar_dup2 6 rfl d_X6_nextName_5 (fun _ => ⟨rfl, rfl⟩) ?_
  refine ar_ilv (y := (na : Int)) 7 rfl d_X6_nextName_6 (by assumption) (by omega) (by rw [Int.toNat_natCast]; exact h1) ?_
  refine ar_iconst 8 rfl d_X6_nextName_7 ?_
  refine ar_iadd 9 rfl d_X6_nextName_8 ?_
  refine ar_top (y := ((na + 1 : Nat) : Int)) (by omega) ?_
  refine ar_iasN l 10 rfl d_X6_nextName_9 (by assumption) (by omega) (by omega) ?_
  refine ar_aload_n 11 rfl d_X6_nextName_10 rfl ?_
  refine ar_getA 14 rfl d_X6_nextName_11 fl_X6_59 rfl (by assumption) (by assumption) ?_
  refine ar_iload_n 15 rfl d_X6_nextName_14 rfl ?_
  refine ar_iconst 16 rfl d_X6_nextName_15 ?_
  refine ar_iasN l 17 rfl d_X6_nextName_16 (by assumption) (by omega) (by omega) ?_
  refine WA.ret none ⟨d_X6_nextName_17, rfl, rfl⟩ ?_
  exact hQ
theorem sp_X6_compare {a l na lk : Nat} {S : SS} {i bb v : Int} {x : Int × Int} {ids : List Int} (hS : Sh6 σ) (ha : sk σ a = (10, 1496)) (hr : Rs (hI σ a) S) (hb : Bd S) (hs : ∀ M ∈ S.2.1, i32 (mSer M - 1)) (hv : i32 v) (hxv : ∀ M ∈ S.2.1, ∀ y ∈ mLk M, i32 y.2) (hl : l < 6) (hc : Ck σ l bb ids na lk) (hi : ids[na]? = some i) (hii : i32 (i - 1)) (hx : ∀ M ∈ S.2.1, mSer M = i → (mLk M)[lk]? = some x) (hdp : 2 ≤ d) (hQ1 : hasS S.2.1 i = true ∧ x.2 = v → Q none (wI σ 642 l ((lk + 1 : Nat) : Int))) (hQ0 : ¬ (hasS S.2.1 i = true ∧ x.2 = v) → Q none (wI (wI σ 641 l ((na + 1 : Nat) : Int)) 642 l 0)) : WA G d k n mX6_compare 0 [Va 625, Va a, Vi (l : Int), Vi v, Vu] [] σ Q := by
  obtain ⟨c1, c2, c3, c4, c5, c6, c7⟩ := hc
  have hna := (List.getElem?_eq_some_iff.mp hi).1
  have hnm := c4 na i hi
  have k625 := hS.k625
  have r18 := hS.r18
  have k639 := hS.k639
  have r20 := hS.r20
  have k641 := hS.k641
  have r21 := hS.r21
  have k642 := hS.k642
  refine ar_aload_n 1 rfl d_X6_compare_0 rfl ?_
  refine ar_aload_n 2 rfl d_X6_compare_1 rfl ?_
  refine ar_getA 5 rfl d_X6_compare_2 fl_X6_50 rfl (by assumption) (by assumption) ?_
  refine ar_bipush 7 rfl d_X6_compare_5 rfl ?_
  refine ar_iload_n 8 rfl d_X6_compare_7 rfl ?_
  refine ar_imul 9 rfl d_X6_compare_8 ?_
  refine ar_aload_n 10 rfl d_X6_compare_9 rfl ?_
  refine ar_getA 13 rfl d_X6_compare_10 fl_X6_56 rfl (by assumption) (by assumption) ?_
  refine ar_iload_n 14 rfl d_X6_compare_13 rfl ?_
  refine ar_ilv (y := (na : Int)) 15 rfl d_X6_compare_14 (by assumption) (by omega) (by rw [Int.toNat_natCast]; exact c5) ?_
  refine ar_iadd 16 rfl d_X6_compare_15 ?_
  refine ar_top (y := ((16 * l + na : Nat) : Int)) (by omega) ?_
  refine ar_ilv (y := (i - 1)) 17 rfl d_X6_compare_16 (by assumption) (by omega) (by rw [Int.toNat_natCast]; exact hnm) ?_
  refine ar_callS0 (M' := mX6_memoryNamed) (As := [_, _]) (ls' := [Vr _, Vi _, Vu]) 20 rfl d_X6_compare_17 ml_X6_155 mt_X6_memoryNamed rfl (Nat.le_of_ble_eq_true rfl) rfl (Nat.le_of_ble_eq_true rfl) (by omega) ?_
  refine sp_X6_memoryNamed ha hr hb hii hs (by omega) (fun p M hM hMs hj => ?_) (fun hno => ?_)
  · have hMi : mSer M = i := by omega
    have hMm := List.mem_of_getElem? hM
    have hx1 := hx M hMm hMi
    have hp := (List.getElem?_eq_some_iff.mp hM).1
    have hlk := (List.getElem?_eq_some_iff.mp hx1).1
    have hb1 := hb.1
    have hb2 := hb.2.1 M hMm
    have hxx := hxv M hMm x (List.mem_of_getElem? hx1)
    have hmx := ((hr.2.2.2.2.2 p M hM).2.2.2.2.2.2 lk x hx1).2
    have hh : hasS S.2.1 i = true := hasS_iff.mpr ⟨M, hMm, hMi⟩
    refine ar_ist_4 22 rfl d_X6_compare_20 rfl (by intro _ h; cases h) ?_
    refine ar_iload 24 rfl d_X6_compare_22 rfl ?_
    refine ar_bipush 26 rfl d_X6_compare_24 rfl ?_
    refine ar_icmp_eq 63 29 rfl rfl d_X6_compare_26 (by omega) (by omega) (fun h => by omega) (fun g26 => ?_)
    refine ar_aload_n 30 rfl d_X6_compare_29 rfl ?_
    refine ar_iload 32 rfl d_X6_compare_30 rfl ?_
    refine ar_callS0 (M' := mX6_memoryAt) (As := [_]) (ls' := [Vi _]) 35 rfl d_X6_compare_32 ml_X6_147 mt_X6_memoryAt rfl (Nat.le_of_ble_eq_true rfl) rfl (Nat.le_of_ble_eq_true rfl) (by omega) ?_
    refine sp_X6_memoryAt (by omega) ?_
    refine ar_bipush 37 rfl d_X6_compare_35 rfl ?_
    refine ar_iadd 38 rfl d_X6_compare_37 ?_
    refine ar_aload_n 39 rfl d_X6_compare_38 rfl ?_
    refine ar_getA 42 rfl d_X6_compare_39 fl_X6_59 rfl (by assumption) (by assumption) ?_
    refine ar_iload_n 43 rfl d_X6_compare_42 rfl ?_
    refine ar_ilv (y := (lk : Int)) 44 rfl d_X6_compare_43 (by assumption) (by omega) (by rw [Int.toNat_natCast]; exact c6) ?_
    refine ar_iadd 45 rfl d_X6_compare_44 ?_
    refine ar_top (y := ((816 + 40 * p + 23 + lk : Nat) : Int)) (by omega) ?_
    refine ar_ilv (y := x.2) 46 rfl d_X6_compare_45 (by assumption) (by omega) (by rw [Int.toNat_natCast]; exact hmx) ?_
    refine ar_iload_n 47 rfl d_X6_compare_46 rfl ?_
    refine ar_icmp_ne 63 50 rfl rfl d_X6_compare_47 (by omega) (by omega) (fun g47 => ?_) (fun g47 => ?_)
    · refine ar_aload_n 64 rfl d_X6_compare_63 rfl ?_
      refine ar_iload_n 65 rfl d_X6_compare_64 rfl ?_
      refine ar_callV0 (M' := mX6_nextName) (As := [_]) (ls' := [Va _, Vi _]) 68 rfl d_X6_compare_65 ml_X6_159 mt_X6_nextName (by assumption) rfl (Nat.le_of_ble_eq_true rfl) rfl (Nat.le_of_ble_eq_true rfl) (by omega) ?_
      refine sp_X6_nextName hS hl c5 ?_
      refine WA.ret none ⟨d_X6_compare_68, rfl, rfl⟩ ?_
      exact hQ0 (fun h => g47 h.2)
    · refine ar_aload_n 51 rfl d_X6_compare_50 rfl ?_
      refine ar_getA 54 rfl d_X6_compare_51 fl_X6_59 rfl (by assumption) (by assumption) ?_
      refine ar_iload_n 55 rfl d_X6_compare_54 rfl ?_
      refine ar_dup2 56 rfl d_X6_compare_55 (fun _ => ⟨rfl, rfl⟩) ?_
      refine ar_ilv (y := (lk : Int)) 57 rfl d_X6_compare_56 (by assumption) (by omega) (by rw [Int.toNat_natCast]; exact c6) ?_
      refine ar_iconst 58 rfl d_X6_compare_57 ?_
      refine ar_iadd 59 rfl d_X6_compare_58 ?_
      refine ar_top (y := ((lk + 1 : Nat) : Int)) (by omega) ?_
      refine ar_iasN l 60 rfl d_X6_compare_59 (by assumption) (by omega) (by omega) ?_
      refine ar_goto 68 rfl d_X6_compare_60 ?_
      refine WA.ret none ⟨d_X6_compare_68, rfl, rfl⟩ ?_
      exact hQ1 ⟨hh, g47⟩
  · have hh : ¬ hasS S.2.1 i = true := fun h => by
      obtain ⟨M, h1, h2⟩ := hasS_iff.mp h
      exact hno M h1 (by omega)
    refine ar_ist_4 22 rfl d_X6_compare_20 rfl (by intro _ h; cases h) ?_
    refine ar_iload 24 rfl d_X6_compare_22 rfl ?_
    refine ar_bipush 26 rfl d_X6_compare_24 rfl ?_
    refine ar_icmp_eq 63 29 rfl rfl d_X6_compare_26 (by omega) (by omega) (fun g26 => ?_) (fun h => absurd rfl h)
    refine ar_aload_n 64 rfl d_X6_compare_63 rfl ?_
    refine ar_iload_n 65 rfl d_X6_compare_64 rfl ?_
    refine ar_callV0 (M' := mX6_nextName) (As := [_]) (ls' := [Va _, Vi _]) 68 rfl d_X6_compare_65 ml_X6_159 mt_X6_nextName (by assumption) rfl (Nat.le_of_ble_eq_true rfl) rfl (Nat.le_of_ble_eq_true rfl) (by omega) ?_
    refine sp_X6_nextName hS hl c5 ?_
    refine WA.ret none ⟨d_X6_compare_68, rfl, rfl⟩ ?_
    exact hQ0 (fun h => hh h.1)
theorem sp_X6_begin {a l : Nat} {S : SS} {bb : Int} (hS : Sh6 σ) (ha : sk σ a = (10, 1496)) (ha6 : a = 626 ∨ a = 627) (hr : Rs (hI σ a) S) (hb : Bd S) (hml : ∀ M ∈ S.2.1, i32 (mLoaf M)) (hl : l < 6) (hdp : 1 ≤ d) (hQ : ∀ σ', FrW a l σ σ' → hI σ' a = hI σ a → hI σ' 625 = hI σ 625 → Ck σ' l bb ((S.2.1.filter (isOf (l : Int))).map mSer) 0 0 → Q none σ') : WA G d k n mX6_begin 0 [Va 625, Va a, Vi (l : Int), Vi bb, Vu] [] σ Q := by
  have k625 := hS.k625
  have r16 := hS.r16
  have k637 := hS.k637
  have r17 := hS.r17
  have k638 := hS.k638
  have r19 := hS.r19
  have k640 := hS.k640
  have r20 := hS.r20
  have k641 := hS.k641
  have r21 := hS.r21
  have k642 := hS.k642
  have r18 := hS.r18
  have k639 := hS.k639
  have hb1 := hb.1
  have loop : ∀ (r i : Nat) (σi : Sg), S.2.1.length - i = r → i ≤ S.2.1.length → FrW a l σ σi → hI σi a = hI σ a → hI σi 625 = hI σ 625 → hI σi 637 l = bb → hI σi 638 l = 1 → hI σi 641 l = 0 → hI σi 642 l = 0 → hI σi 640 l = ((((S.2.1.take i).filter (isOf (l : Int))).map mSer).length : Int) → (∀ j x, (((S.2.1.take i).filter (isOf (l : Int))).map mSer)[j]? = some x → hI σi 639 (16 * l + j) = x - 1) → WA G d k n mX6_begin 38 [Va 625, Va a, Vi (l : Int), Vi bb, Vi (i : Int)] [] σi Q := by
    intro r
    induction r using Nat.strongRecOn with
    | ind r ih =>
    intro i σi hr9 hi q1 q2 q3 q4 q5 q6 q7 q8 q9
    have hSi := hS.e q1.1
    have k625 := hSi.k625
    have r16 := hSi.r16
    have k637 := hSi.k637
    have r17 := hSi.r17
    have k638 := hSi.k638
    have r19 := hSi.r19
    have k640 := hSi.k640
    have r20 := hSi.r20
    have k641 := hSi.k641
    have r21 := hSi.r21
    have k642 := hSi.k642
    have r18 := hSi.r18
    have k639 := hSi.k639
    have hai : sk σi a = (10, 1496) := by
      have e : sk σi = sk σ := by show σi.2.2.1 = σ.2.2.1; rw [q1.1]
      rw [e]
      exact ha
    have hri : Rs (hI σi a) S := by rw [q2]; exact hr
    have h814 := hri.2.2.2.1
    have hfl : ((S.2.1.take i).filter (isOf (l : Int))).length ≤ i := by
      have h1 := List.length_filter_le (isOf (l : Int)) (S.2.1.take i)
      rw [List.length_take] at h1
      omega
    refine ar_iload 40 rfl d_X6_begin_38 rfl ?_
    refine ar_aload_n 41 rfl d_X6_begin_40 rfl ?_
    refine ar_sipush 44 rfl d_X6_begin_41 rfl ?_
    refine ar_ilv (y := (S.2.1.length : Int)) 45 rfl d_X6_begin_44 (by assumption) (by omega) h814 ?_
    refine ar_icmp_ge 100 48 rfl rfl d_X6_begin_45 (by omega) (by omega) (fun g45 => ?_) (fun g45 => ?_)
    · refine WA.ret none ⟨d_X6_begin_100, rfl, rfl⟩ ?_
      have e : i = S.2.1.length := by omega
      subst e
      rw [List.take_length] at q8 q9 hfl
      refine hQ σi q1 q2 q3 ⟨q4, q5, q8, q9, q6, q7, ?_⟩
      rw [List.length_map]
      omega
    · have hlt : i < S.2.1.length := by omega
      have hM : S.2.1[i]? = some S.2.1[i] := List.getElem?_eq_getElem hlt
      have hml1 := hml _ (List.getElem_mem hlt)
      have hmf := take_f (L := S.2.1) (p := isOf (l : Int)) hlt
      have hmm := hri.2.2.2.2.2 i _ hM
      generalize S.2.1[i] = M at hM hml1 hmf hmm
      rw [List.length_map] at q8
      refine ar_aload_n 49 rfl d_X6_begin_48 rfl ?_
      refine ar_iload 51 rfl d_X6_begin_49 rfl ?_
      refine ar_callS0 (M' := mX6_memoryAt) (As := [_]) (ls' := [Vi _]) 54 rfl d_X6_begin_51 ml_X6_147 mt_X6_memoryAt rfl (Nat.le_of_ble_eq_true rfl) rfl (Nat.le_of_ble_eq_true rfl) (by omega) ?_
      refine sp_X6_memoryAt (by omega) ?_
      refine ar_iconst 55 rfl d_X6_begin_54 ?_
      refine ar_iadd 56 rfl d_X6_begin_55 ?_
      refine ar_top (y := ((816 + 40 * i + 1 : Nat) : Int)) (by omega) ?_
      refine ar_ilv (y := (mLoaf M)) 57 rfl d_X6_begin_56 (by assumption) (by omega) (by rw [Int.toNat_natCast]; exact hmm.2.1) ?_
      refine ar_iload_n 58 rfl d_X6_begin_57 rfl ?_
      refine ar_icmp_ne 94 61 rfl rfl d_X6_begin_58 (by omega) (by omega) (fun g58 => ?_) (fun g58 => ?_)
      · refine ar_inc_4 (y := ((i + 1 : Nat) : Int)) 97 rfl d_X6_begin_94 rfl (by intro _ h; cases h) (by omega) ?_
        refine ar_goto 38 rfl d_X6_begin_97 ?_
        have hno : ¬ isOf (l : Int) M = true := by
          unfold isOf
          simpa using g58
        rw [if_neg hno, List.append_nil] at hmf
        refine ih (S.2.1.length - (i + 1)) (by omega) (i + 1) σi rfl (by omega) q1 q2 q3 q4 q5 q6 q7 ?_ ?_
        · rw [hmf, List.length_map]
          exact q8
        · rw [hmf]
          exact q9
      · refine ar_aload_n 62 rfl d_X6_begin_61 rfl ?_
        refine ar_getA 65 rfl d_X6_begin_62 fl_X6_50 rfl (by assumption) (by assumption) ?_
        refine ar_bipush 67 rfl d_X6_begin_65 rfl ?_
        refine ar_iload_n 68 rfl d_X6_begin_67 rfl ?_
        refine ar_imul 69 rfl d_X6_begin_68 ?_
        refine ar_aload_n 70 rfl d_X6_begin_69 rfl ?_
        refine ar_getA 73 rfl d_X6_begin_70 fl_X6_53 rfl (by assumption) (by assumption) ?_
        refine ar_iload_n 74 rfl d_X6_begin_73 rfl ?_
        refine ar_ilv (y := (((S.2.1.take i).filter (isOf (l : Int))).length : Int)) 75 rfl d_X6_begin_74 (by assumption) (by omega) (by rw [Int.toNat_natCast]; exact q8) ?_
        refine ar_iadd 76 rfl d_X6_begin_75 ?_
        refine ar_top (y := ((16 * l + ((S.2.1.take i).filter (isOf (l : Int))).length : Nat) : Int)) (by omega) ?_
        refine ar_aload_n 77 rfl d_X6_begin_76 rfl ?_
        refine ar_iload 79 rfl d_X6_begin_77 rfl ?_
        refine ar_callS0 (M' := mX6_memoryAt) (As := [_]) (ls' := [Vi _]) 82 rfl d_X6_begin_79 ml_X6_147 mt_X6_memoryAt rfl (Nat.le_of_ble_eq_true rfl) rfl (Nat.le_of_ble_eq_true rfl) (by omega) ?_
        refine sp_X6_memoryAt (by omega) ?_
        refine ar_ilv (y := (mSer M - 1)) 83 rfl d_X6_begin_82 (by assumption) (by omega) (by rw [Int.toNat_natCast]; exact hmm.1) ?_
        refine ar_iasN (16 * l + ((S.2.1.take i).filter (isOf (l : Int))).length) 84 rfl d_X6_begin_83 (by assumption) (by omega) (by omega) ?_
        refine ar_aload_n 85 rfl d_X6_begin_84 rfl ?_
        refine ar_getA 88 rfl d_X6_begin_85 fl_X6_53 rfl (by assumption) (by assumption) ?_
        refine ar_iload_n 89 rfl d_X6_begin_88 rfl ?_
        refine ar_dup2 90 rfl d_X6_begin_89 (fun _ => ⟨rfl, rfl⟩) ?_
        refine ar_ilv (y := (((S.2.1.take i).filter (isOf (l : Int))).length : Int)) 91 rfl d_X6_begin_90 (by assumption) (by omega) (by rw [Int.toNat_natCast, hI_off (by omega)]; exact q8) ?_
        refine ar_iconst 92 rfl d_X6_begin_91 ?_
        refine ar_iadd 93 rfl d_X6_begin_92 ?_
        refine ar_top (y := ((((S.2.1.take i).filter (isOf (l : Int))).length + 1 : Nat) : Int)) (by omega) ?_
        refine ar_iasN l 94 rfl d_X6_begin_93 (by assumption) (by omega) (by omega) ?_
        refine ar_inc_4 (y := ((i + 1 : Nat) : Int)) 97 rfl d_X6_begin_94 rfl (by intro _ h; cases h) (by omega) ?_
        refine ar_goto 38 rfl d_X6_begin_97 ?_
        have hyes : isOf (l : Int) M = true := by
          unfold isOf
          simpa using g58
        rw [if_pos hyes] at hmf
        have hml9 : ((((S.2.1.take i).filter (isOf (l : Int))).map mSer).length) = ((S.2.1.take i).filter (isOf (l : Int))).length := List.length_map _
        refine ih (S.2.1.length - (i + 1)) (by omega) (i + 1) _ rfl (by omega) (q1.tr ((FrW.wl (by omega) (by unfold str6; simp <;> omega)).tr (FrW.wl (by omega) (by unfold str6; simp <;> omega)))) ?_ ?_ ?_ ?_ ?_ ?_ ?_ ?_
        · rw [hI_off (by omega), hI_off (by omega)]
          exact q2
        · rw [hI_off (by omega), hI_off (by omega)]
          exact q3
        · rw [hI_off (by omega), hI_off (by omega)]
          exact q4
        · rw [hI_off (by omega), hI_off (by omega)]
          exact q5
        · rw [hI_off (by omega), hI_off (by omega)]
          exact q6
        · rw [hI_off (by omega), hI_off (by omega)]
          exact q7
        · rw [hI_w, if_pos ⟨rfl, rfl⟩, hmf, List.length_map, List.length_append]
          rfl
        · intro j x hx
          rw [hmf, List.map_append] at hx
          rw [hI_off (by omega), hI_w]
          have hj := (List.getElem?_eq_some_iff.mp hx).1
          rw [List.length_append, hml9] at hj
          simp only [List.length_map, List.length_cons, List.length_nil] at hj
          by_cases e : j = ((S.2.1.take i).filter (isOf (l : Int))).length
          · rw [if_pos ⟨rfl, by omega⟩]
            rw [e, List.getElem?_append_right (by rw [hml9]; exact Nat.le_refl _), hml9, Nat.sub_self] at hx
            simp only [List.map_cons, List.getElem?_cons_zero] at hx
            cases hx
            rfl
          · rw [if_neg (by omega)]
            rw [List.getElem?_append_left (by rw [hml9]; omega)] at hx
            exact q9 j x hx
  refine ar_aload_n 1 rfl d_X6_begin_0 rfl ?_
  refine ar_getA 4 rfl d_X6_begin_1 fl_X6_44 rfl (by assumption) (by assumption) ?_
  refine ar_iload_n 5 rfl d_X6_begin_4 rfl ?_
  refine ar_iload_n 6 rfl d_X6_begin_5 rfl ?_
  refine ar_iasN l 7 rfl d_X6_begin_6 (by assumption) (by omega) (by omega) ?_
  refine ar_aload_n 8 rfl d_X6_begin_7 rfl ?_
  refine ar_getA 11 rfl d_X6_begin_8 fl_X6_47 rfl (by assumption) (by assumption) ?_
  refine ar_iload_n 12 rfl d_X6_begin_11 rfl ?_
  refine ar_iconst 13 rfl d_X6_begin_12 ?_
  refine ar_iasN l 14 rfl d_X6_begin_13 (by assumption) (by omega) (by omega) ?_
  refine ar_aload_n 15 rfl d_X6_begin_14 rfl ?_
  refine ar_getA 18 rfl d_X6_begin_15 fl_X6_53 rfl (by assumption) (by assumption) ?_
  refine ar_iload_n 19 rfl d_X6_begin_18 rfl ?_
  refine ar_iconst 20 rfl d_X6_begin_19 ?_
  refine ar_iasN l 21 rfl d_X6_begin_20 (by assumption) (by omega) (by omega) ?_
  refine ar_aload_n 22 rfl d_X6_begin_21 rfl ?_
  refine ar_getA 25 rfl d_X6_begin_22 fl_X6_56 rfl (by assumption) (by assumption) ?_
  refine ar_iload_n 26 rfl d_X6_begin_25 rfl ?_
  refine ar_iconst 27 rfl d_X6_begin_26 ?_
  refine ar_iasN l 28 rfl d_X6_begin_27 (by assumption) (by omega) (by omega) ?_
  refine ar_aload_n 29 rfl d_X6_begin_28 rfl ?_
  refine ar_getA 32 rfl d_X6_begin_29 fl_X6_59 rfl (by assumption) (by assumption) ?_
  refine ar_iload_n 33 rfl d_X6_begin_32 rfl ?_
  refine ar_iconst 34 rfl d_X6_begin_33 ?_
  refine ar_iasN l 35 rfl d_X6_begin_34 (by assumption) (by omega) (by omega) ?_
  refine ar_iconst 36 rfl d_X6_begin_35 ?_
  refine ar_ist_4 38 rfl d_X6_begin_36 rfl (by intro _ h; cases h) ?_
  refine loop _ 0 _ rfl (by omega) ((((FrW.wl (by omega) (by unfold str6; simp <;> omega)).tr (FrW.wl (by omega) (by unfold str6; simp <;> omega))).tr (FrW.wl (by omega) (by unfold str6; simp <;> omega))).tr ((FrW.wl (by omega) (by unfold str6; simp <;> omega)).tr (FrW.wl (by omega) (by unfold str6; simp <;> omega)))) ?_ ?_ ?_ ?_ ?_ ?_ ?_ (fun j x hx => by simp at hx)
  · rw [hI_off (by omega), hI_off (by omega), hI_off (by omega), hI_off (by omega), hI_off (by omega)]
  · rw [hI_off (by omega), hI_off (by omega), hI_off (by omega), hI_off (by omega), hI_off (by omega)]
  · rw [hI_off (by omega), hI_off (by omega), hI_off (by omega), hI_off (by omega), hI_w, if_pos ⟨rfl, rfl⟩]
  · rw [hI_off (by omega), hI_off (by omega), hI_off (by omega), hI_w, if_pos ⟨rfl, rfl⟩]
  · rw [hI_off (by omega), hI_w, if_pos ⟨rfl, rfl⟩]
  · rw [hI_w, if_pos ⟨rfl, rfl⟩]
  · rw [hI_off (by omega), hI_off (by omega), hI_w, if_pos ⟨rfl, rfl⟩, List.take_zero]
    rfl
end REF3
