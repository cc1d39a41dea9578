-- ===== the reference: a state as a row of numbers =====
def oK (x : Int × Int) : Int := if x.1 = 0 then (if x.2 < 20 then 0 else 1) else x.1 + 1
def oA (x : Int × Int) : Int := if x.1 = 0 ∧ 20 ≤ x.2 then x.2 - 20 else x.2
/-- a memory in a row of numbers, from p -/
def Rm (g : Nat → Int) (p : Nat) (M : Mem) : Prop := g p = mSer M - 1 ∧ g (p + 1) = mLoaf M ∧ g (p + 2) = mRes M ∧ g (p + 3) = ((mLk M).length : Int) ∧ g (p + 4) = mSteps M ∧ g (p + 5) = mUses M ∧ ∀ i x, (mLk M)[i]? = some x → g (p + 6 + i) = x.1 ∧ g (p + 23 + i) = x.2
def Rs (g : Nat → Int) (S : SS) : Prop := (∀ i, i < 26 → g i = S.1 i) ∧ (∀ l, l < 6 → g (26 + l) = ((S.2.2 l).length : Int) ∧ ∀ j x, (S.2.2 l)[j]? = some x → g (32 + 64 * l + j) = oK x ∧ g (416 + 64 * l + j) = oA x) ∧ (∀ i, 800 ≤ i → i < 814 → g i = S.1 i) ∧ g 814 = (S.2.1.length : Int) ∧ g 815 = S.1 815 ∧ ∀ k M, S.2.1[k]? = some M → Rm g (816 + 40 * k) M
def Bd (S : SS) : Prop := S.2.1.length ≤ 16 ∧ (∀ M ∈ S.2.1, (mLk M).length ≤ 17) ∧ ∀ l, l < 6 → (S.2.2 l).length < 60
theorem WFS.bd {S : SS} (h : WFS S) : Bd S := by
  refine ⟨by have := h.2.2.2.2.2.1; have := h.1.2; omega, fun M hM => ?_, fun l hl => (h.2.2.2.2.2.2.2.2 l hl).1⟩
  have h1 := h.2.2.2.2.2.2.1 M hM
  have h2 := WFl_len h1.2.2.2.2.2.2
  have h3 := h1.2.1
  have h4 := h1.1
  omega
theorem Rm.mv {g g' : Nat → Int} {p p' : Nat} {M : Mem} (h : Rm g p M) (hl : (mLk M).length ≤ 17) (e : ∀ i, i < 40 → g' (p' + i) = g (p + i)) : Rm g' p' M := by
  obtain ⟨h0, h1, h2, h3, h4, h5, h6⟩ := h
  refine ⟨by rw [show p' = p' + 0 from rfl, e 0 (by omega)]; exact h0, by rw [e 1 (by omega)]; exact h1, by rw [e 2 (by omega)]; exact h2, by rw [e 3 (by omega)]; exact h3, by rw [e 4 (by omega)]; exact h4, by rw [e 5 (by omega)]; exact h5, fun i x hx => ?_⟩
  have hi := (List.getElem?_eq_some_iff.mp hx).1
  have h7 := h6 i x hx
  rw [Nat.add_assoc, Nat.add_assoc, e (6 + i) (by omega), e (23 + i) (by omega), ← Nat.add_assoc, ← Nat.add_assoc]
  exact h7
theorem Rs.mem {g g' : Nat → Int} {S : SS} {L : List Mem} (h : Rs g S) (hc : ∀ l, l < 6 → (S.2.2 l).length < 60) (h1 : ∀ i, i < 816 → i ≠ 814 → g' i = g i) (h2 : g' 814 = (L.length : Int)) (h3 : ∀ k M, L[k]? = some M → Rm g' (816 + 40 * k) M) : Rs g' (S.1, L, S.2.2) := by
  obtain ⟨a1, a2, a3, a4, a5, a6⟩ := h
  refine ⟨fun i hi => by rw [h1 i (by omega) (by omega)]; exact a1 i hi, fun l hl => ⟨by rw [h1 _ (by omega) (by omega)]; exact (a2 l hl).1, fun j x hx => ?_⟩, fun i hi hi2 => by rw [h1 i (by omega) (by omega)]; exact a3 i hi hi2, h2, by rw [h1 _ (by omega) (by omega)]; exact a5, h3⟩
  have hj := (List.getElem?_eq_some_iff.mp hx).1
  have h9 := hc l hl
  have hj : j < (S.2.2 l).length := hj
  rw [h1 _ (by omega) (by omega), h1 _ (by omega) (by omega)]
  exact (a2 l hl).2 j x hx
theorem Rs.cg {g g' : Nat → Int} {S : SS} (h : Rs g S) (hb : Bd S) (e : ∀ i, i < 1496 → g' i = g i) : Rs g' S := by
  refine Rs.mem (L := S.2.1) h hb.2.2 (fun i hi _ => e i (by omega)) (by rw [e _ (by omega)]; exact h.2.2.2.1) (fun k M hM => ?_)
  have hk := (List.getElem?_eq_some_iff.mp hM).1
  have := hb.1
  exact (h.2.2.2.2.2 k M hM).mv (hb.2.1 M (List.mem_of_getElem? hM)) (fun i hi => e _ (by omega))
theorem Rs.upd {g : Nat → Int} {S : SS} {i : Nat} {v : Int} (h : Rs g S) (hc : ∀ l, l < 6 → (S.2.2 l).length < 60) (hi : i < 26 ∨ (800 ≤ i ∧ i < 814)) : Rs (uf g i v) (uf S.1 i v, S.2) := by
  obtain ⟨a1, a2, a3, a4, a5, a6⟩ := h
  have hcg : ∀ {f f' : Nat → Int} (j : Nat), f j = f' j → uf f i v j = uf f' i v j := fun j e => by
    unfold uf
    split
    · rfl
    · exact e
  have hm : ∀ j, 814 ≤ j → uf g i v j = g j := fun j hj => uf_n (by omega)
  refine ⟨fun j hj => hcg j (a1 j hj), fun l hl => ⟨by rw [uf_n (by omega)]; exact (a2 l hl).1, fun j x hx => ?_⟩, fun j hj hj2 => hcg j (a3 j hj hj2), by rw [hm _ (by omega)]; exact a4, by rw [hm _ (by omega)]; show g 815 = uf S.1 i v 815; rw [uf_n (by omega)]; exact a5, fun k M hM => ?_⟩
  · have hj := (List.getElem?_eq_some_iff.mp hx).1
    have h9 := hc l hl
    have hj : j < (S.2.2 l).length := hj
    rw [uf_n (by omega), uf_n (by omega)]
    exact (a2 l hl).2 j x hx
  · have h9 := a6 k M hM
    obtain ⟨b0, b1, b2, b3, b4, b5, b6⟩ := h9
    refine ⟨by rw [hm _ (by omega)]; exact b0, by rw [hm _ (by omega)]; exact b1, by rw [hm _ (by omega)]; exact b2, by rw [hm _ (by omega)]; exact b3, by rw [hm _ (by omega)]; exact b4, by rw [hm _ (by omega)]; exact b5, fun i x hx => ?_⟩
    rw [hm _ (by omega), hm _ (by omega)]
    exact b6 i x hx
theorem hI_row (σ : Sg) (a j : Nat) (x : Int) : hI (wI σ a j x) a = uf (hI σ a) j x := by
  funext i
  show (if a = a ∧ i = j then x else hI σ a i) = if i = j then x else hI σ a i
  by_cases e : i = j
  · rw [if_pos ⟨rfl, e⟩, if_pos e]
  · rw [if_neg (fun h => e h.2), if_neg e]
theorem hI_off {σ : Sg} {a j b : Nat} {x : Int} (h : b ≠ a) : hI (wI σ a j x) b = hI σ b := by
  funext i
  rw [hI_w, if_neg (fun h9 => h h9.1)]
/-- memories moved up by one place, from the last of u down to i -/
def shH (σ : Sg) (a u i : Nat) : Sg := (fun c j => if c = a ∧ i + 40 < j ∧ j < 856 + 40 * u then σ.1 a (j - 40) else σ.1 c j, σ.2)
theorem hI_H (σ : Sg) (a u i c j : Nat) : hI (shH σ a u i) c j = if c = a ∧ i + 40 < j ∧ j < 856 + 40 * u then hI σ a (j - 40) else hI σ c j := rfl
theorem shH_0 (σ : Sg) (a u : Nat) : shH σ a u (815 + 40 * u) = σ := by
  refine Prod.ext ?_ rfl
  funext c j
  show (if c = a ∧ 815 + 40 * u + 40 < j ∧ j < 856 + 40 * u then σ.1 a (j - 40) else σ.1 c j) = σ.1 c j
  rw [if_neg (by omega)]
theorem shH_s (σ : Sg) (a u i : Nat) (hi : 816 ≤ i) (hu : i ≤ 815 + 40 * u) : wI (shH σ a u i) a (i + 40) (hI σ a i) = shH σ a u (i - 1) := by
  refine Prod.ext ?_ rfl
  funext c j
  show (if c = a ∧ j = i + 40 then hI σ a i else if c = a ∧ i + 40 < j ∧ j < 856 + 40 * u then σ.1 a (j - 40) else σ.1 c j) = if c = a ∧ i - 1 + 40 < j ∧ j < 856 + 40 * u then σ.1 a (j - 40) else σ.1 c j
  by_cases e : c = a ∧ j = i + 40
  · rw [if_pos e, if_pos (by omega), e.2, Nat.add_sub_cancel]
  · rw [if_neg e]
    by_cases e2 : c = a ∧ i + 40 < j ∧ j < 856 + 40 * u
    · rw [if_pos e2, if_pos (by omega)]
    · rw [if_neg e2, if_neg (by omega)]
section REF2
variable {G : GT} {d k n : Nat} {σ : Sg} {Q : Option AV → Sg → Prop}
theorem sp_X6_memoryNamed {a : Nat} {S : SS} {w : Int} (ha : sk σ a = (10, 1496)) (hr : Rs (hI σ a) S) (hb : Bd S) (hw : i32 w) (hs : ∀ M ∈ S.2.1, i32 (mSer M - 1)) (hdp : 1 ≤ d) (hQ1 : ∀ (i : Nat) (M : Mem), S.2.1[i]? = some M → mSer M = w + 1 → (∀ (j : Nat) (M' : Mem), j < i → S.2.1[j]? = some M' → mSer M' ≠ w + 1) → Q (some (Vi (i : Int))) σ) (hQ0 : (∀ M ∈ S.2.1, mSer M ≠ w + 1) → Q (some (Vi (-6))) σ) : WA G d k n mX6_memoryNamed 0 [Va a, Vi w, Vu] [] σ Q := by
  have h814 := hr.2.2.2.1
  have hb1 := hb.1
  have loop : ∀ r i : Nat, S.2.1.length - i = r → i ≤ S.2.1.length → (∀ (j : Nat) (M' : Mem), j < i → S.2.1[j]? = some M' → mSer M' ≠ w + 1) → WA G d k n mX6_memoryNamed 2 [Va a, Vi w, Vi (i : Int)] [] σ Q := by
    intro r
    induction r using Nat.strongRecOn with
    | ind r ih =>
    intro i hr9 hi hj
    refine ar_iload_n 3 rfl d_X6_memoryNamed_2 rfl ?_
    refine ar_aload_n 4 rfl d_X6_memoryNamed_3 rfl ?_
    refine ar_sipush 7 rfl d_X6_memoryNamed_4 rfl ?_
    refine ar_ilv (y := (S.2.1.length : Int)) 8 rfl d_X6_memoryNamed_7 (by assumption) (by omega) h814 ?_
    refine ar_icmp_ge 29 11 rfl rfl d_X6_memoryNamed_8 (by omega) (by omega) (fun g8 => ?_) (fun g8 => ?_)
    · refine ar_bipush 31 rfl d_X6_memoryNamed_29 rfl ?_
      refine WA.ret (some (Vi _)) ⟨d_X6_memoryNamed_31, rfl, Or.inl rfl⟩ ?_
      refine hQ0 (fun M hM => ?_)
      obtain ⟨j, hj2⟩ := List.getElem?_of_mem hM
      exact hj j M (by have := (List.getElem?_eq_some_iff.mp hj2).1; omega) hj2
    · have hlt : i < S.2.1.length := by omega
      have hM : S.2.1[i]? = some S.2.1[i] := List.getElem?_eq_getElem hlt
      have hs1 := hs _ (List.getElem_mem hlt)
      have hm := (hr.2.2.2.2.2 i _ hM).1
      generalize S.2.1[i] = M at hM hs1 hm
      refine ar_aload_n 12 rfl d_X6_memoryNamed_11 rfl ?_
      refine ar_iload_n 13 rfl d_X6_memoryNamed_12 rfl ?_
      refine ar_callS0 (M' := mX6_memoryAt) (As := [_]) (ls' := [Vi _]) 16 rfl d_X6_memoryNamed_13 ml_X6_147 mt_X6_memoryAt rfl (Nat.le_of_ble_eq_true rfl) rfl (Nat.le_of_ble_eq_true rfl) (by omega) ?_
      refine sp_X6_memoryAt (by omega) ?_
      refine ar_ilv (y := (mSer M - 1)) 17 rfl d_X6_memoryNamed_16 (by assumption) (by omega) (by rw [Int.toNat_natCast]; exact hm) ?_
      refine ar_iload_n 18 rfl d_X6_memoryNamed_17 rfl ?_
      refine ar_icmp_ne 23 21 rfl rfl d_X6_memoryNamed_18 (by omega) (by omega) (fun g18 => ?_) (fun g18 => ?_)
      · refine ar_inc_2 (y := ((i + 1 : Nat) : Int)) 26 rfl d_X6_memoryNamed_23 rfl (by intro _ h; cases h) (by omega) ?_
        refine ar_goto 2 rfl d_X6_memoryNamed_26 ?_
        exact ih (S.2.1.length - (i + 1)) (by omega) (i + 1) rfl (by omega) (fun j M' hj2 hj3 => by
          by_cases e : j = i
          · subst e
            rw [hM] at hj3
            cases hj3
            omega
          · exact hj j M' (by omega) hj3)
      · refine ar_iload_n 22 rfl d_X6_memoryNamed_21 rfl ?_
        refine WA.ret (some (Vi _)) ⟨d_X6_memoryNamed_22, rfl, Or.inl rfl⟩ ?_
        exact hQ1 i M hM (by omega) hj
  refine ar_iconst 1 rfl d_X6_memoryNamed_0 ?_
  refine ar_ist_2 2 rfl d_X6_memoryNamed_1 rfl (by intro _ h; cases h) ?_
  exact loop _ 0 rfl (by omega) (fun j M h => absurd h (by omega))
theorem cI_s2 (σ : Sg) (a sp dp m : Nat) (h : dp ≤ sp) : wI (cI σ a sp a dp m) a (dp + m) (hI (cI σ a sp a dp m) a (sp + m)) = cI σ a sp a dp (m + 1) := by
  rw [show hI (cI σ a sp a dp m) a (sp + m) = hI σ a (sp + m) by rw [hI_c, if_neg (by omega)]]
  exact cI_s σ a sp a dp m
theorem Rs.cut {g g' : Nat → Int} {S : SS} {p : Nat} (h : Rs g S) (hb : Bd S) (hp : p < S.2.1.length) (h1 : ∀ i, i < 816 + 40 * p → i ≠ 814 → g' i = g i) (h2 : g' 814 = ((S.2.1.length - 1 : Nat) : Int)) (h3 : ∀ i, 816 + 40 * p ≤ i → i < 816 + 40 * (S.2.1.length - 1) → g' i = g (i + 40)) : Rs g' (S.1, S.2.1.eraseIdx p, S.2.2) := by
  refine h.mem hb.2.2 (fun i hi hi2 => h1 i (by omega) hi2) (by rw [List.length_eraseIdx_of_lt hp]; exact h2) (fun q M hM => ?_)
  have hq := (List.getElem?_eq_some_iff.mp hM).1
  rw [List.length_eraseIdx_of_lt hp] at hq
  rw [List.getElem?_eraseIdx] at hM
  by_cases e : q < p
  · rw [if_pos e] at hM
    exact (h.2.2.2.2.2 q M hM).mv (hb.2.1 M (List.mem_of_getElem? hM)) (fun i hi => h1 _ (by omega) (by omega))
  · rw [if_neg e] at hM
    refine (h.2.2.2.2.2 (q + 1) M hM).mv (hb.2.1 M (List.mem_of_getElem? hM)) (fun i hi => ?_)
    rw [h3 _ (by omega) (by omega)]
    exact congrArg _ (by omega)
theorem sp_X6_cutMemory {a p : Nat} {S : SS} (ha : sk σ a = (10, 1496)) (hr : Rs (hI σ a) S) (hb : Bd S) (hp : p < S.2.1.length) (hdp : 1 ≤ d) (hQ : ∀ σ', FrI a (a + 1) σ σ' → Rs (hI σ' a) (S.1, S.2.1.eraseIdx p, S.2.2) → Q none σ') : WA G d k n mX6_cutMemory 0 [Va a, Vi (p : Int), Vu] [] σ Q := by
  have h814 := hr.2.2.2.1
  have hb1 := hb.1
  obtain ⟨c, hc⟩ : ∃ c, S.2.1.length = c + 1 := ⟨S.2.1.length - 1, by omega⟩
  have loop : ∀ r m : Nat, 40 * (c - p) - m = r → m ≤ 40 * (c - p) → WA G d k n mX6_cutMemory 14 [Va a, Vi (p : Int), Vi ((816 + 40 * p + m : Nat) : Int)] [] (cI (wI σ a 814 (c : Int)) a (816 + 40 * p + 40) a (816 + 40 * p) m) Q := by
    intro r
    induction r using Nat.strongRecOn with
    | ind r ih =>
    intro m hr9 hm
    have hka : sk (cI (wI σ a 814 (c : Int)) a (816 + 40 * p + 40) a (816 + 40 * p) m) a = (10, 1496) := ha
    have h8 : hI (cI (wI σ a 814 (c : Int)) a (816 + 40 * p + 40) a (816 + 40 * p) m) a 814 = (c : Int) := by
      rw [hI_c, if_neg (by omega), hI_w, if_pos ⟨rfl, rfl⟩]
    refine ar_iload_n 15 rfl d_X6_cutMemory_14 rfl ?_
    refine ar_aload_n 16 rfl d_X6_cutMemory_15 rfl ?_
    refine ar_sipush 19 rfl d_X6_cutMemory_16 rfl ?_
    refine ar_ilv (y := (c : Int)) 20 rfl d_X6_cutMemory_19 (by assumption) (by omega) h8 ?_
    refine ar_callS0 (M' := mX6_memoryAt) (As := [_]) (ls' := [Vi _]) 23 rfl d_X6_cutMemory_20 ml_X6_147 mt_X6_memoryAt rfl (Nat.le_of_ble_eq_true rfl) rfl (Nat.le_of_ble_eq_true rfl) (by omega) ?_
    refine sp_X6_memoryAt (by omega) ?_
    refine ar_icmp_ge 41 26 rfl rfl d_X6_cutMemory_23 (by omega) (by omega) (fun g23 => ?_) (fun g23 => ?_)
    · refine WA.ret none ⟨d_X6_cutMemory_41, rfl, rfl⟩ ?_
      have e : m = 40 * (c - p) := by omega
      subst e
      refine hQ _ ((FrI.w (by omega) (by omega)).tr (FrI.c (by omega) (by omega))) (hr.cut hb hp (fun i hi hi2 => ?_) ?_ (fun i hi hi2 => ?_))
      · rw [hI_c, if_neg (by omega), hI_w, if_neg (by omega)]
      · rw [h8, hc]
        rfl
      · rw [hI_c, if_pos (by omega), hI_w, if_neg (by omega)]
        exact congrArg _ (by omega)
    · refine ar_aload_n 27 rfl d_X6_cutMemory_26 rfl ?_
      refine ar_iload_n 28 rfl d_X6_cutMemory_27 rfl ?_
      refine ar_aload_n 29 rfl d_X6_cutMemory_28 rfl ?_
      refine ar_iload_n 30 rfl d_X6_cutMemory_29 rfl ?_
      refine ar_bipush 32 rfl d_X6_cutMemory_30 rfl ?_
      refine ar_iadd 33 rfl d_X6_cutMemory_32 ?_
      refine ar_top (y := ((816 + 40 * p + 40 + m : Nat) : Int)) (by omega) ?_
      refine ar_ilv (y := (hI (cI (wI σ a 814 (c : Int)) a (816 + 40 * p + 40) a (816 + 40 * p) m) a (816 + 40 * p + 40 + m))) 34 rfl d_X6_cutMemory_33 (by assumption) (by omega) (by rw [Int.toNat_natCast]) ?_
      refine ar_iasN (816 + 40 * p + m) 35 rfl d_X6_cutMemory_34 (by assumption) (by omega) (by omega) ?_
      refine ar_inc_2 (y := ((816 + 40 * p + (m + 1) : Nat) : Int)) 38 rfl d_X6_cutMemory_35 rfl (by intro _ h; cases h) (by omega) ?_
      refine ar_goto 14 rfl d_X6_cutMemory_38 ?_
      rw [cI_s2 _ _ _ _ _ (by omega)]
      exact ih (40 * (c - p) - (m + 1)) (by omega) (m + 1) rfl (by omega)
  have l0 := loop _ 0 rfl (by omega)
  rw [cI_0] at l0
  refine ar_aload_n 1 rfl d_X6_cutMemory_0 rfl ?_
  refine ar_sipush 4 rfl d_X6_cutMemory_1 rfl ?_
  refine ar_dup2 5 rfl d_X6_cutMemory_4 (fun _ => ⟨rfl, rfl⟩) ?_
  refine ar_ilv (y := ((c + 1 : Nat) : Int)) 6 rfl d_X6_cutMemory_5 (by assumption) (by omega) (by rw [← hc]; exact h814) ?_
  refine ar_iconst 7 rfl d_X6_cutMemory_6 ?_
  refine ar_isub 8 rfl d_X6_cutMemory_7 ?_
  refine ar_top (y := (c : Int)) (by omega) ?_
  refine ar_iasN 814 9 rfl d_X6_cutMemory_8 (by assumption) (by omega) (by omega) ?_
  refine ar_iload_n 10 rfl d_X6_cutMemory_9 rfl ?_
  refine ar_callS0 (M' := mX6_memoryAt) (As := [_]) (ls' := [Vi _]) 13 rfl d_X6_cutMemory_10 ml_X6_147 mt_X6_memoryAt rfl (Nat.le_of_ble_eq_true rfl) rfl (Nat.le_of_ble_eq_true rfl) (by omega) ?_
  refine sp_X6_memoryAt (by omega) ?_
  refine ar_ist_2 14 rfl d_X6_cutMemory_13 rfl (by intro _ h; cases h) ?_
  exact l0
theorem sp_X6_shiftMemories {a u : Nat} (ha : sk σ a = (10, 1496)) (hu : u ≤ 16) (hdp : 1 ≤ d) (hQ : Q none (shH σ a u 815)) : WA G d k n mX6_shiftMemories 0 [Va a, Vi (u : Int), Vu] [] σ Q := by
  have loop : ∀ r i : Nat, i - 815 = r → 815 ≤ i → i ≤ 815 + 40 * u → WA G d k n mX6_shiftMemories 7 [Va a, Vi (u : Int), Vi (i : Int)] [] (shH σ a u i) Q := by
    intro r
    induction r using Nat.strongRecOn with
    | ind r ih =>
    intro i hr9 hi hiu
    have hka : sk (shH σ a u i) a = (10, 1496) := ha
    refine ar_iload_n 8 rfl d_X6_shiftMemories_7 rfl ?_
    refine ar_sipush 11 rfl d_X6_shiftMemories_8 rfl ?_
    refine ar_icmp_lt 29 14 rfl rfl d_X6_shiftMemories_11 (by omega) (by omega) (fun g11 => ?_) (fun g11 => ?_)
    · refine WA.ret none ⟨d_X6_shiftMemories_29, rfl, rfl⟩ ?_
      have e : i = 815 := by omega
      subst e
      exact hQ
    · refine ar_aload_n 15 rfl d_X6_shiftMemories_14 rfl ?_
      refine ar_iload_n 16 rfl d_X6_shiftMemories_15 rfl ?_
      refine ar_bipush 18 rfl d_X6_shiftMemories_16 rfl ?_
      refine ar_iadd 19 rfl d_X6_shiftMemories_18 ?_
      refine ar_top (y := ((i + 40 : Nat) : Int)) (by omega) ?_
      refine ar_aload_n 20 rfl d_X6_shiftMemories_19 rfl ?_
      refine ar_iload_n 21 rfl d_X6_shiftMemories_20 rfl ?_
      refine ar_ilv (y := (hI σ a i)) 22 rfl d_X6_shiftMemories_21 (by assumption) (by omega) (by rw [Int.toNat_natCast, hI_H, if_neg (by omega)]) ?_
      refine ar_iasN (i + 40) 23 rfl d_X6_shiftMemories_22 (by assumption) (by omega) (by omega) ?_
      refine ar_inc_2 (y := ((i - 1 : Nat) : Int)) 26 rfl d_X6_shiftMemories_23 rfl (by intro _ h; cases h) (by omega) ?_
      refine ar_goto 7 rfl d_X6_shiftMemories_26 ?_
      rw [shH_s _ _ _ _ (by omega) hiu]
      exact ih (i - 1 - 815) (by omega) (i - 1) rfl (by omega) (by omega)
  have l0 := loop _ (815 + 40 * u) rfl (by omega) (by omega)
  rw [shH_0] at l0
  refine ar_iload_n 1 rfl d_X6_shiftMemories_0 rfl ?_
  refine ar_callS0 (M' := mX6_memoryAt) (As := [_]) (ls' := [Vi _]) 4 rfl d_X6_shiftMemories_1 ml_X6_147 mt_X6_memoryAt rfl (Nat.le_of_ble_eq_true rfl) rfl (Nat.le_of_ble_eq_true rfl) (by omega) ?_
  refine sp_X6_memoryAt (by omega) ?_
  refine ar_iconst 5 rfl d_X6_shiftMemories_4 ?_
  refine ar_isub 6 rfl d_X6_shiftMemories_5 ?_
  refine ar_top (y := ((815 + 40 * u : Nat) : Int)) (by omega) ?_
  refine ar_ist_2 7 rfl d_X6_shiftMemories_6 rfl (by intro _ h; cases h) ?_
  exact l0
theorem Rs.take {g g' : Nat → Int} {S : SS} {r : Nat} (h : Rs g S) (hb : ∀ l, l < 6 → (S.2.2 l).length < 60) (hm : S.2.1.length ≤ 17 ∧ ∀ M ∈ S.2.1, (mLk M).length ≤ 17) (h1 : ∀ i, i ≠ 814 → g' i = g i) (h2 : g' 814 = ((S.2.1.take r).length : Int)) : Rs g' (S.1, S.2.1.take r, S.2.2) := by
  refine h.mem hb (fun i hi hi2 => h1 i hi2) h2 (fun q M hM => ?_)
  have hq := (List.getElem?_eq_some_iff.mp hM).1
  rw [List.length_take] at hq
  rw [List.getElem?_take_of_lt (by omega)] at hM
  exact (h.2.2.2.2.2 q M hM).mv (hm.2 M (List.mem_of_getElem? hM)) (fun i hi => h1 _ (by omega))
theorem sp_X6_trim {a r : Nat} {S : SS} (ha : sk σ a = (10, 1496)) (hr : Rs (hI σ a) S) (hb : ∀ l, l < 6 → (S.2.2 l).length < 60) (hm : S.2.1.length ≤ 17 ∧ ∀ M ∈ S.2.1, (mLk M).length ≤ 17) (hr0 : S.1 0 = (r : Int)) (hr1 : r ≤ 16) (hQ : ∀ σ', FrI a (a + 1) σ σ' → Rs (hI σ' a) (S.1, S.2.1.take r, S.2.2) → Q none σ') : WA G d k n mX6_trim 0 [Va a] [] σ Q := by
  have h814 := hr.2.2.2.1
  have h0 : hI σ a 0 = (r : Int) := by rw [hr.1 0 (by omega)]; exact hr0
  have hm1 := hm.1
  refine ar_aload_n 1 rfl d_X6_trim_0 rfl ?_
  refine ar_sipush 4 rfl d_X6_trim_1 rfl ?_
  refine ar_ilv (y := (S.2.1.length : Int)) 5 rfl d_X6_trim_4 (by assumption) (by omega) h814 ?_
  refine ar_aload_n 6 rfl d_X6_trim_5 rfl ?_
  refine ar_iconst 7 rfl d_X6_trim_6 ?_
  refine ar_ilv (y := (r : Int)) 8 rfl d_X6_trim_7 (by assumption) (by omega) h0 ?_
  refine ar_icmp_le 19 11 rfl rfl d_X6_trim_8 (by omega) (by omega) (fun g8 => ?_) (fun g8 => ?_)
  · refine WA.ret none ⟨d_X6_trim_19, rfl, rfl⟩ ?_
    refine hQ σ FrI.rf (hr.take hb hm (fun i _ => rfl) ?_)
    rw [h814, List.length_take]
    omega
  · refine ar_aload_n 12 rfl d_X6_trim_11 rfl ?_
    refine ar_sipush 15 rfl d_X6_trim_12 rfl ?_
    refine ar_aload_n 16 rfl d_X6_trim_15 rfl ?_
    refine ar_iconst 17 rfl d_X6_trim_16 ?_
    refine ar_ilv (y := (r : Int)) 18 rfl d_X6_trim_17 (by assumption) (by omega) h0 ?_
    refine ar_iasN 814 19 rfl d_X6_trim_18 (by assumption) (by omega) (by omega) ?_
    refine WA.ret none ⟨d_X6_trim_19, rfl, rfl⟩ ?_
    refine hQ _ (FrI.w (by omega) (by omega)) (hr.take hb hm (fun i hi => ?_) ?_)
    · rw [hI_w, if_neg (by omega)]
    · rw [hI_w, if_pos ⟨rfl, rfl⟩, List.length_take]
      omega
theorem Rs.use {g g' : Nat → Int} {S : SS} {p : Nat} {M : Mem} (h : Rs g S) (hb : Bd S) (hM : S.2.1[p]? = some M) (h1 : ∀ i, i < 816 → g' i = g i) (h2 : ∀ i, i < 40 → i ≠ 5 → g' (816 + i) = g (816 + 40 * p + i)) (h5 : g' 821 = mUses M + 1) (h3 : ∀ i, 856 ≤ i → i < 856 + 40 * p → g' i = g (i - 40)) (h4 : ∀ i, 856 + 40 * p ≤ i → g' i = g i) : Rs g' (S.1, useL S.2.1 p, S.2.2) := by
  have hp := (List.getElem?_eq_some_iff.mp hM).1
  have hu : useL S.2.1 p = mUse M :: S.2.1.eraseIdx p := by
    unfold useL
    rw [hM]
  have hb1 := hb.1
  refine h.mem hb.2.2 (fun i hi hi2 => h1 i (by omega)) ?_ (fun q M' hM' => ?_)
  · rw [hu, List.length_cons, List.length_eraseIdx_of_lt hp, h1 _ (by omega), h.2.2.2.1]
    omega
  · rw [hu] at hM'
    cases q with
    | zero =>
      simp only [List.getElem?_cons_zero] at hM'
      cases hM'
      obtain ⟨b0, b1, b2, b3, b4, b5, b6⟩ := h.2.2.2.2.2 p M hM
      refine ⟨by rw [h2 0 (by omega) (by omega)]; exact b0, by rw [h2 1 (by omega) (by omega)]; exact b1, by rw [h2 2 (by omega) (by omega)]; exact b2, by rw [h2 3 (by omega) (by omega)]; exact b3, by rw [h2 4 (by omega) (by omega)]; exact b4, h5, fun i x hx => ?_⟩
      have hx : (mLk M)[i]? = some x := hx
      have hi := (List.getElem?_eq_some_iff.mp hx).1
      have := hb.2.1 M (List.mem_of_getElem? hM)
      have b7 := b6 i x hx
      rw [show 816 + 40 * 0 + 6 + i = 816 + (6 + i) by omega, show 816 + 40 * 0 + 23 + i = 816 + (23 + i) by omega, h2 _ (by omega) (by omega), h2 _ (by omega) (by omega), ← Nat.add_assoc, ← Nat.add_assoc]
      exact b7
    | succ q =>
      rw [List.getElem?_cons_succ, List.getElem?_eraseIdx] at hM'
      by_cases e : q < p
      · rw [if_pos e] at hM'
        refine (h.2.2.2.2.2 q M' hM').mv (hb.2.1 M' (List.mem_of_getElem? hM')) (fun i hi => ?_)
        rw [h3 _ (by omega) (by omega)]
        exact congrArg _ (by omega)
      · rw [if_neg e] at hM'
        exact (h.2.2.2.2.2 (q + 1) M' hM').mv (hb.2.1 M' (List.mem_of_getElem? hM')) (fun i hi => h4 _ (by omega))
theorem sp_X6_useMemory {a p l : Nat} {S : SS} {M : Mem} (h625 : (sk σ 625).1 = 7) (h636 : sk σ 636 = (10, 40)) (hf15 : hR σ 625 15 = some 636) (ha : sk σ a = (10, 1496)) (ha6 : a ≠ 636 ∧ a ≠ 625) (hr : Rs (hI σ a) S) (hb : Bd S) (hM : S.2.1[p]? = some M) (hl : mLoaf M = (l : Int)) (hl6 : l < 6) (hdp : 2 ≤ d) (hQ : ∀ σ', σ'.2 = σ.2 → (∀ b, b ≠ a → b ≠ 636 → hI σ' b = hI σ b) → Rs (hI σ' a) (useS l p M S) → Q none σ') : WA G d k n mX6_useMemory 0 [Va 625, Va a, Vi (p : Int), Vu] [] σ Q := by
  have hp := (List.getElem?_eq_some_iff.mp hM).1
  have hb1 := hb.1
  have hmp := hr.2.2.2.2.2 p M hM
  have loop2 : ∀ r i : Nat, 40 - i = r → i ≤ 40 → WA G d k n mX6_useMemory 35 [Va 625, Va a, Vi (p : Int), Vi (i : Int)] [] (cI (shH (cI σ a (816 + 40 * p) 636 0 40) a p 815) 636 0 a 816 i) Q := by
    intro r
    induction r using Nat.strongRecOn with
    | ind r ih =>
    intro i hr9 hi
    have hka : sk (cI (shH (cI σ a (816 + 40 * p) 636 0 40) a p 815) 636 0 a 816 i) a = (10, 1496) := ha
    have hkh : sk (cI (shH (cI σ a (816 + 40 * p) 636 0 40) a p 815) 636 0 a 816 i) 636 = (10, 40) := h636
    have hkt : (sk (cI (shH (cI σ a (816 + 40 * p) 636 0 40) a p 815) 636 0 a 816 i) 625).1 = 7 := h625
    have hrf : hR (cI (shH (cI σ a (816 + 40 * p) 636 0 40) a p 815) 636 0 a 816 i) 625 15 = some 636 := hf15
    refine ar_iload_n 36 rfl d_X6_useMemory_35 rfl ?_
    refine ar_bipush 38 rfl d_X6_useMemory_36 rfl ?_
    refine ar_icmp_ge 60 41 rfl rfl d_X6_useMemory_38 (by omega) (by omega) (fun g38 => ?_) (fun g38 => ?_)
    · have e : i = 40 := by omega
      subst e
      have hg1 : ∀ j, hI (cI (shH (cI σ a (816 + 40 * p) 636 0 40) a p 815) 636 0 a 816 40) a j = if 816 ≤ j ∧ j < 856 then hI σ a (816 + 40 * p + (j - 816)) else if 855 < j ∧ j < 856 + 40 * p then hI σ a (j - 40) else hI σ a j := by
        intro j
        rw [hI_c]
        by_cases c1 : 816 ≤ j ∧ j < 856
        · rw [if_pos (by omega), if_pos c1, hI_H, if_neg (by omega), hI_c, if_pos (by omega)]
          exact congrArg _ (by omega)
        · rw [if_neg (by omega), if_neg c1, hI_H]
          by_cases c2 : 855 < j ∧ j < 856 + 40 * p
          · rw [if_pos (by omega), if_pos c2, hI_c, if_neg (by omega)]
          · rw [if_neg (by omega), if_neg c2, hI_c, if_neg (by omega)]
      have hgo : ∀ b, b ≠ a → b ≠ 636 → hI (cI (shH (cI σ a (816 + 40 * p) 636 0 40) a p 815) 636 0 a 816 40) b = hI σ b := by
        intro b h1 h2
        funext j
        rw [hI_c, if_neg (by omega), hI_H, if_neg (by omega), hI_c, if_neg (by omega)]
      have hs2 : (cI (shH (cI σ a (816 + 40 * p) 636 0 40) a p 815) 636 0 a 816 40).2 = σ.2 := rfl
      generalize cI (shH (cI σ a (816 + 40 * p) 636 0 40) a p 815) 636 0 a 816 40 = σ1 at hka hg1 hgo hs2
      obtain ⟨b0, b1, b2, b3, b4, b5, b6⟩ := hmp
      have h1r : Rs (hI (wI σ1 a 821 (mUses M + 1)) a) (S.1, useL S.2.1 p, S.2.2) := by
        rw [hI_row]
        refine hr.use hb hM (fun i hi => ?_) (fun i hi hi2 => ?_) ?_ (fun i hi hi2 => ?_) (fun i hi => ?_)
        · rw [uf_n (by omega), hg1, if_neg (by omega), if_neg (by omega)]
        · rw [uf_n (by omega), hg1, if_pos (by omega)]
          exact congrArg _ (by omega)
        · exact uf_s _ _ _
        · rw [uf_n (by omega), hg1, if_neg (by omega), if_pos (by omega)]
        · rw [uf_n (by omega), hg1, if_neg (by omega), if_neg (by omega)]
      have h2r := Rs.upd (i := 806 + l) (v := S.1 (806 + l) + 1) (Rs.upd (i := 813) (v := S.1 813 + mSteps M) h1r hb.2.2 (by omega)) hb.2.2 (by omega)
      have e821 : hI σ1 a 821 = mUses M := by rw [hg1, if_pos (by omega)]; exact b5
      have e820 : hI (wI σ1 a 821 (mUses M + 1)) a 820 = mSteps M := by rw [hI_w, if_neg (by omega), hg1, if_pos (by omega)]; exact b4
      have e813 : hI (wI σ1 a 821 (mUses M + 1)) a 813 = S.1 813 := h1r.2.2.1 813 (by omega) (by omega)
      have e817 : hI (wI (wI σ1 a 821 (mUses M + 1)) a 813 (S.1 813 + mSteps M)) a 817 = (l : Int) := by rw [hI_w, if_neg (by omega), hI_w, if_neg (by omega), hg1, if_pos (by omega), ← hl]; exact b1
      have e806 : hI (wI (wI σ1 a 821 (mUses M + 1)) a 813 (S.1 813 + mSteps M)) a (806 + l) = S.1 (806 + l) := by rw [hI_w, if_neg (by omega)]; exact h1r.2.2.1 _ (by omega) (by omega)
      refine ar_aload_n 61 rfl d_X6_useMemory_60 rfl ?_
      refine ar_sipush 64 rfl d_X6_useMemory_61 rfl ?_
      refine ar_dup2 65 rfl d_X6_useMemory_64 (fun _ => ⟨rfl, rfl⟩) ?_
      refine ar_ilv (y := (mUses M)) 66 rfl d_X6_useMemory_65 (by assumption) (by omega) e821 ?_
      refine ar_iconst 67 rfl d_X6_useMemory_66 ?_
      refine ar_iadd 68 rfl d_X6_useMemory_67 ?_
      refine ar_iasN 821 69 rfl d_X6_useMemory_68 (by assumption) (by omega) (by omega) ?_
      refine ar_aload_n 70 rfl d_X6_useMemory_69 rfl ?_
      refine ar_sipush 73 rfl d_X6_useMemory_70 rfl ?_
      refine ar_dup2 74 rfl d_X6_useMemory_73 (fun _ => ⟨rfl, rfl⟩) ?_
      refine ar_ilv (y := (S.1 813)) 75 rfl d_X6_useMemory_74 (by assumption) (by omega) e813 ?_
      refine ar_aload_n 76 rfl d_X6_useMemory_75 rfl ?_
      refine ar_sipush 79 rfl d_X6_useMemory_76 rfl ?_
      refine ar_ilv (y := (mSteps M)) 80 rfl d_X6_useMemory_79 (by assumption) (by omega) e820 ?_
      refine ar_iadd 81 rfl d_X6_useMemory_80 ?_
      refine ar_iasN 813 82 rfl d_X6_useMemory_81 (by assumption) (by omega) (by omega) ?_
      refine ar_aload_n 83 rfl d_X6_useMemory_82 rfl ?_
      refine ar_sipush 86 rfl d_X6_useMemory_83 rfl ?_
      refine ar_aload_n 87 rfl d_X6_useMemory_86 rfl ?_
      refine ar_sipush 90 rfl d_X6_useMemory_87 rfl ?_
      refine ar_ilv (y := (l : Int)) 91 rfl d_X6_useMemory_90 (by assumption) (by omega) e817 ?_
      refine ar_iadd 92 rfl d_X6_useMemory_91 ?_
      refine ar_top (y := ((806 + l : Nat) : Int)) (by omega) ?_
      refine ar_dup2 93 rfl d_X6_useMemory_92 (fun _ => ⟨rfl, rfl⟩) ?_
      refine ar_ilv (y := (S.1 (806 + l))) 94 rfl d_X6_useMemory_93 (by assumption) (by omega) (by rw [Int.toNat_natCast]; exact e806) ?_
      refine ar_iconst 95 rfl d_X6_useMemory_94 ?_
      refine ar_iadd 96 rfl d_X6_useMemory_95 ?_
      refine ar_iasN (806 + l) 97 rfl d_X6_useMemory_96 (by assumption) (by omega) (by omega) ?_
      refine WA.ret none ⟨d_X6_useMemory_97, rfl, rfl⟩ ?_
      refine hQ _ hs2 (fun b h1 h2 => ?_) ?_
      · rw [hI_off h1, hI_off h1, hI_off h1]
        exact hgo b h1 h2
      · rw [hI_row, hI_row]
        unfold useS
        have hcm : uf (uf S.1 (806 + l) (S.1 (806 + l) + 1)) 813 (S.1 813 + mSteps M) = uf (uf S.1 813 (S.1 813 + mSteps M)) (806 + l) (S.1 (806 + l) + 1) := by
          funext j
          unfold uf
          by_cases c1 : j = 813
          · rw [if_pos c1, if_neg (by omega), if_pos c1]
          · rw [if_neg c1]
            by_cases c2 : j = 806 + l
            · rw [if_pos c2, if_pos c2]
            · rw [if_neg c2, if_neg c2, if_neg c1]
        rw [hcm]
        exact h2r
    · refine ar_aload_n 42 rfl d_X6_useMemory_41 rfl ?_
      refine ar_sipush 45 rfl d_X6_useMemory_42 rfl ?_
      refine ar_iload_n 46 rfl d_X6_useMemory_45 rfl ?_
      refine ar_iadd 47 rfl d_X6_useMemory_46 ?_
      refine ar_top (y := ((816 + i : Nat) : Int)) (by omega) ?_
      refine ar_aload_n 48 rfl d_X6_useMemory_47 rfl ?_
      refine ar_getA 51 rfl d_X6_useMemory_48 fl_X6_41 rfl (by first | assumption | exact hka) (by assumption) ?_
      refine ar_iload_n 52 rfl d_X6_useMemory_51 rfl ?_
      refine ar_ilv (y := (hI (shH (cI σ a (816 + 40 * p) 636 0 40) a p 815) 636 (0 + i))) 53 rfl d_X6_useMemory_52 (by first | assumption | exact hka) (by omega) (by rw [Int.toNat_natCast, hI_c, if_neg (by omega), Nat.zero_add]) ?_
      refine ar_iasN (816 + i) 54 rfl d_X6_useMemory_53 (by first | assumption | exact hka) (by omega) (by omega) ?_
      refine ar_inc_3 (y := ((i + 1 : Nat) : Int)) 57 rfl d_X6_useMemory_54 rfl (by intro _ h; cases h) (by omega) ?_
      refine ar_goto 35 rfl d_X6_useMemory_57 ?_
      rw [cI_s]
      exact ih (40 - (i + 1)) (by omega) (i + 1) rfl (by omega)
  have loop1 : ∀ r i : Nat, 40 - i = r → i ≤ 40 → WA G d k n mX6_useMemory 2 [Va 625, Va a, Vi (p : Int), Vi (i : Int)] [] (cI σ a (816 + 40 * p) 636 0 i) Q := by
    intro r
    induction r using Nat.strongRecOn with
    | ind r ih =>
    intro i hr9 hi
    have hka : sk (cI σ a (816 + 40 * p) 636 0 i) a = (10, 1496) := ha
    have hkh : sk (cI σ a (816 + 40 * p) 636 0 i) 636 = (10, 40) := h636
    have hkt : (sk (cI σ a (816 + 40 * p) 636 0 i) 625).1 = 7 := h625
    have hrf : hR (cI σ a (816 + 40 * p) 636 0 i) 625 15 = some 636 := hf15
    refine ar_iload_n 3 rfl d_X6_useMemory_2 rfl ?_
    refine ar_bipush 5 rfl d_X6_useMemory_3 rfl ?_
    refine ar_icmp_ge 28 8 rfl rfl d_X6_useMemory_5 (by omega) (by omega) (fun g5 => ?_) (fun g5 => ?_)
    · have e : i = 40 := by omega
      subst e
      have l2 := loop2 _ 0 rfl (by omega)
      rw [cI_0] at l2
      refine ar_aload_n 29 rfl d_X6_useMemory_28 rfl ?_
      refine ar_iload_n 30 rfl d_X6_useMemory_29 rfl ?_
      refine ar_callS0 (M' := mX6_shiftMemories) (As := [_, _]) (ls' := [Vr _, Vi _, Vu]) 33 rfl d_X6_useMemory_30 ml_X6_151 mt_X6_shiftMemories rfl (Nat.le_of_ble_eq_true rfl) rfl (Nat.le_of_ble_eq_true rfl) (by omega) ?_
      refine sp_X6_shiftMemories (by assumption) (by omega) (by omega) ?_
      refine ar_iconst 34 rfl d_X6_useMemory_33 ?_
      refine ar_ist_3 35 rfl d_X6_useMemory_34 rfl (by intro _ h; cases h) ?_
      exact l2
    · refine ar_aload_n 9 rfl d_X6_useMemory_8 rfl ?_
      refine ar_getA 12 rfl d_X6_useMemory_9 fl_X6_41 rfl (by assumption) (by assumption) ?_
      refine ar_iload_n 13 rfl d_X6_useMemory_12 rfl ?_
      refine ar_aload_n 14 rfl d_X6_useMemory_13 rfl ?_
      refine ar_iload_n 15 rfl d_X6_useMemory_14 rfl ?_
      refine ar_callS0 (M' := mX6_memoryAt) (As := [_]) (ls' := [Vi _]) 18 rfl d_X6_useMemory_15 ml_X6_147 mt_X6_memoryAt rfl (Nat.le_of_ble_eq_true rfl) rfl (Nat.le_of_ble_eq_true rfl) (by omega) ?_
      refine sp_X6_memoryAt (by omega) ?_
      refine ar_iload_n 19 rfl d_X6_useMemory_18 rfl ?_
      refine ar_iadd 20 rfl d_X6_useMemory_19 ?_
      refine ar_top (y := ((816 + 40 * p + i : Nat) : Int)) (by omega) ?_
      refine ar_ilv (y := (hI σ a (816 + 40 * p + i))) 21 rfl d_X6_useMemory_20 (by assumption) (by omega) (by rw [Int.toNat_natCast, hI_c, if_neg (by omega)]) ?_
      refine ar_iasN (0 + i) 22 rfl d_X6_useMemory_21 (by assumption) (by omega) (by omega) ?_
      refine ar_inc_3 (y := ((i + 1 : Nat) : Int)) 25 rfl d_X6_useMemory_22 rfl (by intro _ h; cases h) (by omega) ?_
      refine ar_goto 2 rfl d_X6_useMemory_25 ?_
      rw [cI_s]
      exact ih (40 - (i + 1)) (by omega) (i + 1) rfl (by omega)
  have l0 := loop1 _ 0 rfl (by omega)
  rw [cI_0] at l0
  refine ar_iconst 1 rfl d_X6_useMemory_0 ?_
  refine ar_ist_3 2 rfl d_X6_useMemory_1 rfl (by intro _ h; cases h) ?_
  exact l0
end REF2
