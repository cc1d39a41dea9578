/-- behind a part of asking: what stays, and how many numbers were given at most -/
def Grow (S S' : SS) (w : Nat) : Prop := (∀ i, i < 32 → S'.1 i = S.1 i) ∧ S'.2.2 = S.2.2 ∧ S.1 815 ≤ S'.1 815 ∧ S'.1 815 ≤ S.1 815 + (w : Int) ∧ WFS S' ∧ ∀ M' ∈ S'.2.1, mSer M' ≤ S.1 815 → ∃ M ∈ S.2.1, mSame M M'
theorem Grow.rf {S : SS} (h : WFS S) : Grow S S 0 := ⟨fun _ _ => rfl, rfl, Int.le_refl _, by simp, h, fun M hM _ => ⟨M, hM, mSame.rf M⟩⟩
theorem Grow.tr {S S1 S2 : SS} {a b : Nat} (h : Grow S S1 a) (h2 : Grow S1 S2 b) : Grow S S2 (a + b) := by
  refine ⟨fun i hi => (h2.1 i hi).trans (h.1 i hi), h2.2.1.trans h.2.1, Int.le_trans h.2.2.1 h2.2.2.1, ?_, h2.2.2.2.2.1, fun M' hM' hz => ?_⟩
  · have a1 := h.2.2.2.1
    have a2 := h2.2.2.2.1
    omega
  · obtain ⟨M1, hM1, e1⟩ := h2.2.2.2.2.2 M' hM' (by have := h.2.2.1; omega)
    obtain ⟨M, hM, e⟩ := h.2.2.2.2.2 M1 hM1 (by have := e1.2.2.2.1; omega)
    exact ⟨M, hM, e.tr e1⟩
theorem Grow.le {S S' : SS} {a b : Nat} (h : Grow S S' a) (hl : a ≤ b) : Grow S S' b := ⟨h.1, h.2.1, h.2.2.1, by have := h.2.2.2.1; omega, h.2.2.2.2⟩
theorem WFM.le {z z' : Int} {M : Mem} (h : WFM z M) (hz : z ≤ z') : WFM z' M := ⟨h.1, h.2.1, h.2.2.1, h.2.2.2.1, h.2.2.2.2.1, by have := h.2.2.2.2.2.1; omega, h.2.2.2.2.2.2⟩
theorem nd_use {L : List Mem} {p : Nat} {M : Mem} (hM : L[p]? = some M) (hn : (L.map mSer).Nodup) : (mSer M :: (L.eraseIdx p).map mSer).Nodup := by
  induction L generalizing p with
  | nil => simp at hM
  | cons x t ih =>
    rw [List.map_cons, List.nodup_cons] at hn
    cases p with
    | zero =>
      simp only [List.getElem?_cons_zero] at hM
      cases hM
      rw [List.eraseIdx_cons_zero, List.nodup_cons]
      exact hn
    | succ p =>
      rw [List.getElem?_cons_succ] at hM
      have h1 := ih hM hn.2
      rw [List.nodup_cons] at h1
      rw [List.eraseIdx_cons_succ, List.map_cons, List.nodup_cons, List.nodup_cons]
      have hMt : M ∈ t := List.mem_of_getElem? hM
      refine ⟨fun hm => ?_, fun hm => ?_, h1.2⟩
      · rcases List.mem_cons.mp hm with e | e
        · exact hn.1 (e ▸ List.mem_map.mpr ⟨M, hMt, rfl⟩)
        · exact h1.1 e
      · obtain ⟨y, hy, e⟩ := List.mem_map.mp hm
        exact hn.1 (e ▸ List.mem_map.mpr ⟨y, List.mem_of_mem_eraseIdx hy, rfl⟩)
theorem useS_g {S : SS} {l p : Nat} {M : Mem} (hl : l < 6) (h : WFS S) (hM : S.2.1[p]? = some M) : Grow S (useS l p M S) 0 := by
  have hp := (List.getElem?_eq_some_iff.mp hM).1
  have hu : useL S.2.1 p = mUse M :: S.2.1.eraseIdx p := by
    unfold useL
    rw [hM]
  have hf : ∀ i, (i < 32 ∨ i = 815) → (useS l p M S).1 i = S.1 i := by
    intro i hi
    show uf (uf S.1 (806 + l) _) 813 _ i = _
    rw [uf_n (by omega), uf_n (by omega)]
  have hMM := List.mem_of_getElem? hM
  refine ⟨fun i hi => hf i (Or.inl hi), rfl, by rw [hf _ (Or.inr rfl)]; exact Int.le_refl _, by rw [hf _ (Or.inr rfl)]; simp, ?_, ?_⟩
  · obtain ⟨a1, a2, a3, a4, a5, a6, a7, a8, a9⟩ := h
    refine ⟨by rw [hf 0 (by omega)]; exact a1, by rw [hf 1 (by omega)]; exact a2, fun i hi => by rw [hf _ (by omega)]; exact a3 i hi, fun i hi => by rw [hf _ (by omega)]; exact a4 i hi, by rw [hf _ (by omega)]; exact a5, ?_, fun M' hM' => ?_, ?_, a9⟩
    · rw [hf 0 (by omega)]
      show (((useL S.2.1 p).length : Nat) : Int) ≤ _
      rw [hu, List.length_cons, List.length_eraseIdx_of_lt hp]
      omega
    · rw [hf _ (Or.inr rfl)]
      have hM' : M' ∈ useL S.2.1 p := hM'
      rw [hu] at hM'
      rcases List.mem_cons.mp hM' with e | e
      · subst e
        exact a7 M hMM
      · exact a7 M' (List.mem_of_mem_eraseIdx e)
    · show ((useL S.2.1 p).map mSer).Nodup
      rw [hu, List.map_cons]
      exact nd_use (M := M) hM a8
  · intro M' hM' _
    have hM' : M' ∈ useL S.2.1 p := hM'
    rw [hu] at hM'
    rcases List.mem_cons.mp hM' with e | e
    · subst e
      exact ⟨M, hMM, ⟨rfl, rfl, rfl, rfl, rfl⟩⟩
    · exact ⟨M', List.mem_of_mem_eraseIdx e, mSame.rf M'⟩
theorem wfs_of {S S' : SS} (h : WFS S) (h32 : ∀ i, i < 32 → S'.1 i = S.1 i) (hz : S.1 815 ≤ S'.1 815) (hlen : (S'.2.1.length : Int) ≤ S.1 0) (hM : ∀ M ∈ S'.2.1, WFM (S'.1 815) M) (hn : (S'.2.1.map mSer).Nodup) (hr : S'.2.2 = S.2.2) : WFS S' := by
  obtain ⟨a1, a2, a3, a4, a5, a6, a7, a8, a9⟩ := h
  refine ⟨?_, ?_, fun i hi => ?_, fun i hi => ?_, by omega, ?_, hM, hn, ?_⟩
  · rw [h32 0 (by omega)]; exact a1
  · rw [h32 1 (by omega)]; exact a2
  · rw [h32 _ (by omega)]; exact a3 i hi
  · rw [h32 _ (by omega)]; exact a4 i hi
  · rw [h32 0 (by omega)]; exact hlen
  · rw [hr]; exact a9
theorem bakeS_g {S : SS} {l : Nat} {d : List (Int × Int)} {n v : Int} (hl : l < 6) (h : WFS S) (hd : WFl l d) (hv : 0 ≤ v ∧ v ≤ 100) : Grow S (bakeS l S d n v) 1 := by
  have h0 := h
  obtain ⟨a1, a2, a3, a4, a5, a6, a7, a8, a9⟩ := h0
  unfold bakeS
  by_cases e : v ≠ 100 ∨ S.1 1 = 1
  · rw [if_pos e]
    generalize hS' : ((uf (uf (uf S.1 (800 + l) (S.1 (800 + l) + 1)) 812 (S.1 812 + n)) 815 (S.1 815 + 1), keepL S.2.1 ((l : Int), v, n, 0, 0, d) (S.1 815 + 1) (S.1 0).toNat, S.2.2) : SS) = S'
    have hf : ∀ i, i < 32 → S'.1 i = S.1 i := by
      intro i hi
      rw [← hS']
      show uf (uf (uf S.1 (800 + l) _) 812 _) 815 _ i = _
      rw [uf_n (by omega), uf_n (by omega), uf_n (by omega)]
    have hz : S'.1 815 = S.1 815 + 1 := by
      rw [← hS']
      exact uf_s (uf (uf S.1 (800 + l) (S.1 (800 + l) + 1)) 812 (S.1 812 + n)) 815 (S.1 815 + 1)
    have hL : S'.2.1 = List.take (S.1 0).toNat ((((l : Int), v, n, 0 + 1, S.1 815 + 1, d) : Mem) :: S.2.1) := by rw [← hS']; rfl
    have hr : S'.2.2 = S.2.2 := by rw [← hS']
    have hmem : ∀ M ∈ S'.2.1, M = ((l : Int), v, n, 0 + 1, S.1 815 + 1, d) ∨ M ∈ S.2.1 := by
      intro M hM
      rw [hL] at hM
      exact List.mem_cons.mp (List.mem_of_mem_take hM)
    refine ⟨hf, hr, by omega, by omega, wfs_of h hf (by omega) ?_ (fun M hM => ?_) ?_ hr, fun M hM hz2 => ?_⟩
    · rw [hL]
      have := List.length_take_le (S.1 0).toNat ((((l : Int), v, n, 0 + 1, S.1 815 + 1, d) : Mem) :: S.2.1)
      omega
    · rw [hz]
      rcases hmem M hM with e2 | e2
      · subst e2
        refine ⟨?_, ?_, hv.1, hv.2, ?_, Int.le_refl _, ?_⟩
        · show (0 : Int) ≤ (l : Int)
          omega
        · show (l : Int) < 6
          omega
        · show 0 < S.1 815 + 1
          omega
        · show WFl ((l : Int)).toNat d
          rw [Int.toNat_natCast]
          exact hd
      · exact (a7 M e2).le (by omega)
    · have h1 : (((((l : Int), v, n, 0 + 1, S.1 815 + 1, d) : Mem) :: S.2.1).map mSer).Nodup := by
        rw [List.map_cons, List.nodup_cons]
        refine ⟨fun hm => ?_, a8⟩
        obtain ⟨y, hy, e2⟩ := List.mem_map.mp hm
        have := (a7 y hy).2.2.2.2.2.1
        have e2 : mSer y = S.1 815 + 1 := e2
        omega
      rw [hL]
      exact h1.sublist ((List.take_sublist _ _).map mSer)
    · rcases hmem M hM with e2 | e2
      · subst e2
        have hz2 : S.1 815 + 1 ≤ S.1 815 := hz2
        omega
      · exact ⟨M, e2, mSame.rf M⟩
  · rw [if_neg e]
    generalize hS' : ((uf (uf S.1 (800 + l) (S.1 (800 + l) + 1)) 812 (S.1 812 + n), S.2.1, S.2.2) : SS) = S'
    have hf : ∀ i, (i < 32 ∨ i = 815) → S'.1 i = S.1 i := by
      intro i hi
      rw [← hS']
      show uf (uf S.1 (800 + l) _) 812 _ i = _
      rw [uf_n (by omega), uf_n (by omega)]
    have hz := hf 815 (Or.inr rfl)
    have hL : S'.2.1 = S.2.1 := by rw [← hS']
    have hr : S'.2.2 = S.2.2 := by rw [← hS']
    refine ⟨fun i hi => hf i (Or.inl hi), hr, by omega, by omega, wfs_of h (fun i hi => hf i (Or.inl hi)) (by omega) (by rw [hL]; exact a6) (fun M hM => ?_) (by rw [hL]; exact a8) hr, fun M hM _ => ⟨M, by rw [← hL]; exact hM, mSame.rf M⟩⟩
    rw [hL] at hM
    rw [hz]
    exact a7 M hM
-- asking keeps what is right
def PA (l : Nat) (A : AF) : Prop := ∀ (k : Nat) (S : SS), k < l → WFS S → Grow S (A (k : Int) S).1 (18 ^ k) ∧ 0 ≤ (A (k : Int) S).2 ∧ (A (k : Int) S).2 ≤ 100
theorem valA_g {A : AF} {l : Nat} {key : Int} {S : SS} (hA : PA l A) (hk : VK l key) (h : WFS S) : Grow S (valA A key S).1 (wt key) ∧ 0 ≤ (valA A key S).2 ∧ (valA A key S).2 ≤ 100 := by
  unfold valA wt
  by_cases e : 20 ≤ key
  · rw [if_pos e, if_pos e]
    have hkl : (key - 20).toNat < l := by rcases hk with k | k <;> omega
    have h1 := hA (key - 20).toNat S hkl h
    rw [show (((key - 20).toNat : Nat) : Int) = key - 20 by omega] at h1
    exact h1
  · rw [if_neg e, if_neg e]
    refine ⟨Grow.rf h, ?_⟩
    show 0 ≤ sv S.1 key ∧ sv S.1 key ≤ 100
    unfold sv
    split
    · rename_i hs
      have := h.2.2.1 key.toNat (by omega)
      omega
    · omega
theorem okA_g {A : AF} {l : Nat} {i : Int} (hA : PA l A) : ∀ (d : List (Int × Int)) (S : SS), (∀ x ∈ d, VK l x.1) → WFS S → Grow S (okA A i d S).1 (cD d)
  | [], S, _, h => Grow.rf h
  | x :: t, S, hd, h => by
    have h1 := valA_g hA (hd x List.mem_cons_self) h
    have hc : cD (x :: t) = wt x.1 + cD t := by
      unfold cD
      rw [List.map_cons, List.sum_cons]
    rw [okA]
    split
    · rw [hc]
      exact h1.1.tr (okA_g hA t _ (fun y hy => hd y (List.mem_cons_of_mem _ hy)) h1.1.2.2.2.2.1)
    · exact h1.1.le (by omega)
def Wn : Nat → Nat
  | 0 => 0
  | l + 1 => Wn l + 18 ^ l
theorem Wn_e : ∀ l, 17 * Wn l + 1 = 18 ^ l
  | 0 => rfl
  | l + 1 => by
    have := Wn_e l
    rw [Wn, Nat.pow_succ]
    omega
theorem cD_W {l : Nat} {d : List (Int × Int)} (h : WFl l d) : cD d ≤ Wn l := by
  have h1 := cD_le h
  have h2 := Wn_e l
  omega
/-- a memory of an old number is the one that had it -/
theorem old_of {S0 S : SS} {w l : Nat} {M : Mem} {i : Int} (h0 : WFS S0) (hg : Grow S0 S w) (hM : M ∈ S.2.1) (hi : mSer M = i) (hids : ∃ M0 ∈ S0.2.1, mSer M0 = i ∧ mLoaf M0 = (l : Int)) : mLoaf M = (l : Int) := by
  obtain ⟨M0, hM0, e0, e1⟩ := hids
  obtain ⟨M1, hM1, e2⟩ := hg.2.2.2.2.2 M hM (by rw [hi, ← e0]; exact (h0.2.2.2.2.2.2.1 M0 hM0).2.2.2.2.2.1)
  have e3 : mSer M1 = mSer M0 := by rw [← e2.2.2.2.1, hi, e0]
  have e4 : M1 = M0 := by
    have hn := h0.2.2.2.2.2.2.2.1
    clear hi
    generalize S0.2.1 = L at hM0 hM1 hn
    induction L with
    | nil => cases hM0
    | cons x t ih =>
      rw [List.map_cons, List.nodup_cons] at hn
      rcases List.mem_cons.mp hM0 with a | a <;> rcases List.mem_cons.mp hM1 with b | b
      · rw [a, b]
      · exact absurd (List.mem_map.mpr ⟨M1, b, by rw [e3, a]⟩) hn.1
      · exact absurd (List.mem_map.mpr ⟨M0, a, by rw [← e3, b]⟩) hn.1
      · exact ih a b hn.2
  rw [e2.1, e4, e1]
theorem fitA_g {A : AF} {l : Nat} {S0 : SS} (hA : PA l A) (h0 : WFS S0) : ∀ (ids : List Int) (S : SS) (w : Nat), (∀ i ∈ ids, ∃ M0 ∈ S0.2.1, mSer M0 = i ∧ mLoaf M0 = (l : Int)) → Grow S0 S w → Grow S0 (fitA A ids S).1 (w + ids.length * Wn l)
  | [], S, w, _, hg => by
    rw [fitA]
    exact hg.le (by omega)
  | i :: t, S, w, hids, hg => by
    have ht : ∀ j ∈ t, ∃ M0 ∈ S0.2.1, mSer M0 = j ∧ mLoaf M0 = (l : Int) := fun j hj => hids j (List.mem_cons_of_mem _ hj)
    have hlen : (i :: t).length * Wn l = Wn l + t.length * Wn l := by rw [List.length_cons, Nat.succ_mul]; omega
    rw [fitA, hlen]
    cases hf : S.2.1.find? (fun M => mSer M == i) with
    | none => exact (fitA_g hA h0 t S w ht hg).le (by omega)
    | some M =>
      have hMm := List.mem_of_find?_eq_some hf
      have hMs : mSer M = i := by simpa using List.find?_some hf
      have hMl := old_of h0 hg hMm hMs (hids i List.mem_cons_self)
      have hW := hg.2.2.2.2.1
      have hWm := (hW.2.2.2.2.2.2.1 M hMm).2.2.2.2.2.2
      rw [hMl, Int.toNat_natCast] at hWm
      have h1 := okA_g (i := i) hA (mLk M) S (fun x hx => (hWm.1 x hx).1) hW
      have h2 := hg.tr (h1.le (cD_W hWm))
      simp only []
      split
      · exact h2.le (by omega)
      · exact (fitA_g hA h0 t _ (w + Wn l) ht h2).le (by omega)
theorem lkG_g {A : AF} {l : Nat} {S1 : SS} (hl : l < 6) (hA : PA l A) (key : Int) (d : List (Int × Int)) (S : SS) (hk : VK l key) (hP : WFl l d ∧ Grow S1 S (cD d)) :
    (WFl l (lkG (valA A) (fun _ t => t) key d S).2.1 ∧ Grow S1 (lkG (valA A) (fun _ t => t) key d S).1 (cD (lkG (valA A) (fun _ t => t) key d S).2.1)) ∧ 0 ≤ (lkG (valA A) (fun _ t => t) key d S).2.2 ∧ (lkG (valA A) (fun _ t => t) key d S).2.2 ≤ 100 := by
  obtain ⟨hd, hg⟩ := hP
  unfold lkG
  cases hf : d.find? (fun x => x.1 == key) with
  | some x =>
    have hx := hd.1 x (List.mem_of_find?_eq_some hf)
    exact ⟨⟨hd, hg⟩, hx.2⟩
  | none =>
    have h1 := valA_g hA hk hg.2.2.2.2.1
    have hlen := WFl_len hd
    simp only []
    rw [if_pos (by omega)]
    refine ⟨⟨⟨fun x hx => ?_, ?_⟩, ?_⟩, h1.2⟩
    · rcases List.mem_append.mp hx with e | e
      · exact hd.1 x e
      · rw [List.mem_singleton.mp e]
        exact ⟨hk, h1.2⟩
    · rw [List.map_append, List.nodup_append]
      refine ⟨hd.2, by simp, fun a ha b hb => ?_⟩
      obtain ⟨x, hx, rfl⟩ := List.mem_map.mp ha
      have hb : b = key := by simpa using hb
      rw [hb]
      have := List.find?_eq_none.mp hf x hx
      simpa using this
    · have hc : cD (d ++ [(key, (valA A key S).2)]) = cD d + wt key := by
        unfold cD
        rw [List.map_append, List.sum_append]
        simp
      rw [hc]
      exact hg.tr h1.1
theorem askR_g {A : AF} {l w : Nat} {S0 S1 : SS} (hl : l < 6) (hA : PA l A) (h0 : WFS S0) (hg : Grow S0 S1 w) : WFl l (askR A l S0 S1).2.1 ∧ Grow S1 (askR A l S0 S1).1 (Wn l) ∧ 0 ≤ (askR A l S0 S1).2.2.2 ∧ (askR A l S0 S1).2.2.2 ≤ 100 := by
  have hc := h0.2.2.2.2.2.2.2.2 l hl
  have h1 := run_inv (lk := lkG (valA A) (fun _ t => t)) (c := S0.2.2 l) (V := VK l) (P := fun d S => WFl l d ∧ Grow S1 S (cD d)) (fun key d S hk hP => lkG_g hl hA key d S hk hP) (fun x hx => ⟨(hc.2 x hx).2.2.1, (hc.2 x hx).2.2.2.1⟩) (S0.2.2 l).length 0 [] [] 0 S1 ⟨⟨fun x hx => (by cases hx), List.nodup_nil⟩, Grow.rf hg.2.2.2.2.1⟩ (fun x hx => by cases hx)
  exact ⟨h1.1.1, h1.1.2.le (cD_W h1.1.1), h1.2⟩
theorem ids_of {S : SS} {l : Nat} : ∀ i ∈ (S.2.1.filter (isOf l)).map mSer, ∃ M0 ∈ S.2.1, mSer M0 = i ∧ mLoaf M0 = (l : Int) := by
  intro i hi
  obtain ⟨M, hM, rfl⟩ := List.mem_map.mp hi
  have h1 := List.mem_filter.mp hM
  exact ⟨M, h1.1, rfl, by simpa [isOf] using h1.2⟩
theorem askB_g {A : AF} {l : Nat} {S : SS} (hl : l < 6) (hA : PA l A) (h : WFS S) : Grow S (askB A l S).1 (18 ^ l) ∧ 0 ≤ (askB A l S).2 ∧ (askB A l S).2 ≤ 100 := by
  have hf := fitA_g hA h ((S.2.1.filter (isOf l)).map mSer) S 0 ids_of (Grow.rf h)
  have hlen : ((S.2.1.filter (isOf l)).map mSer).length ≤ 16 := by
    rw [List.length_map]
    have a := List.length_filter_le (isOf l) S.2.1
    have b := h.2.2.2.2.2.1
    have c := h.1.2
    omega
  have hm : ((S.2.1.filter (isOf l)).map mSer).length * Wn l ≤ 16 * Wn l := Nat.mul_le_mul_right _ hlen
  have hf := hf.le (show 0 + ((S.2.1.filter (isOf l)).map mSer).length * Wn l ≤ 16 * Wn l by omega)
  have hW := Wn_e l
  unfold askB
  generalize fitA A ((S.2.1.filter (isOf l)).map mSer) S = z at hf
  obtain ⟨S1, r⟩ := z
  cases r with
  | some p =>
    simp only []
    cases hM : S1.2.1[p]? with
    | some M =>
      have hM2 := hf.2.2.2.2.1.2.2.2.2.2.2.1 M (List.mem_of_getElem? hM)
      exact ⟨(hf.tr (useS_g hl hf.2.2.2.2.1 hM)).le (by omega), hM2.2.2.1, hM2.2.2.2.1⟩
    | none => exact ⟨hf.le (by omega), (by decide : (0 : Int) ≤ 100), (by decide : (100 : Int) ≤ 100)⟩
  | none =>
    simp only []
    have h1 := askR_g hl hA h hf
    exact ⟨((hf.tr h1.2.1).tr (bakeS_g hl h1.2.1.2.2.2.2.1 h1.1 h1.2.2)).le (by omega), h1.2.2⟩
theorem askF_g : ∀ b, b ≤ 6 → PA b (askF b)
  | 0, _ => fun k S hk _ => absurd hk (by omega)
  | b + 1, hb => by
    have ih := askF_g b (by omega)
    intro k S hk h
    rw [askF, if_neg (by omega)]
    by_cases e : (k : Int) < (b : Int)
    · rw [if_pos e]
      exact ih k S (by omega) h
    · have e2 : k = b := by omega
      subst e2
      rw [if_neg e]
      by_cases e3 : S.2.2 k = []
      · rw [if_pos e3]
        exact ⟨(Grow.rf h).le (Nat.zero_le _), (by decide : (0 : Int) ≤ 100), (by decide : (100 : Int) ≤ 100)⟩
      · rw [if_neg e3]
        exact askB_g (by omega) ih h
