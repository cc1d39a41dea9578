-- ===== numbers stay small =====
def CB (z : Int) (C : CS) : Prop := C.1.1 815 ≤ z ∧ (∀ S ∈ C.2.1, S.1 815 ≤ z) ∧ ∀ (j : Nat) (S : SS), C.2.2.1 j = some S → S.1 815 ≤ z
theorem CB.le {z z' : Int} {C : CS} (h : CB z C) (hz : z ≤ z') : CB z' C := ⟨Int.le_trans h.1 hz, fun S hS => Int.le_trans (h.2.1 S hS) hz, fun j S hS => Int.le_trans (h.2.2 j S hS) hz⟩
theorem CB.rec {z : Int} {C : CS} (h : CB z C) {S' : SS} (hS : S'.1 815 ≤ z) : CB z (S', (recF C).2) := by
  refine ⟨hS, fun S hm => ?_, h.2.2⟩
  have hm : S ∈ (if C.2.1.length = 6 then C.2.1.drop 1 else C.2.1) ++ [C.1] := hm
  rcases List.mem_append.mp hm with e | e
  · split at e
    · exact h.2.1 S (List.mem_of_mem_drop e)
    · exact h.2.1 S e
  · rw [List.mem_singleton.mp e]
    exact h.1
theorem cb_put {z x y : Int} {C : CS} (h : CB z C) : CB z (putF x y C).1 := by
  unfold putF
  split
  · exact h
  · split
    · exact h
    · exact h.rec (by show uf _ _ _ 815 ≤ z; rw [uf_n (by omega)]; exact h.1)
theorem cb_poi {z x y : Int} {C : CS} (h : CB z C) : CB z (poiF x y C).1 := by
  unfold poiF
  split
  · exact h
  · split
    · exact h
    · exact h.rec (by show uf _ _ _ 815 ≤ z; rw [uf_n (by omega)]; exact h.1)
theorem cb_set {z x y : Int} {C : CS} (h : CB z C) : CB z (setF x y C).1 := by
  unfold setF
  split
  · exact h
  · rename_i e
    exact h.rec (by show uf _ _ _ 815 ≤ z; rw [uf_n (by omega)]; exact h.1)
theorem cb_for {z m : Int} {C : CS} (h : CB z C) : CB z (forF m C).1 := by
  unfold forF
  split
  · exact h
  · exact h.rec h.1
theorem cb_wip {z : Int} {C : CS} (h : CB z C) : CB z (wipF C).1 := h
theorem cb_und {z : Int} {C : CS} (h : CB z C) : CB z (undF C).1 := by
  unfold undF
  cases e : C.2.1.getLast? with
  | none => exact h
  | some S => exact ⟨h.2.1 S (List.mem_of_getLast? e), fun S' hS' => h.2.1 S' (List.dropLast_subset _ hS'), h.2.2⟩
theorem cb_sav {z x : Int} {C : CS} (h : CB z C) : CB z (savF x C).1 := by
  unfold savF
  split
  · exact h
  · refine ⟨h.1, h.2.1, fun j S hS => ?_⟩
    have hS : (if j = x.toNat then some C.1 else C.2.2.1 j) = some S := hS
    split at hS
    · cases hS
      exact h.1
    · exact h.2.2 j S hS
theorem cb_res {z x : Int} {C : CS} (h : CB z C) : CB z (resF x C).1 := by
  unfold resF
  split
  · exact h
  · cases e : C.2.2.1 x.toNat with
    | none => exact h
    | some S => exact h.rec (h.2.2 _ S e)
theorem cb_rec {z x : Int} {C : CS} (h : CB z C) : CB z (recC x C).1 := by
  unfold recC
  split
  · exact h
  · split
    · exact h
    · split
      · exact h
      · have h1 := h.rec (S' := (C.1.1, C.1.2.1.filter (notOf x), fun l => if l = x.toNat then (rdT ([], 0, []) C.2.2.2).2.1 else C.1.2.2 l)) h.1
        exact ⟨h1.1, h1.2.1, h.2.2⟩
theorem cb_typ {z v : Int} {C : CS} (h : CB z C) : CB z (typF v C).1 := by
  unfold typF
  split
  · exact h
  · split
    · exact h
    · exact h
theorem cb_ask {z x : Int} {C : CS} (h : CB z C) (hw : WFS C.1) : CB (z + 1889568) (askC x C).1 := by
  unfold askC
  split
  · exact h.le (by omega)
  · rename_i e
    obtain ⟨l, rfl⟩ : ∃ l : Nat, x = (l : Int) := ⟨x.toNat, by omega⟩
    have h1 := (askF_g 6 (by omega) l C.1 (by omega) hw).1.2.2.2.1
    have hpw : 18 ^ l ≤ 1889568 := Nat.le_trans (Nat.pow_le_pow_right (by decide) (show l ≤ 5 by omega)) (by decide)
    have h2 := h.1
    exact (h.le (by omega)).rec (by omega)
theorem cb_0 : CB 0 C00 := ⟨by decide, (fun S hS => by cases hS), (fun j S hS => by cases hS)⟩
