section CRows
variable {G : GT} {d k n : Nat} {M : MM} {pc : Nat} {ls st : List AV} {σ : Sg} {Q : Option AV → Sg → Prop}
theorem cat_le (G : GT) : ∀ l9 : List AV, ((l9.map (cv G)).map fun v => v.category).sum ≤ 2 * l9.length := by
  intro l9
  induction l9 with
  | nil => simp
  | cons v t ih =>
    have := lv_cat (cv G v)
    simp only [List.map_cons, List.sum_cons, List.length_cons]
    omega
theorem o_nn {x : Int} (h : 0 ≤ x ∧ x ≤ 2147483647) : (Int32.ofInt x).toInt = ((Int32.ofInt x).toNatClampNeg : Int) := by
  rw [o_nat (by omega), o_I (by omega)]
  omega
def cpW (o : String) (idx : Nat) : Prop := Cond.methodLink o idx arraycopyName ∈ gT ∧ Cond.native arraycopyName ∈ gT ∧ Cond.static arraycopyName ∈ gT ∧ Cond.initialized "java/lang/System" ∈ gT
set_option maxHeartbeats 4000000 in
theorem ar_copyI {idx a b N0 N1 : Nat} {sp dp z : Int} (q : Nat) (hq : pc + 3 = q) (hd : decode (bc M) pc = .ok (.invokestatic idx, 3)) (hw : cpW M.1.cls idx) (hka : sk σ a = (10, N0)) (hkb : sk σ b = (10, N1)) (hz : 0 ≤ sp ∧ 0 ≤ dp ∧ 0 ≤ z ∧ sp + z ≤ N0 ∧ dp + z ≤ N1 ∧ N0 ≤ 2147483647 ∧ N1 ≤ 2147483647) (hst : st.length ≤ 4) (hd1 : 1 ≤ d)
    (kk : WA G d k n M q ls st (cI σ a sp.toNat b dp.toNat z.toNat) Q) : WA G d k n M pc ls (Vi z :: Vi dp :: Va b :: Vi sp :: Va a :: st) σ Q := by
  subst hq
  intro p l e R s m args below meth c QM mc ms C hfr hlo hmc hms hret H locs cells slots lsC hR0 hL h1 h2
  have hlta := rep_lt hR0 hka (by decide)
  have hltb := rep_lt hR0 hkb (by decide)
  have hc0 := hR0.2.1 a _ (wl_get G hlta)
  rw [ce_int hka] at hc0
  have hc1 := hR0.2.1 b _ (wl_get G hltb)
  rw [ce_int hkb] at hc1
  have n1 := o_nn (x := sp) (by omega)
  have n2 := o_nn (x := dp) (by omega)
  have n3 := o_nn (x := z) (by omega)
  have e5 := o_nat (j := sp) (by omega)
  have e6 := o_nat (j := dp) (by omega)
  have e7 := o_nat (j := z) (by omega)
  intro T hT X
  have hA := (hR0.2.2.2.2.1.2 0 _ rfl).1
  obtain ⟨-, k0, hk0, cm0, hkk0⟩ := hA N0 (fun j => .int (Int32.ofInt (hI σ a j)))
  obtain ⟨-, k1, hk1, cm1, hkk1⟩ := hA N1 (fun j => .int (Int32.ofInt (hI σ b j)))
  have hcat := cat_le G st
  have e9 : nativeFrameWords "java/lang/System" "arraycopy" 5 = 7 := by decide +kernel
  obtain ⟨vm', X', step⟩ := X.arraycopy C.1 C.2.2.2.2.1 (C.2.2.2.2.2.1 _ hw.1) (C.2.2.2.2.2.1 _ hw.2.1) (C.2.2.2.2.2.1 _ hw.2.2.1) (C.2.2.2.2.2.1 _ hw.2.2.2) (src := gB G + a) (dst := gB G + b) (cs := vp_cell (G.2.1 10) (N0, .inl (fun j => Int32.ofInt (hI σ a j)))) (cd := vp_cell (G.2.1 10) (N1, .inl (fun j => Int32.ofInt (hI σ b j)))) (srcPos := Int32.ofInt sp) (destPos := Int32.ofInt dp) (n := Int32.ofInt z) (by rw [hT]; exact hc0) (by rw [hT]; exact hc1)
    (fun _ h => by cases h) (fun _ h => by cases h) (fun h => by cases h) (fun h => by cases h) hk0 hk1 hkk0 hkk1 rfl (o_nneg (by omega)) (o_nneg (by omega)) (o_nneg (by omega))
    (by rw [n1, n3, e5, e7]; show ¬ _ > ((arrV (G.2.1 10) N0 (fun j => .int (Int32.ofInt (hI σ a j)))).slots.size : Int); rw [arrV_size]; omega)
    (by rw [n2, n3, e6, e7]; show ¬ _ > ((arrV (G.2.1 10) N1 (fun j => .int (Int32.ofInt (hI σ b j)))).slots.size : Int); rw [arrV_size]; omega)
    (fun vm₁ _ i hi => by
      have e : (vp_cell (G.2.1 10) (N0, .inl (fun j => Int32.ofInt (hI σ a j)))).slots.getD ((Int32.ofInt sp).toNatClampNeg + i) .null = .int (Int32.ofInt (hI σ a ((Int32.ofInt sp).toNatClampNeg + i))) := by
        show (arrV (G.2.1 10) N0 (fun j => .int (Int32.ofInt (hI σ a j)))).slots.getD _ _ = _
        rw [Array.getD_eq_getD_getElem?, arrV_read _ _ (by rw [e7] at hi; rw [e5]; omega)]
        rfl
      refine ⟨?_, ?_⟩
      · rw [e]
        rfl
      · rw [e]
        exact trivial)
    (g := F0 m pc lsC (.int (Int32.ofInt z) :: .int (Int32.ofInt dp) :: .ref (gB G + b) :: .int (Int32.ofInt sp) :: .ref (gB G + a) :: st.map (cv G))) rfl (by rw [C.2.2.2.1]; exact hL.1) (rest := st.map (cv G)) rfl (by rw [C.2.1]; exact hd) (by omega) (by show 2 * 0 + _ + (nativeFrameWords "java/lang/System" "arraycopy" 5 + 11) ≤ _; rw [e9]; omega)
  have e1 : copied (vp_cell (G.2.1 10) (N0, .inl (fun j => Int32.ofInt (hI σ a j)))) (vp_cell (G.2.1 10) (N1, .inl (fun j => Int32.ofInt (hI σ b j)))) (Int32.ofInt sp) (Int32.ofInt dp) (Int32.ofInt z) = vp_cell (G.2.1 10) (N1, .inl (va_cpy (fun j => Int32.ofInt (hI σ a j)) (fun j => Int32.ofInt (hI σ b j)) sp.toNat dp.toNat z.toNat)) := by
    have h9 : (Int32.ofInt sp).toNatClampNeg + (Int32.ofInt z).toNatClampNeg ≤ N0 := by rw [e5, e7]; omega
    rw [← e5, ← e6, ← e7]
    exact va_copied (n1 := N1) (dp := (Int32.ofInt dp).toNatClampNeg) (fun z => .int z) (G.2.1 10) (G.2.1 10) (fun j => Int32.ofInt (hI σ a j)) (fun j => Int32.ofInt (hI σ b j)) h9
  rw [e1] at X' step
  have ec : ce G (cI σ a sp.toNat b dp.toNat z.toNat) b = .inl (G.2.1 10, N1, .inl (va_cpy (fun j => Int32.ofInt (hI σ a j)) (fun j => Int32.ofInt (hI σ b j)) sp.toNat dp.toNat z.toNat)) := by
    rw [ce_int (σ := cI σ a sp.toNat b dp.toNat z.toNat) hkb]
    congr 4
    funext i
    simp only [cI, hI, va_cpy, true_and]
    split <;> rfl
  have hl : gB G + b < H.size := by rw [hR0.1]; omega
  have hheap : ((T.setVm vm').setCell (gB G + b) (vp_cell (G.2.1 10) (N1, .inl (va_cpy (fun j => Int32.ofInt (hI σ a j)) (fun j => Int32.ofInt (hI σ b j)) sp.toNat dp.toNat z.toNat)))).heap = H.setIfInBounds (gB G + b) (vp_cell (G.2.1 10) (N1, .inl (va_cpy (fun j => Int32.ofInt (hI σ a j)) (fun j => Int32.ofInt (hI σ b j)) sp.toNat dp.toNat z.toNat))) := by rw [← hT]; rfl
  obtain ⟨t, a1, b1⟩ := kk p l e R s m args below meth c QM mc ms C hfr hlo hmc hms hret _ _ cells slots lsC (rep_upd (H' := H.setIfInBounds (gB G + b) (vp_cell (G.2.1 10) (N1, .inl (va_cpy (fun j => Int32.ofInt (hI σ a j)) (fun j => Int32.ofInt (hI σ b j)) sp.toNat dp.toNat z.toNat)))) hR0 hltb rfl rfl (fun b9 hb9 => ⟨by funext i; simp [cI, hI, hb9], rfl⟩) (by
      rw [ec]
      show (H.setIfInBounds _ _)[gB G + b]? = some _
      simp [Array.getElem?_setIfInBounds, hl]) (by simp) (fun q hq => by simp [Array.getElem?_setIfInBounds, Ne.symm hq]) (fun x hx => by
      obtain ⟨z9, -, hz9⟩ := List.mem_map.mp hx
      rw [← hz9])) hL h1 h2 _ hheap X'
  exact ⟨t, step t a1, b1⟩
set_option maxHeartbeats 4000000 in
theorem ar_copyR {idx a b N0 N1 : Nat} {sp dp z : Int} (kd : Nat) (q : Nat) (hq : pc + 3 = q) (hd : decode (bc M) pc = .ok (.invokestatic idx, 3)) (hw : cpW M.1.cls idx) (hkd : 12 ≤ kd ∧ kd ≤ 14) (hka : sk σ a = (kd, N0)) (hkb : sk σ b = (kd, N1)) (hz : 0 ≤ sp ∧ 0 ≤ dp ∧ 0 ≤ z ∧ sp + z ≤ N0 ∧ dp + z ≤ N1 ∧ N0 ≤ 2147483647 ∧ N1 ≤ 2147483647) (hel : ∀ i y : Nat, (i : Int) < z → hR σ a (sp.toNat + i) = some y → (sk σ y).1 = kO kd + 1) (hst : st.length ≤ 4) (hd1 : 1 ≤ d)
    (kk : WA G d k n M q ls st (cR σ a sp.toNat b dp.toNat z.toNat) Q) : WA G d k n M pc ls (Vi z :: Vi dp :: Va b :: Vi sp :: Va a :: st) σ Q := by
  subst hq
  intro p l e R s m args below meth c QM mc ms C hfr hlo hmc hms hret H locs cells slots lsC hR0 hL h1 h2
  have hlta := rep_lt hR0 hka (by omega)
  have hltb := rep_lt hR0 hkb (by omega)
  have hc0 := hR0.2.1 a _ (wl_get G hlta)
  rw [ce_ref hka hkd.1] at hc0
  have hc1 := hR0.2.1 b _ (wl_get G hltb)
  rw [ce_ref hkb hkd.1] at hc1
  have n1 := o_nn (x := sp) (by omega)
  have n2 := o_nn (x := dp) (by omega)
  have n3 := o_nn (x := z) (by omega)
  have e5 := o_nat (j := sp) (by omega)
  have e6 := o_nat (j := dp) (by omega)
  have e7 := o_nat (j := z) (by omega)
  intro T hT X
  have hty := hR0.2.2.2.2.1.2 _ _ (ty_at G (kd := kd) (by omega))
  rw [kO_ty hkd] at hty
  have hA := hty.1
  obtain ⟨-, k0, hk0, cm0, hkk0⟩ := hA N0 (fun j => va_rf (cf G (hR σ a j)))
  obtain ⟨-, k1, hk1, cm1, hkk1⟩ := hA N1 (fun j => va_rf (cf G (hR σ b j)))
  have hcat := cat_le G st
  have e9 : nativeFrameWords "java/lang/System" "arraycopy" 5 = 7 := by decide +kernel
  obtain ⟨vm', X', step⟩ := X.arraycopy C.1 C.2.2.2.2.1 (C.2.2.2.2.2.1 _ hw.1) (C.2.2.2.2.2.1 _ hw.2.1) (C.2.2.2.2.2.1 _ hw.2.2.1) (C.2.2.2.2.2.1 _ hw.2.2.2) (src := gB G + a) (dst := gB G + b) (cs := vp_cell (G.2.1 kd) (N0, .inr (.inr (.inr (.inr (fun j => cf G (hR σ a j))))))) (cd := vp_cell (G.2.1 kd) (N1, .inr (.inr (.inr (.inr (fun j => cf G (hR σ b j))))))) (srcPos := Int32.ofInt sp) (destPos := Int32.ofInt dp) (n := Int32.ofInt z) (by rw [hT]; exact hc0) (by rw [hT]; exact hc1)
    (fun _ h => by cases h) (fun _ h => by cases h) (fun h => by cases h) (fun h => by cases h) hk0 hk1 hkk0 hkk1 rfl (o_nneg (by omega)) (o_nneg (by omega)) (o_nneg (by omega))
    (by rw [n1, n3, e5, e7]; show ¬ _ > ((arrV (G.2.1 kd) N0 (fun j => va_rf (cf G (hR σ a j)))).slots.size : Int); rw [arrV_size]; omega)
    (by rw [n2, n3, e6, e7]; show ¬ _ > ((arrV (G.2.1 kd) N1 (fun j => va_rf (cf G (hR σ b j)))).slots.size : Int); rw [arrV_size]; omega)
    (fun vm₁ hal i hi => by
      have e : (vp_cell (G.2.1 kd) (N0, .inr (.inr (.inr (.inr (fun j => cf G (hR σ a j))))))).slots.getD ((Int32.ofInt sp).toNatClampNeg + i) .null = va_rf (cf G (hR σ a ((Int32.ofInt sp).toNatClampNeg + i))) := by
        show (arrV (G.2.1 kd) N0 (fun j => va_rf (cf G (hR σ a j)))).slots.getD _ _ = _
        rw [Array.getD_eq_getD_getElem?, arrV_read _ _ (by rw [e7] at hi; rw [e5]; omega)]
        rfl
      rw [e]
      cases hy : hR σ a ((Int32.ofInt sp).toNatClampNeg + i) with
      | none => exact ⟨rfl, trivial⟩
      | some y =>
        have hyk := hel i y (by rw [e7] at hi; omega) (by rw [← e5]; exact hy)
        have hwv := wl_get G (rep_lto hR0 hyk)
        rw [ce_obj hyk kO_lt] at hwv
        obtain ⟨cellV, g1, g2, g3⟩ := va_recv hR0.2.2.2.2.1 hR0.2.1 (cls_at kO_lt) hwv
        obtain ⟨kA, comp, r1, r2, r3, -⟩ := hty.2
        cases hk1.symm.trans r1
        cases hkk1.symm.trans r2
        obtain ⟨kC, hkC, -⟩ := Vm.findClass_spec g3
        obtain ⟨kE, hkE, -⟩ := Vm.findClass_spec r3
        obtain ⟨kC', hkC', -⟩ := hal.2.2 _ _ hkC
        obtain ⟨kE', hkE', -⟩ := hal.2.2 _ _ hkE
        refine ⟨rfl, cellV, (show T.heap[gB G + y]? = some cellV by rw [hT]; exact g1), (fun q h => by rw [h] at g2; cases g2), ⟨kC', hkC'⟩, ?_, ?_⟩
        · exact ⟨kE', hkE'⟩
        · show vm₁.assignable _ _ = true
          rw [hal.assignable]
          have hcls := (hR0.2.2.2.2.1.1 (kO kd) _ (cls_at kO_lt)).2
          have q1 : cellV.cls = G.1.1 (kO kd) := Option.some.inj (g3.symm.trans hcls.1)
          have q2 : cm1 = G.1.1 (kO kd) := Option.some.inj (r3.symm.trans hcls.1)
          rw [q1, q2]
          exact va_assign hcls)
    (g := F0 m pc lsC (.int (Int32.ofInt z) :: .int (Int32.ofInt dp) :: .ref (gB G + b) :: .int (Int32.ofInt sp) :: .ref (gB G + a) :: st.map (cv G))) rfl (by rw [C.2.2.2.1]; exact hL.1) (rest := st.map (cv G)) rfl (by rw [C.2.1]; exact hd) (by omega) (by show 2 * 0 + _ + (nativeFrameWords "java/lang/System" "arraycopy" 5 + 11) ≤ _; rw [e9]; omega)
  have e1 : copied (vp_cell (G.2.1 kd) (N0, .inr (.inr (.inr (.inr (fun j => cf G (hR σ a j))))))) (vp_cell (G.2.1 kd) (N1, .inr (.inr (.inr (.inr (fun j => cf G (hR σ b j))))))) (Int32.ofInt sp) (Int32.ofInt dp) (Int32.ofInt z) = vp_cell (G.2.1 kd) (N1, .inr (.inr (.inr (.inr (va_cpy (fun j => cf G (hR σ a j)) (fun j => cf G (hR σ b j)) sp.toNat dp.toNat z.toNat))))) := by
    rw [← e5, ← e6, ← e7, vp_cell_q, vp_cell_q, vp_cell_q]
    exact va_copied (fun z => va_rf z) (G.2.1 kd) (G.2.1 kd) _ _ (by rw [e5, e7]; omega)
  rw [e1] at X' step
  have ec : ce G (cR σ a sp.toNat b dp.toNat z.toNat) b = .inl (G.2.1 kd, N1, .inr (.inr (.inr (.inr (va_cpy (fun j => cf G (hR σ a j)) (fun j => cf G (hR σ b j)) sp.toNat dp.toNat z.toNat))))) := by
    rw [ce_ref (σ := cR σ a sp.toNat b dp.toNat z.toNat) hkb hkd.1]
    congr 7
    funext i
    simp only [cR, hR, va_cpy, true_and]
    split <;> rfl
  have hl : gB G + b < H.size := by rw [hR0.1]; omega
  generalize hcell : vp_cell (G.2.1 kd) (N1, .inr (.inr (.inr (.inr (va_cpy (fun j => cf G (hR σ a j)) (fun j => cf G (hR σ b j)) sp.toNat dp.toNat z.toNat))))) = cell9 at X' step
  have hheap : ((T.setVm vm').setCell (gB G + b) cell9).heap = H.setIfInBounds (gB G + b) cell9 := by rw [← hT]; rfl
  obtain ⟨t, a1, b1⟩ := kk p l e R s m args below meth c QM mc ms C hfr hlo hmc hms hret _ _ cells slots lsC (rep_upd (H' := H.setIfInBounds (gB G + b) cell9) hR0 hltb rfl rfl (fun b9 hb9 => ⟨rfl, by funext i; simp [cR, hR, hb9]⟩) (by
      rw [ec]
      show (H.setIfInBounds _ _)[gB G + b]? = some _
      rw [hcell]
      simp [Array.getElem?_setIfInBounds, hl]) (by simp) (fun q hq => by simp [Array.getElem?_setIfInBounds, Ne.symm hq]) (fun x hx => by
      obtain ⟨z9, -, hz9⟩ := List.mem_map.mp hx
      rw [← hz9])) hL h1 h2 _ hheap X'
  exact ⟨t, step t a1, b1⟩
theorem ar_max {idx : Nat} {x y : Int} (q : Nat) (hq : pc + 3 = q) (hd : decode (bc M) pc = .ok (.invokestatic idx, 3)) (hw : Cond.methodLink M.1.cls idx Lib.Math.max.name ∈ gT ∧ Cond.static Lib.Math.max.name ∈ gT ∧ Cond.initialized "java/lang/Math" ∈ gT ∧ Cond.code Lib.Math.max.name Lib.Math.max.code 2 (some .int) ∈ gT) (hx : i32 x) (hy : i32 y) (hst : st.length ≤ 4) (hd1 : 1 ≤ d)
    (kk : WA G d k n M q ls (Vi (if x < y then y else x) :: st) σ Q) : WA G d k n M pc ls (Vi y :: Vi x :: st) σ Q := by
  subst hq
  intro p l e R s m args below meth c QM mc ms C hfr hlo hmc hms hret H locs cells slots lsC hR0 hL h1 h2
  have K := kk p l e R s m args below meth c QM mc ms C hfr hlo hmc hms hret H locs cells slots lsC hR0 hL h1 h2
  have hcat := cat_le G st
  refine va_mmax C.1 C.2.1 (by rw [C.2.2.2.1]; exact hL.1.symm) C.2.2.2.2.1 (C.2.2.2.2.2.1 _ hw.1) (C.2.2.2.2.2.1 _ hw.2.1) (C.2.2.2.2.2.1 _ hw.2.2.1) (C.2.2.2.2.2.1 _ hw.2.2.2) (by omega) (by omega) (by omega) (by omega) (x := Int32.ofInt x) (y := Int32.ofInt y) hd ?_
  have e : Value.int (if Int32.ofInt x < Int32.ofInt y then Int32.ofInt y else Int32.ofInt x) = cv G (Vi (if x < y then y else x)) := by
    simp only [o_lt hx hy]
    split <;> rfl
  rw [e]
  exact K
theorem ar_min {idx : Nat} {x y : Int} (q : Nat) (hq : pc + 3 = q) (hd : decode (bc M) pc = .ok (.invokestatic idx, 3)) (hw : Cond.methodLink M.1.cls idx Lib.Math.min.name ∈ gT ∧ Cond.static Lib.Math.min.name ∈ gT ∧ Cond.initialized "java/lang/Math" ∈ gT ∧ Cond.code Lib.Math.min.name Lib.Math.min.code 2 (some .int) ∈ gT) (hx : i32 x) (hy : i32 y) (hst : st.length ≤ 4) (hd1 : 1 ≤ d)
    (kk : WA G d k n M q ls (Vi (if y < x then y else x) :: st) σ Q) : WA G d k n M pc ls (Vi y :: Vi x :: st) σ Q := by
  subst hq
  intro p l e R s m args below meth c QM mc ms C hfr hlo hmc hms hret H locs cells slots lsC hR0 hL h1 h2
  have K := kk p l e R s m args below meth c QM mc ms C hfr hlo hmc hms hret H locs cells slots lsC hR0 hL h1 h2
  have hcat := cat_le G st
  refine va_mmin C.1 C.2.1 (by rw [C.2.2.2.1]; exact hL.1.symm) C.2.2.2.2.1 (C.2.2.2.2.2.1 _ hw.1) (C.2.2.2.2.2.1 _ hw.2.1) (C.2.2.2.2.2.1 _ hw.2.2.1) (C.2.2.2.2.2.1 _ hw.2.2.2) (by omega) (by omega) (by omega) (by omega) (x := Int32.ofInt x) (y := Int32.ofInt y) hd ?_
  have e : Value.int (if Int32.ofInt y < Int32.ofInt x then Int32.ofInt y else Int32.ofInt x) = cv G (Vi (if y < x then y else x)) := by
    simp only [o_lt hy hx]
    split <;> rfl
  rw [e]
  exact K
-- calls
theorem run_go {p : Program} {l : Launch} {e : Env} {R : Room} {s : State} {m : MethodId} {args : Array Value} {below : List Frame} {meth : Method} {c : Code} {H : Heap} {locs : List Loc} {cells slots k' n' : Nat} {QM : State → Prop} {lsC : Array Slot} {st0 : List Value} {rest : List AV} {a : Array Value} {Q' : Option AV → Sg → Prop}
    (hrun : va_Run p l e R s m args below meth c H locs cells slots k' n' (F0 m pc lsC st0) (rest.map (cv G)) (qA G Q' a) (fun q => gB G ≤ q)) (hR0 : RepS G σ s H locs)
    (kk : ∀ (v : Option AV) (σ' : Sg) (H' : Heap) (locs' : List Loc), Q' v σ' → RepS G σ' s H' locs' → W p l e R s m args below meth c H' locs' (cells + k') (slots + n') QM (F0 m (pc + 3) lsC ((v.toList ++ rest).map (cv G)))) : W p l e R s m args below meth c H locs cells slots QM (F0 m pc lsC st0) := by
  intro T hT X
  obtain ⟨v, st1, t, T', L, h0, X', hL, e1, e2, ⟨v', σ', hv, hQ, hRt, hz, hk⟩, st⟩ := hrun T hT X
  cases hv
  obtain ⟨t2, a1, b1⟩ := kk v' σ' T'.heap (locs ++ L) hQ (rep_call hR0 h0 hRt e1 hz hk hL) T' rfl X'
  refine ⟨t2, st t2 ?_, b1⟩
  have e9 : (Option.map (cv G) v').toList ++ List.map (cv G) rest = (v'.toList ++ rest).map (cv G) := by
    cases v' <;> simp
  rw [e9]
  exact a1
/-- a method of the tables: n0 parameters (without the receiver) -/
def mtB (M' : MM) (n0 : Nat) : Prop := Cond.code M'.1 (bc M') M'.2.2.1 M'.2.2.2 ∈ gT ∧ Cond.initialized M'.1.cls ∈ gT ∧ (M'.1.cls ≠ "java/lang/invoke/MethodHandle" ∧ M'.1.cls ≠ "java/lang/invoke/VarHandle" ∧ (parseMethodDescriptor M'.1.desc).map (fun d => d.parameters.length) = some n0) ∧ M'.2.2.1 ≤ 40 ∧ plainName M'.1.cls = true
def mtV (M' : MM) (n0 ci : Nat) : Prop := mtB M' n0 ∧ Cond.instanceMethod M'.1 ∈ gT ∧ Cond.selects M'.1.cls M'.1 M'.1 ∈ gT ∧ ci < 7 ∧ (cT ci).1 = M'.1.cls
def mtS (M' : MM) (n0 : Nat) : Prop := mtB M' n0 ∧ Cond.static M'.1 ∈ gT
def mtI (M' : MM) (n0 ci : Nat) : Prop := mtB M' n0 ∧ Cond.instanceMethod M'.1 ∈ gT ∧ M'.1.name = "<init>" ∧ M'.2.2.2 = none ∧ ci < 7
theorem wS_good {M' : MM} (h : Cond.code M'.1 (bc M') M'.2.2.1 M'.2.2.2 ∈ gT) : GoodIn gT (wS M') := by
  intro w hw
  rcases List.mem_cons.mp hw with rfl | hw
  · exact ⟨h, gT_good _ h⟩
  · exact ⟨hw, gT_good _ hw⟩
def nlk (o : String) (idx : Nat) (y : MethodName) : Prop := Cond.methodLinkNest o idx y RX5 ∈ tables_1
set_option maxHeartbeats 4000000 in
theorem ar_callV {M' : MM} {idx n0 ci b : Nat} {As rest ls' : List AV} (k1 n1 k2 n2 : Nat) (q : Nat) (hq : pc + 3 = q) (hd : decode (bc M) pc = .ok (.invokevirtual idx, 3)) (hl : Cond.methodLink M.1.cls idx M'.1 ∈ gT) (hm : mtV M' n0 ci) (hk : (sk σ b).1 = ci + 1) (hAs : As.length = n0) (hr : rest.length ≤ 4) (hE : prs G 0 ls' = lv_args 0 ((Va b :: As).map (cv G))) (hlen : (lg_sl ((Va b :: As).map (cv G))).length ≤ M'.2.2.1) (hd1 : 1 ≤ d) (hk2 : k1 + k2 ≤ k) (hn2 : n1 + n2 ≤ n)
    (kk : WA G (d - 1) k1 n1 M' 0 ls' [] σ (fun v σ' => WA G d k2 n2 M q ls (v.toList ++ rest) σ' Q)) : WA G d k n M pc ls (As.reverse ++ Va b :: rest) σ Q := by
  subst hq
  intro p l e R s m args below meth c QM mc ms C hfr hlo hmc hms hret H locs cells slots lsC hR0 hL h1 h2
  have hcat := cat_le G rest
  have hroom : (d - 1) + 1 ≤ R.frames ∧ 8 + (M'.2.2.1 + 11) + 64 * (d - 1) ≤ R.locals := by
    have := hm.1.2.2.2.1
    omega
  have hw := wl_get G (rep_lto hR0 hk)
  rw [ce_obj hk hm.2.2.2.1] at hw
  have hrecv := va_recv hR0.2.2.2.2.1 hR0.2.1 (cls_at hm.2.2.2.1) hw
  rw [hm.2.2.2.2] at hrecv
  have hM := met_of (l := l) (G := G) (av := (Va b :: As)) hm.1.2.2.2.2 hE hlen kk
  have est : List.map (cv G) (As.reverse ++ Va b :: rest) = (As.map (cv G)).reverse ++ .ref (gB G + b) :: rest.map (cv G) := by simp [cv]
  rw [est]
  refine run_go (va_runV (As := As.map (cv G)) (rest := rest.map (cv G)) (b := gB G + b) ⟨C.1, C.2.1, C.2.2.2.1, C.2.2.2.2.1, C.2.2.2.2.2.1⟩ hM ⟨callB_of n0 C.2.2.2.2.2.1 (wS_good hm.1.1) rfl rfl rfl (C.2.2.2.2.2.1 _ hm.1.2.1) (C.2.2.2.2.2.1 _ hl) hm.1.2.2.1 hroom, C.2.2.2.2.2.1 _ hm.2.1, C.2.2.2.2.2.1 _ hm.2.2.1⟩ ⟨rep_blind, hrecv, fun U hU hW => ⟨rfl, rep_go hR0 hU hW⟩⟩ rfl (by simpa using hAs) hL.1 rfl (lv_room (by omega)) hd ⟨by omega, by omega⟩) hR0 (fun v σ' H' locs' hQ hR' => ?_)
  exact hQ p l e R s m args below meth c QM mc ms C hfr hlo hmc hms hret H' locs' (cells + k1) (slots + n1) lsC hR' hL (by omega) (by omega)
set_option maxHeartbeats 4000000 in
theorem ar_callS {M' : MM} {idx n0 : Nat} {As rest ls' : List AV} (k1 n1 k2 n2 : Nat) (q : Nat) (hq : pc + 3 = q) (hd : decode (bc M) pc = .ok (.invokestatic idx, 3)) (hl : Cond.methodLink M.1.cls idx M'.1 ∈ gT) (hm : mtS M' n0) (hAs : As.length = n0) (hr : rest.length ≤ 4) (hE : prs G 0 ls' = lv_args 0 (As.map (cv G))) (hlen : (lg_sl (As.map (cv G))).length ≤ M'.2.2.1) (hd1 : 1 ≤ d) (hk2 : k1 + k2 ≤ k) (hn2 : n1 + n2 ≤ n)
    (kk : WA G (d - 1) k1 n1 M' 0 ls' [] σ (fun v σ' => WA G d k2 n2 M q ls (v.toList ++ rest) σ' Q)) : WA G d k n M pc ls (As.reverse ++ rest) σ Q := by
  subst hq
  intro p l e R s m args below meth c QM mc ms C hfr hlo hmc hms hret H locs cells slots lsC hR0 hL h1 h2
  have hcat := cat_le G rest
  have hroom : (d - 1) + 1 ≤ R.frames ∧ 8 + (M'.2.2.1 + 11) + 64 * (d - 1) ≤ R.locals := by
    have := hm.1.2.2.2.1
    omega
  have hM := met_of (l := l) (G := G) (av := As) hm.1.2.2.2.2 hE hlen kk
  have est : List.map (cv G) (As.reverse ++ rest) = (As.map (cv G)).reverse ++ rest.map (cv G) := by simp [cv]
  rw [est]
  refine run_go (va_runS (As := As.map (cv G)) (rest := rest.map (cv G)) ⟨C.1, C.2.1, C.2.2.2.1, C.2.2.2.2.1, C.2.2.2.2.2.1⟩ hM ⟨callB_of n0 C.2.2.2.2.2.1 (wS_good hm.1.1) rfl rfl rfl (C.2.2.2.2.2.1 _ hm.1.2.1) (C.2.2.2.2.2.1 _ hl) hm.1.2.2.1 hroom, C.2.2.2.2.2.1 _ hm.2⟩ ⟨rep_blind, fun U hU hW => ⟨rfl, rep_go hR0 hU hW⟩⟩ rfl (by simpa using hAs) hL.1 rfl (lv_room (by omega)) hd ⟨by omega, by omega⟩) hR0 (fun v σ' H' locs' hQ hR' => ?_)
  exact hQ p l e R s m args below meth c QM mc ms C hfr hlo hmc hms hret H' locs' (cells + k1) (slots + n1) lsC hR' hL (by omega) (by omega)
set_option maxHeartbeats 4000000 in
theorem ar_callSN {M' : MM} {idx n0 : Nat} {As rest ls' : List AV} (k1 n1 k2 n2 : Nat) (q : Nat) (hq : pc + 3 = q) (hd : decode (bc M) pc = .ok (.invokestatic idx, 3)) (hl : nlk M.1.cls idx M'.1) (hm : mtS M' n0) (hAs : As.length = n0) (hr : rest.length ≤ 4) (hE : prs G 0 ls' = lv_args 0 (As.map (cv G))) (hlen : (lg_sl (As.map (cv G))).length ≤ M'.2.2.1) (hd1 : 1 ≤ d) (hk2 : k1 + k2 ≤ k) (hn2 : n1 + n2 ≤ n)
    (kk : WA G (d - 1) k1 n1 M' 0 ls' [] σ (fun v σ' => WA G d k2 n2 M q ls (v.toList ++ rest) σ' Q)) : WA G d k n M pc ls (As.reverse ++ rest) σ Q := by
  subst hq
  intro p l e R s m args below meth c QM mc ms C hfr hlo hmc hms hret H locs cells slots lsC hR0 hL h1 h2
  have hcat := cat_le G rest
  have hroom : (d - 1) + 1 ≤ R.frames ∧ 8 + (M'.2.2.1 + 11) + 64 * (d - 1) ≤ R.locals := by
    have := hm.1.2.2.2.1
    omega
  have hM := met_of (l := l) (G := G) (av := As) hm.1.2.2.2.2 hE hlen kk
  have est : List.map (cv G) (As.reverse ++ rest) = (As.map (cv G)).reverse ++ rest.map (cv G) := by simp [cv]
  rw [est]
  refine run_go (va_runSN (As := As.map (cv G)) (rest := rest.map (cv G)) ⟨C.1, C.2.1, C.2.2.2.1, C.2.2.2.2.1, C.2.2.2.2.2.1⟩ hM ⟨va_cnB n0 C.2.2.2.2.2.1 (wS_good hm.1.1) rfl rfl rfl (hR0.2.2.2.2.2.1.1 _ _ _ hl) (C.2.2.2.2.2.1 _ hm.1.2.1) hm.1.2.2.1 hroom, C.2.2.2.2.2.1 _ hm.2, trivial⟩ ⟨rep_blind, fun U hU hW => ⟨rfl, rep_go hR0 hU hW⟩⟩ rfl (by simpa using hAs) hL.1 rfl (lv_room (by omega)) hd ⟨by omega, by omega⟩) hR0 (fun v σ' H' locs' hQ hR' => ?_)
  exact hQ p l e R s m args below meth c QM mc ms C hfr hlo hmc hms hret H' locs' (cells + k1) (slots + n1) lsC hR' hL (by omega) (by omega)
set_option maxHeartbeats 4000000 in
theorem ar_callI {M' : MM} {idx n0 ci b : Nat} {As rest ls' : List AV} (k1 n1 k2 n2 : Nat) (q : Nat) (hq : pc + 3 = q) (hd : decode (bc M) pc = .ok (.invokespecial idx, 3)) (hl : Cond.methodLink M.1.cls idx M'.1 ∈ gT) (hm : mtI M' n0 ci) (hAs : As.length = n0) (hr : rest.length ≤ 4) (hE : prs G 0 ls' = lv_args 0 ((Va b :: As).map (cv G))) (hlen : (lg_sl ((Va b :: As).map (cv G))).length ≤ M'.2.2.1) (hd1 : 1 ≤ d) (hk2 : k1 + k2 ≤ k) (hn2 : n1 + n2 ≤ n)
    (kk : WA G (d - 1) k1 n1 M' 0 ls' [] σ (fun v σ' => WA G d k2 n2 M q ls (v.toList ++ rest) σ' Q)) : WA G d k n M pc ls (As.reverse ++ Va b :: rest) σ Q := by
  subst hq
  intro p l e R s m args below meth c QM mc ms C hfr hlo hmc hms hret H locs cells slots lsC hR0 hL h1 h2
  have hcat := cat_le G rest
  have hroom : (d - 1) + 1 ≤ R.frames ∧ 8 + (M'.2.2.1 + 11) + 64 * (d - 1) ≤ R.locals := by
    have := hm.1.2.2.2.1
    omega
  have hM := met_of (l := l) (G := G) (av := (Va b :: As)) hm.1.2.2.2.2 hE hlen kk
  have est : List.map (cv G) (As.reverse ++ Va b :: rest) = (As.map (cv G)).reverse ++ .ref (gB G + b) :: rest.map (cv G) := by simp [cv]
  rw [est]
  obtain ⟨M1, M2, M3, M4⟩ := M'
  have hm4 : M4 = none := hm.2.2.2.1
  subst hm4
  refine run_go (va_runI (As := As.map (cv G)) (rest := rest.map (cv G)) (b := gB G + b) ⟨C.1, C.2.1, C.2.2.2.1, C.2.2.2.2.1, C.2.2.2.2.2.1⟩ hM ⟨callB_of n0 C.2.2.2.2.2.1 (wS_good hm.1.1) rfl rfl rfl (C.2.2.2.2.2.1 _ hm.1.2.1) (C.2.2.2.2.2.1 _ hl) hm.1.2.2.1 hroom, hm.2.2.1, C.2.2.2.2.2.1 _ hm.2.1⟩ ⟨rep_blind, fun U hU hW => ⟨rfl, rep_go hR0 hU hW⟩⟩ rfl (by simpa using hAs) hL.1 rfl (lv_room (by omega)) hd ⟨by omega, by omega⟩) hR0 (fun v σ' H' locs' hQ hR' => ?_)
  exact hQ p l e R s m args below meth c QM mc ms C hfr hlo hmc hms hret H' locs' (cells + k1) (slots + n1) lsC hR' hL (by omega) (by omega)
set_option maxHeartbeats 4000000 in
theorem ar_callIN {M' : MM} {idx n0 ci b : Nat} {As rest ls' : List AV} (k1 n1 k2 n2 : Nat) (q : Nat) (hq : pc + 3 = q) (hd : decode (bc M) pc = .ok (.invokespecial idx, 3)) (hl : nlk M.1.cls idx M'.1) (hm : mtI M' n0 ci) (hAs : As.length = n0) (hr : rest.length ≤ 4) (hE : prs G 0 ls' = lv_args 0 ((Va b :: As).map (cv G))) (hlen : (lg_sl ((Va b :: As).map (cv G))).length ≤ M'.2.2.1) (hd1 : 1 ≤ d) (hk2 : k1 + k2 ≤ k) (hn2 : n1 + n2 ≤ n)
    (kk : WA G (d - 1) k1 n1 M' 0 ls' [] σ (fun v σ' => WA G d k2 n2 M q ls (v.toList ++ rest) σ' Q)) : WA G d k n M pc ls (As.reverse ++ Va b :: rest) σ Q := by
  subst hq
  intro p l e R s m args below meth c QM mc ms C hfr hlo hmc hms hret H locs cells slots lsC hR0 hL h1 h2
  have hcat := cat_le G rest
  have hroom : (d - 1) + 1 ≤ R.frames ∧ 8 + (M'.2.2.1 + 11) + 64 * (d - 1) ≤ R.locals := by
    have := hm.1.2.2.2.1
    omega
  have hM := met_of (l := l) (G := G) (av := (Va b :: As)) hm.1.2.2.2.2 hE hlen kk
  have est : List.map (cv G) (As.reverse ++ Va b :: rest) = (As.map (cv G)).reverse ++ .ref (gB G + b) :: rest.map (cv G) := by simp [cv]
  rw [est]
  obtain ⟨M1, M2, M3, M4⟩ := M'
  have hm4 : M4 = none := hm.2.2.2.1
  subst hm4
  refine run_go (va_runIN (As := As.map (cv G)) (rest := rest.map (cv G)) (b := gB G + b) ⟨C.1, C.2.1, C.2.2.2.1, C.2.2.2.2.1, C.2.2.2.2.2.1⟩ hM ⟨va_cnB n0 C.2.2.2.2.2.1 (wS_good hm.1.1) rfl rfl rfl (hR0.2.2.2.2.2.1.1 _ _ _ hl) (C.2.2.2.2.2.1 _ hm.1.2.1) hm.1.2.2.1 hroom, hm.2.2.1, C.2.2.2.2.2.1 _ hm.2.1⟩ ⟨rep_blind, fun U hU hW => ⟨rfl, rep_go hR0 hU hW⟩⟩ rfl (by simpa using hAs) hL.1 rfl (lv_room (by omega)) hd ⟨by omega, by omega⟩) hR0 (fun v σ' H' locs' hQ hR' => ?_)
  exact hQ p l e R s m args below meth c QM mc ms C hfr hlo hmc hms hret H' locs' (cells + k1) (slots + n1) lsC hR' hL (by omega) (by omega)
end CRows
