-- ===== whether a memory fits freshly =====
def alF (S : SS) (lk : List (Int × Int)) : Bool := lk.all (fun x => x.2 == vlF S.1 (vF S) x.1)
/-- the place of the first memory of loaf l that fits -/
def fitP (S : SS) (l : Nat) : Option Nat := S.2.1.findIdx? (fun M => isOf (l : Int) M && alF S (mLk M))
section FRESHW
variable {G : GT} {d k n s l t : Nat} {σ : Sg} {S : SS} {Q : Option AV → Sg → Prop}
set_option maxHeartbeats 8000000 in
theorem sp_X0_wouldFit {m p : Nat} {M : Mem} (hs : (s + 58 ≤ 121 ∨ 156 ≤ s) ∧ s + 58 ≤ 652) (hB : ShB σ) (hst : RSt σ s S) (hw : WFS S) (hsn : 652 ≤ sn σ) (hM : S.2.1[p]? = some M) (hm : hR σ (s + 4) p = some m) (hdp : 36 ≤ d)
    (hQ : ∀ σ', ShB σ' → FrZ σ σ' → Q (some (Vi (if alF S (mLk M) = true then 1 else 0))) σ') : WA G d k n mX0_wouldFit 0 [Va 121, Va s, Va m, Vu] [] σ Q := by
  have hk121 := hB.1
  have hWM := hw.2.2.2.2.2.2.1 M (List.mem_of_getElem? hM)
  have hl0 := hWM.1
  have hl6 := hWM.2.1
  have hWl := hWM.2.2.2.2.2.2
  obtain ⟨l, hloaf⟩ : ∃ l : Nat, mLoaf M = (l : Int) := ⟨(mLoaf M).toNat, by omega⟩
  have hl : l < 6 := by omega
  rw [hloaf, Int.toNat_natCast] at hWl
  have hlen := WFl_len hWl
  have hA : FC G s S l (d - 1 - 1) := sp_loafValue_fresh hs l (d - 1 - 1) (by omega) (by omega)
  have loop : ∀ r i : Nat, ∀ (ti : Nat) (σi : Sg), (mLk M).length - i = r → i ≤ (mLk M).length → FrP s S ti σi → hR σi (s + 4) p = some m →
      (∀ σ' t', FrP s S t' σ' → FrF l σi σ' → Q (some (Vi (if alF S ((mLk M).drop i) = true then 1 else 0))) σ') → WA G d k n mX0_wouldFit 8 [Va 121, Va s, Va m, Vi (i : Int)] [] σi Q := by
    intro r
    induction r using Nat.strongRecOn with
    | ind r ih =>
    intro i ti σi hr hi hpi hmi hQi
    have hpp := (List.getElem?_eq_some_iff.mp hM).1
    obtain ⟨hS, hSf, hSr, hSm⟩ := hpi.2.2.2.1
    have hp17 : p < 17 := by
      have := hSm.1
      omega
    obtain ⟨m9, hm9, hshm, -, -⟩ := hSm.at hS hp17
    cases hmi.symm.trans hm9
    have hRM := hSm.2.2.2.2 p M m hM hmi
    have hk := hshm.1
    have hk1 : sk σi (m + 1) = (10, 18) := hshm.2.1
    have hk2 : sk σi (m + 2) = (10, 18) := hshm.2.2.1
    have hr6 : hR σi m 6 = some (m + 1) := hshm.2.2.2.1
    have hr7 : hR σi m 7 = some (m + 2) := hshm.2.2.2.2
    have h5 : hI σi m 5 = ((mLk M).length : Int) := hRM.2.2.2.2.2.1
    refine ar_iload_n 9 rfl d_X0_wouldFit_8 rfl ?_
    refine ar_aload_n 10 rfl d_X0_wouldFit_9 rfl ?_
    refine ar_giv (y := ((mLk M).length : Int)) 13 rfl d_X0_wouldFit_10 fl_X0_42 rfl (by assumption) (by assumption) ?_
    refine ar_icmp_ge 47 16 rfl rfl d_X0_wouldFit_13 (by omega) (by omega) (fun g13 => ?_) (fun g13 => ?_)
    · refine ar_iconst 48 rfl d_X0_wouldFit_47 ?_
      refine WA.ret (some (Vi _)) ⟨d_X0_wouldFit_48, rfl, Or.inr ⟨rfl, Or.inr rfl⟩⟩ ?_
      have hd : (mLk M).drop i = [] := List.drop_eq_nil_of_le (by omega)
      rw [hd] at hQi
      exact hQi σi ti hpi FrF.rf
    · have hlt : i < (mLk M).length := by omega
      have hdr : (mLk M).drop i = (mLk M)[i] :: (mLk M).drop (i + 1) := List.drop_eq_getElem_cons hlt
      have hxi : (mLk M)[i]? = some (mLk M)[i] := List.getElem?_eq_getElem hlt
      have hxv := hRM.2.2.2.2.2.2 i _ hxi
      have hxk := hWl.1 _ (List.getElem_mem hlt)
      rw [hdr] at hQi
      generalize (mLk M)[i] = x at hxi hxv hxk hQi hdr
      have hal : alF S (x :: (mLk M).drop (i + 1)) = (x.2 == vlF S.1 (vF S) x.1 && alF S ((mLk M).drop (i + 1))) := rfl
      rw [hal] at hQi
      have hvb := (vlF_b hpi.2.2.2.2.1 (Nat.le_of_lt hl) hxk.1).1
      have h121 := hpi.1.1
      refine ar_aload_n 17 rfl d_X0_wouldFit_16 rfl ?_
      refine ar_getA 20 rfl d_X0_wouldFit_17 fl_X0_45 rfl (by assumption) (by assumption) ?_
      refine ar_iload_n 21 rfl d_X0_wouldFit_20 rfl ?_
      refine ar_ilv (y := x.2) 22 rfl d_X0_wouldFit_21 (by assumption) (by omega) hxv.2 ?_
      refine ar_aload_n 23 rfl d_X0_wouldFit_22 rfl ?_
      refine ar_aload_n 24 rfl d_X0_wouldFit_23 rfl ?_
      refine ar_getA 27 rfl d_X0_wouldFit_24 fl_X0_48 rfl (by assumption) (by assumption) ?_
      refine ar_iload_n 28 rfl d_X0_wouldFit_27 rfl ?_
      refine ar_ilv (y := x.1) 29 rfl d_X0_wouldFit_28 (by assumption) (by omega) hxv.1 ?_
      refine ar_aload_n 30 rfl d_X0_wouldFit_29 rfl ?_
      refine ar_giv (y := (l : Int)) 33 rfl d_X0_wouldFit_30 fl_X0_51 rfl (by assumption) (by rw [hRM.1]; exact hloaf) ?_
      refine ar_callV0 (M' := mX0_valueNow) (As := [_, _]) (ls' := [Va _, Vi _, Vi _, Vu]) 36 rfl d_X0_wouldFit_33 ml_X0_54 mt_X0_valueNow h121 rfl (Nat.le_of_ble_eq_true rfl) rfl (Nat.le_of_ble_eq_true rfl) (by omega) ?_
      refine sp_valueNow_fresh hA hpi hxk.1 (by omega) (by omega) (fun σ1 hp1 hf1 => ?_)
      have hm1 : hR σ1 (s + 4) p = some m := by
        show σ1.2.1 _ _ = _
        rw [hf1.1]
        exact hmi
      refine ar_icmp_eq 41 39 rfl rfl d_X0_wouldFit_36 (by omega) (by omega) (fun g36 => ?_) (fun g36 => ?_)
      · refine ar_inc_3 (y := ((i + 1 : Nat) : Int)) 44 rfl d_X0_wouldFit_41 rfl (by intro _ h; cases h) (by omega) ?_
        refine ar_goto 8 rfl d_X0_wouldFit_44 ?_
        refine ih ((mLk M).length - (i + 1)) (by omega) (i + 1) _ σ1 rfl (by omega) hp1 hm1 (fun σ' t' a b => ?_)
        have h9 := hQi σ' t' a (hf1.tr b)
        rw [← g36] at h9
        simp only [beq_self_eq_true, Bool.true_and] at h9
        exact h9
      · refine ar_iconst 40 rfl d_X0_wouldFit_39 ?_
        refine WA.ret (some (Vi _)) ⟨d_X0_wouldFit_40, rfl, Or.inr ⟨rfl, Or.inl rfl⟩⟩ ?_
        have h9 := hQi σ1 _ hp1 hf1
        rw [if_neg (by simp [g36])] at h9
        exact h9
  refine ar_aload_n 1 rfl d_X0_wouldFit_0 rfl ?_
  refine ar_aload_n 2 rfl d_X0_wouldFit_1 rfl ?_
  refine ar_iconst 3 rfl d_X0_wouldFit_2 ?_
  refine ar_callV0 (M' := mX0_begin) (As := [_, _]) (ls' := [Va _, Vr _, Vi _]) 6 rfl d_X0_wouldFit_3 ml_X0_30 mt_X0_begin (by assumption) rfl (Nat.le_of_ble_eq_true rfl) rfl (Nat.le_of_ble_eq_true rfl) (by omega) ?_
  refine sp_fresh0 (c := fun _ => True) hs hB hst hw hsn (by omega) (fun σ1 hp1 hz1 => ?_)
  have hm1 : hR σ1 (s + 4) p = some m := by
    rw [(hz1.2.2 (s + 4) (by omega)).2]
    exact hm
  refine ar_iconst 7 rfl d_X0_wouldFit_6 ?_
  refine ar_ist_3 8 rfl d_X0_wouldFit_7 rfl (by intro _ h; cases h) ?_
  exact loop _ 0 0 σ1 rfl (Nat.zero_le _) hp1 hm1 (fun σ' t' a b => by
    have h9 := hQ σ' a.1 (hz1.tr (FrZ.f b))
    exact h9)
end FRESHW
