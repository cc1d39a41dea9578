-- ===== which memory fits freshly =====
def alF (S : SS) (lk : List (Int × Int)) : Bool := lk.all (fun x => x.2 == vlF S.1 (vF S) x.1)
/-- the place of the first memory of loaf l that fits -/
def fitP (S : SS) (l : Nat) : Option Nat := S.2.1.findIdx? (fun M => isOf (l : Int) M && alF S (mLk M))
def fitI (S : SS) : List Int → Option Nat
  | [] => none
  | i :: t => match S.2.1.find? (fun M => mSer M == i) with
    | none => fitI S t
    | some M => if alF S (mLk M) = true then plS S.2.1 i else fitI S t
theorem fitI_suf {S : SS} {l : Nat} : ∀ (suf pre : List Mem), S.2.1 = pre ++ suf → (S.2.1.map mSer).Nodup → fitI S ((suf.filter (isOf (l : Int))).map mSer) = (suf.findIdx? (fun M => isOf (l : Int) M && alF S (mLk M))).map (fun i => pre.length + i)
  | [], pre, _, _ => rfl
  | x :: t, pre, h, hn => by
    have ih := fitI_suf (S := S) (l := l) t (pre ++ [x]) (by rw [h]; simp) hn
    rw [List.findIdx?_cons]
    have hmap : (Option.map (fun i => i + 1) (t.findIdx? (fun M => isOf (l : Int) M && alF S (mLk M)))).map (fun i => pre.length + i) = (t.findIdx? (fun M => isOf (l : Int) M && alF S (mLk M))).map (fun i => (pre ++ [x]).length + i) := by
      rw [Option.map_map]
      congr 1
      funext i
      simp only [Function.comp, List.length_append, List.length_cons, List.length_nil]
      omega
    by_cases e : isOf (l : Int) x = true
    · have hx : S.2.1[pre.length]? = some x := by
        rw [h, List.getElem?_append_right (Nat.le_refl _), Nat.sub_self]
        rfl
      have hp := plS_some hx rfl (fun j M' hj hM' he => by
        have := nd_at hn hM' hx he
        omega)
      rw [List.filter_cons_of_pos e, List.map_cons, fitI, hp.2]
      simp only []
      by_cases e2 : alF S (mLk x) = true
      · rw [if_pos e2, if_pos (by rw [e, e2]; rfl), hp.1]
        rfl
      · rw [if_neg e2, if_neg (by rw [e]; simpa using e2), ih, hmap]
    · rw [List.filter_cons_of_neg e, if_neg (by simp [e]), ih, hmap]
theorem fitI_eq {S : SS} {l : Nat} (hn : (S.2.1.map mSer).Nodup) : fitI S ((S.2.1.filter (isOf (l : Int))).map mSer) = fitP S l := by
  rw [fitI_suf (l := l) S.2.1 [] rfl hn]
  unfold fitP
  cases S.2.1.findIdx? (fun M => isOf (l : Int) M && alF S (mLk M)) with
  | none => rfl
  | some i => simp
section FRESHW
variable {G : GT} {d k n s l t : Nat} {σ : Sg} {S : SS} {Q : Option AV → Sg → Prop}
set_option maxHeartbeats 8000000 in
theorem sp_isAsItWas_fresh {m p : Nat} {M : Mem} {ser : Int} (hA : FC G s S l (d - 2)) (hp : FrP s S t σ) (hM : S.2.1[p]? = some M) (hm : hR σ (s + 4) p = some m) (hser : mSer M = ser) (hloaf : mLoaf M = (l : Int)) (hl : l < 6) (hz : S.1 815 ≤ 2147483647) (hdp : 3 ≤ d)
    (hQ : ∀ σ' t', FrP s S t' σ' → FrF l σ σ' → Q (some (Vi (if alF S (mLk M) = true then 1 else 0))) σ') : WA G d 0 0 mX0_isAsItWas 0 [Va 121, Va m, Vi ser, Vu, Vu] [] σ Q := by
  have hWM := hp.2.2.2.2.1.2.2.2.2.2.2.1 M (List.mem_of_getElem? hM)
  have hWl := hWM.2.2.2.2.2.2
  rw [hloaf, Int.toNat_natCast] at hWl
  have hlen := WFl_len hWl
  have hser32 : i32 ser := by
    have hb5 := hWM.2.2.2.2.1
    have hb6 := hWM.2.2.2.2.2.1
    rw [← hser]
    constructor <;> omega
  have loop : ∀ r i : Nat, ∀ (ti : Nat) (σi : Sg) (x4 : AV), (mLk M).length - i = r → i ≤ (mLk M).length → FrP s S ti σi → hR σi (s + 4) p = some m →
      (∀ σ' t', FrP s S t' σ' → FrF l σi σ' → Q (some (Vi (if alF S ((mLk M).drop i) = true then 1 else 0))) σ') → WA G d 0 0 mX0_isAsItWas 2 [Va 121, Va m, Vi ser, Vi (i : Int), x4] [] σi Q := by
    intro r
    induction r using Nat.strongRecOn with
    | ind r ih =>
    intro i ti σi x4 hr hi hpi hmi hQi
    have hpp := (List.getElem?_eq_some_iff.mp hM).1
    obtain ⟨hS, hSf, hSr, hSm⟩ := hpi.2.2.2.1
    have hp17 : p < 17 := by
      have := hSm.1
      omega
    obtain ⟨m9, hm9, hshm, -, -⟩ := hSm.at hS hp17
    cases hmi.symm.trans hm9
    have hRM := hSm.2.2.2.2 p M m hM hmi
    have hk := hshm.1
    have hk1 : sk σi (m + 1) = (10, 18) := hshm.2.1
    have hr6 : hR σi m 6 = some (m + 1) := hshm.2.2.2.1
    have h5 : hI σi m 5 = ((mLk M).length : Int) := hRM.2.2.2.2.2.1
    refine ar_iload_n 3 rfl d_X0_isAsItWas_2 rfl ?_
    refine ar_aload_n 4 rfl d_X0_isAsItWas_3 rfl ?_
    refine ar_giv (y := ((mLk M).length : Int)) 7 rfl d_X0_isAsItWas_4 fl_X0_119 rfl (by assumption) (by assumption) ?_
    refine ar_icmp_ge 53 10 rfl rfl d_X0_isAsItWas_7 (by omega) (by omega) (fun g7 => ?_) (fun g7 => ?_)
    · refine ar_iconst 54 rfl d_X0_isAsItWas_53 ?_
      refine WA.ret (some (Vi _)) ⟨d_X0_isAsItWas_54, rfl, Or.inr ⟨rfl, Or.inr rfl⟩⟩ ?_
      have hd : (mLk M).drop i = [] := List.drop_eq_nil_of_le (by omega)
      rw [hd] at hQi
      exact hQi σi ti hpi FrF.rf
    · have hlt : i < (mLk M).length := by omega
      have hdr : (mLk M).drop i = (mLk M)[i] :: (mLk M).drop (i + 1) := List.drop_eq_getElem_cons hlt
      have hxi : (mLk M)[i]? = some (mLk M)[i] := List.getElem?_eq_getElem hlt
      have hxv := hRM.2.2.2.2.2.2 i _ hxi
      have hxk := hWl.1 _ (List.getElem_mem hlt)
      rw [hdr] at hQi
      generalize (mLk M)[i] = x at hxi hxv hxk hQi hdr
      have hal : alF S (x :: (mLk M).drop (i + 1)) = (x.2 == vlF S.1 (vF S) x.1 && alF S ((mLk M).drop (i + 1))) := rfl
      rw [hal] at hQi
      have hvb := (vlF_b hpi.2.2.2.2.1 (Nat.le_of_lt hl) hxk.1).1
      have h121 := hpi.1.1
      refine ar_aload_n 11 rfl d_X0_isAsItWas_10 rfl ?_
      refine ar_aload_n 12 rfl d_X0_isAsItWas_11 rfl ?_
      refine ar_getA 15 rfl d_X0_isAsItWas_12 fl_X0_122 rfl (by assumption) (by assumption) ?_
      refine ar_iload_n 16 rfl d_X0_isAsItWas_15 rfl ?_
      refine ar_ilv (y := x.1) 17 rfl d_X0_isAsItWas_16 (by assumption) (by omega) hxv.1 ?_
      refine ar_aload_n 18 rfl d_X0_isAsItWas_17 rfl ?_
      refine ar_giv (y := (l : Int)) 21 rfl d_X0_isAsItWas_18 fl_X0_125 rfl (by assumption) (by rw [hRM.1]; exact hloaf) ?_
      refine ar_callV0 (M' := mX0_valueNow) (As := [_, _]) (ls' := [Va _, Vi _, Vi _, Vu]) 24 rfl d_X0_isAsItWas_21 ml_X0_128 mt_X0_valueNow h121 rfl (Nat.le_of_ble_eq_true rfl) rfl (Nat.le_of_ble_eq_true rfl) (by omega) ?_
      refine sp_valueNow_fresh hA hpi hxk.1 (by omega) (by omega) (fun σ1 hp1 hf1 => ?_)
      have hm1 : hR σ1 (s + 4) p = some m := by
        show σ1.2.1 _ _ = _
        rw [hf1.1]
        exact hmi
      obtain ⟨hS1, hSf1, hSr1, hSm1⟩ := hp1.2.2.2.1
      have hRM1 := hSm1.2.2.2.2 p M m hM hm1
      have hk1 : (sk σ1 m).1 = 2 := by
        show (σ1.2.2.1 m).1 = _
        rw [hf1.1]
        exact hk
      have hkv1 : sk σ1 (m + 2) = (10, 18) := by
        show σ1.2.2.1 _ = _
        rw [hf1.1]
        exact hshm.2.2.1
      have hrv1 : hR σ1 m 7 = some (m + 2) := by
        show σ1.2.1 _ _ = _
        rw [hf1.1]
        exact hshm.2.2.2.2
      have hxv1 := (hRM1.2.2.2.2.2.2 i x hxi).2
      have hs1 : hI σ1 m 4 = ser := by rw [hRM1.2.2.2.2.1]; exact hser
      refine ar_ist_4 26 rfl d_X0_isAsItWas_24 rfl (by intro _ h; cases h) ?_
      refine ar_aload_n 27 rfl d_X0_isAsItWas_26 rfl ?_
      refine ar_giv (y := ser) 30 rfl d_X0_isAsItWas_27 fl_X0_131 rfl (by assumption) hs1 ?_
      refine ar_iload_n 31 rfl d_X0_isAsItWas_30 rfl ?_
      refine ar_icmp_ne 45 34 rfl rfl d_X0_isAsItWas_31 (by omega) (by omega) (fun h => absurd rfl h) (fun g31 => ?_)
      refine ar_aload_n 35 rfl d_X0_isAsItWas_34 rfl ?_
      refine ar_getA 38 rfl d_X0_isAsItWas_35 fl_X0_134 rfl (by assumption) (by assumption) ?_
      refine ar_iload_n 39 rfl d_X0_isAsItWas_38 rfl ?_
      refine ar_ilv (y := x.2) 40 rfl d_X0_isAsItWas_39 (by assumption) (by omega) hxv1 ?_
      refine ar_iload 42 rfl d_X0_isAsItWas_40 rfl ?_
      refine ar_icmp_eq 47 45 rfl rfl d_X0_isAsItWas_42 (by omega) (by omega) (fun g42 => ?_) (fun g42 => ?_)
      · refine ar_inc_3 (y := ((i + 1 : Nat) : Int)) 50 rfl d_X0_isAsItWas_47 rfl (by intro _ h; cases h) (by omega) ?_
        refine ar_goto 2 rfl d_X0_isAsItWas_50 ?_
        refine ih ((mLk M).length - (i + 1)) (by omega) (i + 1) _ σ1 _ rfl (by omega) hp1 hm1 (fun σ' t' a b => ?_)
        have h9 := hQi σ' t' a (hf1.tr b)
        rw [← g42] at h9
        simp only [beq_self_eq_true, Bool.true_and] at h9
        exact h9
      · refine ar_iconst 46 rfl d_X0_isAsItWas_45 ?_
        refine WA.ret (some (Vi _)) ⟨d_X0_isAsItWas_46, rfl, Or.inr ⟨rfl, Or.inl rfl⟩⟩ ?_
        have h9 := hQi σ1 _ hp1 hf1
        rw [if_neg (by simp [g42])] at h9
        exact h9
  refine ar_iconst 1 rfl d_X0_isAsItWas_0 ?_
  refine ar_ist_3 2 rfl d_X0_isAsItWas_1 rfl (by intro _ h; cases h) ?_
  exact loop _ 0 t σ Vu rfl (by omega) hp hm (by simpa using hQ)
set_option maxHeartbeats 8000000 in
theorem sp_fittingMemory_fresh (hs : (s + 58 ≤ 121 ∨ 156 ≤ s) ∧ s + 58 ≤ 652) (hA : FC G s S l (d - 3)) (hp : FrP s S t σ) (hl : l < 6) (hz : S.1 815 ≤ 2147483647) (hdp : 4 ≤ d)
    (hQ : ∀ σ' t', FrP s S t' σ' → FrF (l + 1) σ σ' → Q (some (Vi (pI (fitP S l)))) σ') : WA G d 0 0 mX0_fittingMemory 0 [Va 121, Vi (l : Int), Vu, Vu, Vu, Vu] [] σ Q := by
  have hW0 := hp.2.2.2.2.1
  have hids := ids_of (S := S) (l := l)
  have hlen : ((S.2.1.filter (isOf l)).map mSer).length ≤ 16 := by
    rw [List.length_map]
    have a := List.length_filter_le (isOf l) S.2.1
    have b := hW0.2.2.2.2.2.1
    have c := hW0.1.2
    omega
  have hlf : (S.2.1.filter (isOf l)).length = ((S.2.1.filter (isOf l)).map mSer).length := by rw [List.length_map]
  have hnd := hW0.2.2.2.2.2.2.2.1
  rw [← fitI_eq hnd] at hQ
  have hpos : ∀ M ∈ S.2.1, 0 < mSer M ∧ mSer M ≤ S.1 815 := fun M hM => ⟨(hW0.2.2.2.2.2.2.1 M hM).2.2.2.2.1, (hW0.2.2.2.2.2.2.1 M hM).2.2.2.2.2.1⟩
  have hser32 : ∀ M ∈ S.2.1, i32 (mSer M) := by
    intro M hM
    have hh := hpos M hM
    constructor <;> omega
  generalize hI9 : (S.2.1.filter (isOf l)).map mSer = ids at hids hlen hlf hQ
  have loop : ∀ r i : Nat, ∀ (ti : Nat) (σi : Sg) (x5 : AV), ids.length - i = r → i ≤ ids.length → FrP s S ti σi → (∀ (j : Nat) (x : Int), ids[j]? = some x → hI σi (132 + l) j = x) →
      (∀ σ' t', FrP s S t' σ' → FrF (l + 1) σi σ' → Q (some (Vi (pI (fitI S (ids.drop i))))) σ') → WA G d 0 0 mX0_fittingMemory 20 [Va 121, Vi (l : Int), Va (132 + l), Vi (ids.length : Int), Vi (i : Int), x5] [] σi Q := by
    intro r
    induction r using Nat.strongRecOn with
    | ind r ih =>
    intro i ti σi x5 hr hi hpi hrow hQi
    obtain ⟨hS, hSf, hSr, hSm⟩ := hpi.2.2.2.1
    have hk121 := hpi.1.1
    have hr121 := hpi.2.1
    have hks := hS.1
    have hkm : sk σi (s + 4) = (12, 17) := hS.2.2.2.2.1
    have hrm : hR σi s 4 = some (s + 4) := hS.2.2.2.2.2.2.2.2.2.2.1
    have hkrow : sk σi (132 + l) = (10, 17) := hpi.1.2.2.2.2.2.2.1 l hl
    refine ar_iload 22 rfl d_X0_fittingMemory_20 rfl ?_
    refine ar_iload_n 23 rfl d_X0_fittingMemory_22 rfl ?_
    refine ar_icmp_ge 83 26 rfl rfl d_X0_fittingMemory_23 (by omega) (by omega) (fun g23 => ?_) (fun g23 => ?_)
    · refine ar_iconst 84 rfl d_X0_fittingMemory_83 ?_
      refine WA.ret (some (Vi _)) ⟨d_X0_fittingMemory_84, rfl, Or.inl rfl⟩ ?_
      have hd : ids.drop i = [] := List.drop_eq_nil_of_le (by omega)
      rw [hd] at hQi
      exact hQi σi ti hpi FrF.rf
    · have hlt : i < ids.length := by omega
      have hdr : ids.drop i = ids[i] :: ids.drop (i + 1) := List.drop_eq_getElem_cons hlt
      have hrx := hrow i _ (List.getElem?_eq_getElem hlt)
      have hidx := hids _ (List.getElem_mem hlt)
      rw [hdr] at hQi
      generalize ids[i] = x at hrx hidx hQi hdr
      have hx32 : i32 x := by
        obtain ⟨M0, hM0, e0, -⟩ := hidx
        have hh := hpos M0 hM0
        rw [← e0]
        constructor <;> omega
      have h77 : ∀ (t2 : Nat) (σ2 : Sg) (y5 : AV), FrP s S t2 σ2 → hI σ2 (132 + l) = hI σi (132 + l) → (∀ σ' t', FrP s S t' σ' → FrF (l + 1) σ2 σ' → Q (some (Vi (pI (fitI S (ids.drop (i + 1)))))) σ') → WA G d 0 0 mX0_fittingMemory 77 [Va 121, Vi (l : Int), Va (132 + l), Vi (ids.length : Int), Vi (i : Int), y5] [] σ2 Q := by
        intro t2 σ2 y5 hp2 he hQ2
        refine ar_inc_4 (y := ((i + 1 : Nat) : Int)) 80 rfl d_X0_fittingMemory_77 rfl (by intro _ h; cases h) (by omega) ?_
        refine ar_goto 20 rfl d_X0_fittingMemory_80 ?_
        exact ih (ids.length - (i + 1)) (by omega) (i + 1) t2 σ2 y5 rfl (by omega) hp2 (fun j y hy => by rw [he]; exact hrow j y hy) hQ2
      refine ar_aload_n 27 rfl d_X0_fittingMemory_26 rfl ?_
      refine ar_getA 30 rfl d_X0_fittingMemory_27 fl_X0_46 rfl (by assumption) (by assumption) ?_
      refine ar_aload_n 31 rfl d_X0_fittingMemory_30 rfl ?_
      refine ar_iload 33 rfl d_X0_fittingMemory_31 rfl ?_
      refine ar_ilv (y := x) 34 rfl d_X0_fittingMemory_33 (by assumption) (by omega) hrx ?_
      refine ar_callV0 (M' := mX4_placeOfSerial) (As := [_]) (ls' := [Va _, Vi _, Vu]) 37 rfl d_X0_fittingMemory_34 ml_X0_112 mt_X4_placeOfSerial (by assumption) rfl (Nat.le_of_ble_eq_true rfl) rfl (Nat.le_of_ble_eq_true rfl) (by omega) ?_
      refine sp_X4_placeOfSerial hS hSm hx32 hser32 (fun i9 M hM hMx hfst => ?_) (fun hno => ?_)
      · refine ar_ist_5 39 rfl d_X0_fittingMemory_37 rfl (by intro _ h; cases h) ?_
        have hi17 : i9 < 17 := by
          have := (List.getElem?_eq_some_iff.mp hM).1
          have := hSm.1
          omega
        refine ar_iload 41 rfl d_X0_fittingMemory_39 rfl ?_
        refine ar_if_lt 77 44 rfl rfl d_X0_fittingMemory_41 (by omega) (fun h => by omega) (fun g41 => ?_)
        have hpl := plS_some hM hMx hfst
        have hMm := List.mem_of_getElem? hM
        have hMl := old_of hW0 (Grow.rf hW0) hMm hMx hidx
        obtain ⟨m, hm, hshm, -, -⟩ := hSm.at hS hi17
        rw [fitI, hpl.2] at hQi
        simp only [] at hQi
        have hkM := hshm.1
        refine ar_aload_n 45 rfl d_X0_fittingMemory_44 rfl ?_
        refine ar_aload_n 46 rfl d_X0_fittingMemory_45 rfl ?_
        refine ar_getA 49 rfl d_X0_fittingMemory_46 fl_X0_46 rfl (by assumption) (by assumption) ?_
        refine ar_getA 52 rfl d_X0_fittingMemory_49 fl_X0_76 rfl (by assumption) (by assumption) ?_
        refine ar_iload 54 rfl d_X0_fittingMemory_52 rfl ?_
        refine ar_aalA 55 rfl d_X0_fittingMemory_54 (by assumption) (by omega) (by omega) hm ?_
        refine ar_aload_n 56 rfl d_X0_fittingMemory_55 rfl ?_
        refine ar_iload 58 rfl d_X0_fittingMemory_56 rfl ?_
        refine ar_ilv (y := x) 59 rfl d_X0_fittingMemory_58 (by assumption) (by omega) hrx ?_
        refine ar_callV0 (M' := mX0_isAsItWas) (As := [_, _]) (ls' := [Va _, Vr _, Vi _, Vu, Vu]) 62 rfl d_X0_fittingMemory_59 ml_X0_115 mt_X0_isAsItWas (by assumption) rfl (Nat.le_of_ble_eq_true rfl) rfl (Nat.le_of_ble_eq_true rfl) (by omega) ?_
        refine sp_isAsItWas_fresh (by exact hA) hpi hM hm hMx hMl hl hz (by omega) (fun σ1 t1 hp1 hf1 => ?_)
        have hrow1 : hI σ1 (132 + l) = hI σi (132 + l) := (hf1.2.2.2 l (Nat.le_refl l) hl).2.1
        by_cases hb : alF S (mLk M) = true
        · rw [if_pos hb] at hQi ⊢
          obtain ⟨hS1, hSf1, hSr1, hSm1⟩ := hp1.2.2.2.1
          have hk121 := hp1.1.1
          have hr121 := hp1.2.1
          have hks := hS1.1
          have hkrow : sk σ1 (132 + l) = (10, 17) := hp1.1.2.2.2.2.2.2.1 l hl
          have hrx1 : hI σ1 (132 + l) i = x := by rw [hrow1]; exact hrx
          refine ar_if_eq 77 65 rfl rfl d_X0_fittingMemory_62 (by omega) (fun h => absurd h (by decide)) (fun g62 => ?_)
          refine ar_aload_n 66 rfl d_X0_fittingMemory_65 rfl ?_
          refine ar_getA 69 rfl d_X0_fittingMemory_66 fl_X0_46 rfl (by assumption) (by assumption) ?_
          refine ar_aload_n 70 rfl d_X0_fittingMemory_69 rfl ?_
          refine ar_iload 72 rfl d_X0_fittingMemory_70 rfl ?_
          refine ar_ilv (y := x) 73 rfl d_X0_fittingMemory_72 (by assumption) (by omega) hrx1 ?_
          refine ar_callV0 (M' := mX4_placeOfSerial) (As := [_]) (ls' := [Va _, Vi _, Vu]) 76 rfl d_X0_fittingMemory_73 ml_X0_112 mt_X4_placeOfSerial (by assumption) rfl (Nat.le_of_ble_eq_true rfl) rfl (Nat.le_of_ble_eq_true rfl) (by omega) ?_
          refine sp_X4_placeOfSerial hS1 hSm1 hx32 hser32 (fun i8 M8 hM8 hMx8 hfst8 => ?_) (fun hno8 => ?_)
          · refine WA.ret (some (Vi _)) ⟨d_X0_fittingMemory_76, rfl, Or.inl rfl⟩ ?_
            have h8 := (plS_some hM8 hMx8 hfst8).1
            have h9 := hQi σ1 t1 hp1 (hf1.mono (by omega))
            rw [h8] at h9
            exact h9
          · refine WA.ret (some (Vi _)) ⟨d_X0_fittingMemory_76, rfl, Or.inl rfl⟩ ?_
            have h8 := (plS_none hno8).1
            have h9 := hQi σ1 t1 hp1 (hf1.mono (by omega))
            rw [h8] at h9
            exact h9
        · rw [if_neg hb] at hQi ⊢
          refine ar_if_eq 77 65 rfl rfl d_X0_fittingMemory_62 (by omega) (fun g62 => ?_) (fun h => absurd rfl h)
          exact h77 _ σ1 _ hp1 hrow1 (fun σ' t' a b => hQi σ' t' a ((hf1.mono (by omega)).tr b))
      · refine ar_ist_5 39 rfl d_X0_fittingMemory_37 rfl (by intro _ h; cases h) ?_
        refine ar_iload 41 rfl d_X0_fittingMemory_39 rfl ?_
        refine ar_if_lt 77 44 rfl rfl d_X0_fittingMemory_41 (by omega) (fun g41 => ?_) (fun h => absurd h (by decide))
        rw [fitI, (plS_none hno).2] at hQi
        exact h77 ti σi _ hpi rfl hQi
  obtain ⟨hS, hSf, hSr, hSm⟩ := hp.2.2.2.1
  have hk121 := hp.1.1
  have hr121 := hp.2.1
  have hks := hS.1
  have hk6 : sk σ 131 = (15, 6) := hp.1.2.2.2.2.2.1
  have hr6 : hR σ 121 6 = some 131 := hp.1.2.2.2.2.2.2.2.2.2.2.1
  have hrw := (hp.1.2.2.2.2.2.2.2.2.2.2.2 l hl).2.2.1
  have hkrow : sk σ (132 + l) = (10, 17) := hp.1.2.2.2.2.2.2.1 l hl
  refine ar_aload_n 1 rfl d_X0_fittingMemory_0 rfl ?_
  refine ar_getA 4 rfl d_X0_fittingMemory_1 fl_X0_26 rfl (by assumption) (by assumption) ?_
  refine ar_iload_n 5 rfl d_X0_fittingMemory_4 rfl ?_
  refine ar_aalA 6 rfl d_X0_fittingMemory_5 (by assumption) (by omega) (by omega) hrw ?_
  refine ar_ast_2 7 rfl d_X0_fittingMemory_6 rfl (by intro _ h; cases h) ?_
  refine ar_aload_n 8 rfl d_X0_fittingMemory_7 rfl ?_
  refine ar_getA 11 rfl d_X0_fittingMemory_8 fl_X0_46 rfl (by assumption) (by assumption) ?_
  refine ar_iload_n 12 rfl d_X0_fittingMemory_11 rfl ?_
  refine ar_aload_n 13 rfl d_X0_fittingMemory_12 rfl ?_
  refine ar_callV0 (M' := mX4_serialsOf) (As := [_, _]) (ls' := [Va _, Vi _, Vr _, Vu, Vu]) 16 rfl d_X0_fittingMemory_13 ml_X0_108 mt_X4_serialsOf (by assumption) rfl (Nat.le_of_ble_eq_true rfl) rfl (Nat.le_of_ble_eq_true rfl) (by omega) ?_
  refine sp_X4_serialsOf hS hSm (by omega) (fun M hM => ?_) hkrow (by omega) (fun σ1 hf1 hrow1 => ?_)
  · have hh := (hW0.2.2.2.2.2.2.1 M hM)
    have := hh.1
    have := hh.2.1
    omega
  have hp1 : FrP s S t σ1 := hp.b hs hf1.1 (fun b hb => hf1.2 b (by omega)) (by rw [hf1.2 121 (by omega)]) (by rw [hf1.2 121 (by omega)]; exact hp.2.2.2.2.2.2.1) hp.2.2.2.2.2.2.2.1 (by rw [hf1.2 122 (by omega)]; exact hp.2.2.2.2.2.2.2.2)
  have hf9 : FrF (l + 1) σ σ1 := FrF.b hf1.1 (by rw [hf1.2 121 (by omega)]) (fun b hb => hf1.2 b (by
    rcases Nat.lt_or_ge b (132 + l) with e | e
    · exact Or.inl e
    · rcases Nat.lt_or_ge (132 + l) b with e2 | e2
      · exact Or.inr e2
      · exact absurd (Or.inr (Or.inr ⟨l, by omega, by omega⟩)) hb)) (by omega)
  rw [hlf]
  rw [hI9] at hrow1
  refine ar_ist_3 17 rfl d_X0_fittingMemory_16 rfl (by intro _ h; cases h) ?_
  refine ar_iconst 18 rfl d_X0_fittingMemory_17 ?_
  refine ar_ist_4 20 rfl d_X0_fittingMemory_18 rfl (by intro _ h; cases h) ?_
  exact loop _ 0 t σ1 Vu rfl (by omega) hp1 hrow1 (fun σ' t' a b => hQ σ' t' a (hf9.tr b))
theorem sp_X0_fittingPlace (hs : (s + 58 ≤ 121 ∨ 156 ≤ s) ∧ s + 58 ≤ 652) (hB : ShB σ) (hst : RSt σ s S) (hw : WFS S) (hsn : 652 ≤ sn σ) (hl : l < 6) (hz : S.1 815 ≤ 2147483647) (hdp : 36 ≤ d)
    (hQ : ∀ σ', ShB σ' → FrZ σ σ' → Q (some (Vi (match fitP S l with
      | some p => (p : Int)
      | none => -6))) σ') : WA G d k n mX0_fittingPlace 0 [Va 121, Va s, Vi (l : Int), Vu] [] σ Q := by
  have hk121 := hB.1
  refine ar_aload_n 1 rfl d_X0_fittingPlace_0 rfl ?_
  refine ar_aload_n 2 rfl d_X0_fittingPlace_1 rfl ?_
  refine ar_iconst 3 rfl d_X0_fittingPlace_2 ?_
  refine ar_callV0 (M' := mX0_begin) (As := [_, _]) (ls' := [Va _, Vr _, Vi _]) 6 rfl d_X0_fittingPlace_3 ml_X0_30 mt_X0_begin (by assumption) rfl (Nat.le_of_ble_eq_true rfl) rfl (Nat.le_of_ble_eq_true rfl) (by omega) ?_
  refine sp_fresh0 (c := fun _ => True) hs hB hst hw hsn (by omega) (fun σ1 hp1 hz1 => ?_)
  have hk121 := hp1.1.1
  refine ar_aload_n 7 rfl d_X0_fittingPlace_6 rfl ?_
  refine ar_iload_n 8 rfl d_X0_fittingPlace_7 rfl ?_
  refine ar_callV0 (M' := mX0_fittingMemory) (As := [_]) (ls' := [Va _, Vi _, Vu, Vu, Vu, Vu]) 11 rfl d_X0_fittingPlace_8 ml_X0_42 mt_X0_fittingMemory (by assumption) rfl (Nat.le_of_ble_eq_true rfl) rfl (Nat.le_of_ble_eq_true rfl) (by omega) ?_
  refine sp_fittingMemory_fresh hs (sp_loafValue_fresh hs l (d - 1 - 3) (by omega) (by omega)) hp1 hl hz (by omega) (fun σ2 t2 hp2 hf2 => ?_)
  have h9 := hQ σ2 hp2.1 (hz1.tr (FrZ.f hf2))
  have hpl : ∀ p, fitP S l = some p → p < 17 := by
    intro p hp
    unfold fitP at hp
    rw [List.findIdx?_eq_some_iff_getElem] at hp
    obtain ⟨h1, -, -⟩ := hp
    have h2 := hp2.2.2.2.1.2.2.2.1
    omega
  cases hf : fitP S l with
  | some p =>
    have hp17 := hpl p hf
    simp only [hf] at h9
    refine ar_top (y := (p : Int)) rfl ?_
    refine ar_ist_3 12 rfl d_X0_fittingPlace_11 rfl (by intro _ h; cases h) ?_
    refine ar_iload_n 13 rfl d_X0_fittingPlace_12 rfl ?_
    refine ar_if_ge 21 16 rfl rfl d_X0_fittingPlace_13 (by omega) (fun g13 => ?_) (fun h => by omega)
    refine ar_iload_n 22 rfl d_X0_fittingPlace_21 rfl ?_
    refine WA.ret (some (Vi _)) ⟨d_X0_fittingPlace_22, rfl, Or.inl rfl⟩ ?_
    exact h9
  | none =>
    simp only [hf] at h9
    refine ar_top (y := (-1 : Int)) rfl ?_
    refine ar_ist_3 12 rfl d_X0_fittingPlace_11 rfl (by intro _ h; cases h) ?_
    refine ar_iload_n 13 rfl d_X0_fittingPlace_12 rfl ?_
    refine ar_if_ge 21 16 rfl rfl d_X0_fittingPlace_13 (by omega) (fun h => by omega) (fun g13 => ?_)
    refine ar_bipush 18 rfl d_X0_fittingPlace_16 rfl ?_
    refine ar_goto 22 rfl d_X0_fittingPlace_18 ?_
    refine WA.ret (some (Vi _)) ⟨d_X0_fittingPlace_22, rfl, Or.inl rfl⟩ ?_
    exact h9
end FRESHW
