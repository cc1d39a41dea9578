-- ===== asking, walked: the memory that fits =====
theorem plS_some {L : List Mem} {w : Int} {i : Nat} {M : Mem} (h1 : L[i]? = some M) (h2 : mSer M = w) (h3 : ∀ (j : Nat) (M' : Mem), j < i → L[j]? = some M' → mSer M' ≠ w) : plS L w = some i ∧ L.find? (fun M => mSer M == w) = some M := by
  have hi := (List.getElem?_eq_some_iff.mp h1).1
  have he := (List.getElem?_eq_some_iff.mp h1).2
  refine ⟨?_, ?_⟩
  · unfold plS
    rw [List.findIdx?_eq_some_iff_getElem]
    refine ⟨hi, by rw [he]; simpa using h2, fun j hj => ?_⟩
    have := h3 j L[j] hj (List.getElem?_eq_getElem (by omega))
    simpa using this
  · rw [List.find?_eq_some_iff_getElem]
    refine ⟨by simpa using h2, i, hi, he, fun j hj => ?_⟩
    have := h3 j L[j] hj (List.getElem?_eq_getElem (by omega))
    simpa using this
theorem plS_none {L : List Mem} {w : Int} (h : ∀ M ∈ L, mSer M ≠ w) : plS L w = none ∧ L.find? (fun M => mSer M == w) = none := by
  refine ⟨?_, ?_⟩
  · unfold plS
    rw [List.findIdx?_eq_none_iff]
    intro M hM
    have := h M hM
    simpa using this
  · rw [List.find?_eq_none]
    intro M hM
    have := h M hM
    simpa using this
theorem OBJ.st {s : Nat} {z : Int} {σ σ' : Sg} {L : List Mem} (h1 : hR σ' (s + 4) = hR σ (s + 4)) (h2 : ∀ b, s ≤ b → b < s + 58 → hI σ' b = hI σ b) : OBJ s z σ L σ' L :=
  ⟨fun i M m a b _ => ⟨i, M, a, by rw [← h1]; exact b, mSame.rf M⟩, fun p hp => Or.inl (by rw [h2 _ (by omega) (by omega)]), fun j M m a b _ => ⟨j, M, a, by rw [h1]; exact b, mSame.rf M⟩, by rw [h2 s (by omega) (by omega)]; exact Int.le_refl _⟩
def pI (r : Option Nat) : Int := match r with
  | some p => (p : Int)
  | none => -1
section ASKW
variable {G : GT} {d k n s l : Nat} {σ : Sg} {Q : Option AV → Sg → Prop}
set_option maxHeartbeats 8000000 in
theorem sp_fittingMemory_ask {S : SS} (hs : (s + 58 ≤ 121 ∨ 156 ≤ s) ∧ s + 58 ≤ 652) (hA : AC G s l (d - 3)) (hp : AskPre s S σ) (hl : l < 6) (hz : S.1 815 + ((18 ^ l : Nat) : Int) ≤ 2147483647) (hdp : 4 ≤ d)
    (hQ : ∀ σ', AskPre s (fitA (askF l) ((S.2.1.filter (isOf l)).map mSer) S).1 σ' → FrA (l + 1) s σ σ' → OBJ s (S.1 815) σ S.2.1 σ' (fitA (askF l) ((S.2.1.filter (isOf l)).map mSer) S).1.2.1 → Q (some (Vi (pI (fitA (askF l) ((S.2.1.filter (isOf l)).map mSer) S).2))) σ') : WA G d 0 0 mX0_fittingMemory 0 [Va 121, Vi (l : Int), Vu, Vu, Vu, Vu] [] σ Q := by
  have hPA := askF_g l (by omega)
  have hW0 := hp.2.2.2.2.1
  have hids := ids_of (S := S) (l := l)
  have hlen : ((S.2.1.filter (isOf l)).map mSer).length ≤ 16 := by
    rw [List.length_map]
    have a := List.length_filter_le (isOf l) S.2.1
    have b := hW0.2.2.2.2.2.1
    have c := hW0.1.2
    omega
  have hlf : (S.2.1.filter (isOf l)).length = ((S.2.1.filter (isOf l)).map mSer).length := by rw [List.length_map]
  have hWn := Wn_e l
  generalize hI9 : (S.2.1.filter (isOf l)).map mSer = ids at hids hlen hlf hQ
  have loop : ∀ r i : Nat, ∀ (Si : SS) (σi : Sg) (x5 : AV), ids.length - i = r → i ≤ ids.length → AskPre s Si σi → Grow S Si (i * Wn l) → (∀ (j : Nat) (x : Int), ids[j]? = some x → hI σi (132 + l) j = x) →
      (∀ σ', AskPre s (fitA (askF l) (ids.drop i) Si).1 σ' → FrA (l + 1) s σi σ' → OBJ s (Si.1 815) σi Si.2.1 σ' (fitA (askF l) (ids.drop i) Si).1.2.1 → Q (some (Vi (pI (fitA (askF l) (ids.drop i) Si).2))) σ') → WA G d 0 0 mX0_fittingMemory 20 [Va 121, Vi (l : Int), Va (132 + l), Vi (ids.length : Int), Vi (i : Int), x5] [] σi Q := by
    intro r
    induction r using Nat.strongRecOn with
    | ind r ih =>
    intro i Si σi x5 hr hi hpi hgi hrow hQi
    obtain ⟨hS, hSf, hSr, hSm⟩ := hpi.2.2.2.1
    have hk121 := hpi.1.1
    have hr121 := hpi.2.1
    have hks := hS.1
    have hkm : sk σi (s + 4) = (12, 17) := hS.2.2.2.2.1
    have hrm : hR σi s 4 = some (s + 4) := hS.2.2.2.2.2.2.2.2.2.2.1
    have hkrow : sk σi (132 + l) = (10, 17) := hpi.1.2.2.2.2.2.2.1 l hl
    have hmW : i * Wn l ≤ 16 * Wn l := Nat.mul_le_mul_right _ (by omega)
    have hg3 := hgi.2.2.2.1
    have hg2 := hgi.2.2.1
    have h815 := hW0.2.2.2.2.1
    have hser32 : ∀ M ∈ Si.2.1, i32 (mSer M) := by
      intro M hM
      have hh := hpi.pos M hM
      constructor <;> omega
    refine ar_iload 22 rfl d_X0_fittingMemory_20 rfl ?_
    refine ar_iload_n 23 rfl d_X0_fittingMemory_22 rfl ?_
    refine ar_icmp_ge 83 26 rfl rfl d_X0_fittingMemory_23 (by omega) (by omega) (fun g23 => ?_) (fun g23 => ?_)
    · refine ar_iconst 84 rfl d_X0_fittingMemory_83 ?_
      refine WA.ret (some (Vi _)) ⟨d_X0_fittingMemory_84, rfl, Or.inl rfl⟩ ?_
      have hd : ids.drop i = [] := List.drop_eq_nil_of_le (by omega)
      rw [hd] at hQi
      exact hQi σi hpi FrA.rf OBJ.rf
    · have hlt : i < ids.length := by omega
      have hdr : ids.drop i = ids[i] :: ids.drop (i + 1) := List.drop_eq_getElem_cons hlt
      have hrx := hrow i _ (List.getElem?_eq_getElem hlt)
      have hidx := hids _ (List.getElem_mem hlt)
      rw [hdr] at hQi
      have hi1 : (i + 1) * Wn l = i * Wn l + Wn l := Nat.succ_mul _ _
      have hi15 : i * Wn l ≤ 15 * Wn l := Nat.mul_le_mul_right _ (by omega)
      generalize ids[i] = x at hrx hidx hQi hdr
      have hx32 : i32 x := by
        obtain ⟨M0, hM0, e0, -⟩ := hidx
        have hh := hp.pos M0 hM0
        rw [← e0]
        constructor <;> omega
      have h77 : ∀ (S2 : SS) (σ2 : Sg) (y5 : AV), AskPre s S2 σ2 → Grow S S2 ((i + 1) * Wn l) → hI σ2 (132 + l) = hI σi (132 + l) → (∀ σ', AskPre s (fitA (askF l) (ids.drop (i + 1)) S2).1 σ' → FrA (l + 1) s σ2 σ' → OBJ s (S2.1 815) σ2 S2.2.1 σ' (fitA (askF l) (ids.drop (i + 1)) S2).1.2.1 → Q (some (Vi (pI (fitA (askF l) (ids.drop (i + 1)) S2).2))) σ') → WA G d 0 0 mX0_fittingMemory 77 [Va 121, Vi (l : Int), Va (132 + l), Vi (ids.length : Int), Vi (i : Int), y5] [] σ2 Q := by
        intro S2 σ2 y5 hp2 hg2 he hQ2
        refine ar_inc_4 (y := ((i + 1 : Nat) : Int)) 80 rfl d_X0_fittingMemory_77 rfl (by intro _ h; cases h) (by omega) ?_
        refine ar_goto 20 rfl d_X0_fittingMemory_80 ?_
        exact ih (ids.length - (i + 1)) (by omega) (i + 1) S2 σ2 y5 rfl (by omega) hp2 hg2 (fun j y hy => by rw [he]; exact hrow j y hy) hQ2
      refine ar_aload_n 27 rfl d_X0_fittingMemory_26 rfl ?_
      refine ar_getA 30 rfl d_X0_fittingMemory_27 fl_X0_57 rfl (by assumption) (by assumption) ?_
      refine ar_aload_n 31 rfl d_X0_fittingMemory_30 rfl ?_
      refine ar_iload 33 rfl d_X0_fittingMemory_31 rfl ?_
      refine ar_ilv (y := x) 34 rfl d_X0_fittingMemory_33 (by assumption) (by omega) hrx ?_
      refine ar_callV0 (M' := mX4_placeOfSerial) (As := [_]) (ls' := [Va _, Vi _, Vu]) 37 rfl d_X0_fittingMemory_34 ml_X0_127 mt_X4_placeOfSerial (by assumption) rfl (Nat.le_of_ble_eq_true rfl) rfl (Nat.le_of_ble_eq_true rfl) (by omega) ?_
      refine sp_X4_placeOfSerial hS hSm hx32 hser32 (fun i9 M hM hMx hfst => ?_) (fun hno => ?_)
      · refine ar_ist_5 39 rfl d_X0_fittingMemory_37 rfl (by intro _ h; cases h) ?_
        have hi17 : i9 < 17 := by
          have := (List.getElem?_eq_some_iff.mp hM).1
          have := hSm.1
          omega
        refine ar_iload 41 rfl d_X0_fittingMemory_39 rfl ?_
        refine ar_if_lt 77 44 rfl rfl d_X0_fittingMemory_41 (by omega) (fun h => by omega) (fun g41 => ?_)
        have hpl := plS_some hM hMx hfst
        have hMm := List.mem_of_getElem? hM
        have hMl := old_of hW0 hgi hMm hMx hidx
        have hWm := (hpi.2.2.2.2.1.2.2.2.2.2.2.1 M hMm).2.2.2.2.2.2
        rw [hMl, Int.toNat_natCast] at hWm
        have hcD := cD_W hWm
        obtain ⟨m, hm, hshm, -, -⟩ := hSm.at hS hi17
        have hgo := okA_g (i := x) hPA (mLk M) Si (fun y hy => (hWm.1 y hy).1) hpi.2.2.2.2.1
        have hg9 := hgi.tr (hgo.le hcD)
        rw [← hi1] at hg9
        rw [fitA, hpl.2] at hQi
        simp only [] at hQi
        have hkM := hshm.1
        refine ar_aload_n 45 rfl d_X0_fittingMemory_44 rfl ?_
        refine ar_aload_n 46 rfl d_X0_fittingMemory_45 rfl ?_
        refine ar_getA 49 rfl d_X0_fittingMemory_46 fl_X0_57 rfl (by assumption) (by assumption) ?_
        refine ar_getA 52 rfl d_X0_fittingMemory_49 fl_X0_91 rfl (by assumption) (by assumption) ?_
        refine ar_iload 54 rfl d_X0_fittingMemory_52 rfl ?_
        refine ar_aalA 55 rfl d_X0_fittingMemory_54 (by assumption) (by omega) (by omega) hm ?_
        refine ar_aload_n 56 rfl d_X0_fittingMemory_55 rfl ?_
        refine ar_iload 58 rfl d_X0_fittingMemory_56 rfl ?_
        refine ar_ilv (y := x) 59 rfl d_X0_fittingMemory_58 (by assumption) (by omega) hrx ?_
        refine ar_callV0 (M' := mX0_isAsItWas) (As := [_, _]) (ls' := [Va _, Vr _, Vi _, Vu, Vu]) 62 rfl d_X0_fittingMemory_59 ml_X0_130 mt_X0_isAsItWas (by assumption) rfl (Nat.le_of_ble_eq_true rfl) rfl (Nat.le_of_ble_eq_true rfl) (by omega) ?_
        refine sp_isAsItWas_ask (by exact hA) hpi ⟨i9, M, hM, hm, hMx, rfl, hMl⟩ hl (by omega) (by omega) (fun σ1 hp1 hf1 ho1 => ?_)
        have hrow1 : hI σ1 (132 + l) = hI σi (132 + l) := (hf1.2.2.2.2.2 l (Nat.le_refl l) hl).2.1
        by_cases hb : (okA (askF l) x (mLk M) Si).2 = true
        · rw [if_pos hb] at hQi ⊢
          obtain ⟨hS1, hSf1, hSr1, hSm1⟩ := hp1.2.2.2.1
          have hk121 := hp1.1.1
          have hr121 := hp1.2.1
          have hks := hS1.1
          have hkrow : sk σ1 (132 + l) = (10, 17) := hp1.1.2.2.2.2.2.2.1 l hl
          have hrx1 : hI σ1 (132 + l) i = x := by rw [hrow1]; exact hrx
          have hg93 := hg9.2.2.2.1
          have hser1 : ∀ M' ∈ (okA (askF l) x (mLk M) Si).1.2.1, i32 (mSer M') := by
            intro M' hM'
            have hh := hp1.pos M' hM'
            constructor <;> omega
          refine ar_if_eq 77 65 rfl rfl d_X0_fittingMemory_62 (by omega) (fun h => absurd h (by decide)) (fun g62 => ?_)
          refine ar_aload_n 66 rfl d_X0_fittingMemory_65 rfl ?_
          refine ar_getA 69 rfl d_X0_fittingMemory_66 fl_X0_57 rfl (by assumption) (by assumption) ?_
          refine ar_aload_n 70 rfl d_X0_fittingMemory_69 rfl ?_
          refine ar_iload 72 rfl d_X0_fittingMemory_70 rfl ?_
          refine ar_ilv (y := x) 73 rfl d_X0_fittingMemory_72 (by assumption) (by omega) hrx1 ?_
          refine ar_callV0 (M' := mX4_placeOfSerial) (As := [_]) (ls' := [Va _, Vi _, Vu]) 76 rfl d_X0_fittingMemory_73 ml_X0_127 mt_X4_placeOfSerial (by assumption) rfl (Nat.le_of_ble_eq_true rfl) rfl (Nat.le_of_ble_eq_true rfl) (by omega) ?_
          refine sp_X4_placeOfSerial hS1 hSm1 hx32 hser1 (fun i8 M8 hM8 hMx8 hfst8 => ?_) (fun hno8 => ?_)
          · refine WA.ret (some (Vi _)) ⟨d_X0_fittingMemory_76, rfl, Or.inl rfl⟩ ?_
            have h8 := (plS_some hM8 hMx8 hfst8).1
            have h9 := hQi σ1 hp1 (hf1.mono (by omega)) ho1
            simp only [h8] at h9
            exact h9
          · refine WA.ret (some (Vi _)) ⟨d_X0_fittingMemory_76, rfl, Or.inl rfl⟩ ?_
            have h8 := (plS_none hno8).1
            have h9 := hQi σ1 hp1 (hf1.mono (by omega)) ho1
            simp only [h8] at h9
            exact h9
        · rw [if_neg hb] at hQi ⊢
          refine ar_if_eq 77 65 rfl rfl d_X0_fittingMemory_62 (by omega) (fun g62 => ?_) (fun h => absurd rfl h)
          exact h77 _ σ1 _ hp1 hg9 hrow1 (fun σ' a b c => hQi σ' a ((hf1.mono (by omega)).tr b) (ho1.tr c hgo.2.2.1 hSm hpi.pos))
      · refine ar_ist_5 39 rfl d_X0_fittingMemory_37 rfl (by intro _ h; cases h) ?_
        refine ar_iload 41 rfl d_X0_fittingMemory_39 rfl ?_
        refine ar_if_lt 77 44 rfl rfl d_X0_fittingMemory_41 (by omega) (fun g41 => ?_) (fun h => absurd h (by decide))
        rw [fitA, (plS_none hno).2] at hQi
        exact h77 Si σi _ hpi (hgi.le (by omega)) rfl hQi
  obtain ⟨hS, hSf, hSr, hSm⟩ := hp.2.2.2.1
  have hk121 := hp.1.1
  have hr121 := hp.2.1
  have hks := hS.1
  have hk6 : sk σ 131 = (15, 6) := hp.1.2.2.2.2.2.1
  have hr6 : hR σ 121 6 = some 131 := hp.1.2.2.2.2.2.2.2.2.2.2.1
  have hrw := (hp.1.2.2.2.2.2.2.2.2.2.2.2 l hl).2.2.1
  have hkrow : sk σ (132 + l) = (10, 17) := hp.1.2.2.2.2.2.2.1 l hl
  refine ar_aload_n 1 rfl d_X0_fittingMemory_0 rfl ?_
  refine ar_getA 4 rfl d_X0_fittingMemory_1 fl_X0_26 rfl (by assumption) (by assumption) ?_
  refine ar_iload_n 5 rfl d_X0_fittingMemory_4 rfl ?_
  refine ar_aalA 6 rfl d_X0_fittingMemory_5 (by assumption) (by omega) (by omega) hrw ?_
  refine ar_ast_2 7 rfl d_X0_fittingMemory_6 rfl (by intro _ h; cases h) ?_
  refine ar_aload_n 8 rfl d_X0_fittingMemory_7 rfl ?_
  refine ar_getA 11 rfl d_X0_fittingMemory_8 fl_X0_57 rfl (by assumption) (by assumption) ?_
  refine ar_iload_n 12 rfl d_X0_fittingMemory_11 rfl ?_
  refine ar_aload_n 13 rfl d_X0_fittingMemory_12 rfl ?_
  refine ar_callV0 (M' := mX4_serialsOf) (As := [_, _]) (ls' := [Va _, Vi _, Vr _, Vu, Vu]) 16 rfl d_X0_fittingMemory_13 ml_X0_123 mt_X4_serialsOf (by assumption) rfl (Nat.le_of_ble_eq_true rfl) rfl (Nat.le_of_ble_eq_true rfl) (by omega) ?_
  refine sp_X4_serialsOf hS hSm (by omega) (fun M hM => ?_) hkrow (by omega) (fun σ1 hf1 hrow1 => ?_)
  · have hh := (hW0.2.2.2.2.2.2.1 M hM)
    have := hh.1
    have := hh.2.1
    omega
  have hp1 : AskPre s S σ1 := hp.b hs hf1.1 (fun b hb => hf1.2 b (by omega)) (by rw [hf1.2 121 (by omega)])
  have hf9 : FrA (l + 1) s σ σ1 := FrA.b hf1.1 (fun b hb => hf1.2 b (by
    rcases Nat.lt_or_ge b (132 + l) with e | e
    · exact Or.inl e
    · rcases Nat.lt_or_ge (132 + l) b with e2 | e2
      · exact Or.inr e2
      · exact absurd ⟨l, by omega, by omega⟩ hb)) (by omega)
  have ho1 : OBJ s (S.1 815) σ S.2.1 σ1 S.2.1 := OBJ.st (by show σ1.2.1 _ = σ.2.1 _; rw [hf1.1]) (fun b h1 h2 => hf1.2 b (by omega))
  rw [hlf]
  rw [hI9] at hrow1
  refine ar_ist_3 17 rfl d_X0_fittingMemory_16 rfl (by intro _ h; cases h) ?_
  refine ar_iconst 18 rfl d_X0_fittingMemory_17 ?_
  refine ar_ist_4 20 rfl d_X0_fittingMemory_18 rfl (by intro _ h; cases h) ?_
  exact loop _ 0 S σ1 Vu rfl (by omega) hp1 ((Grow.rf hW0).le (by omega)) hrow1 (fun σ' a b c => hQ σ' a (hf9.tr b) (ho1.tr c (Int.le_refl _) hSm hp.pos))
end ASKW
