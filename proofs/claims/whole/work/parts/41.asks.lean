-- ===== the class's questions =====
def ofSF (x w : Int) (C : CS) : Int := if ¬ (0 ≤ x ∧ x < 12) then -1 else if w = 0 then C.1.1 (2 + x.toNat) else if w = 1 then C.1.1 (14 + x.toNat) else if w = 2 then ((lset (fun l => (cSh (C.1.2.2 l)).testBit x.toNat) 6 : Nat) : Int) else -2
def ofLF (x w : Int) (C : CS) : Int := if ¬ (0 ≤ x ∧ x < 6) then -1 else if w = 0 then (if C.1.2.2 x.toNat = [] then 0 else 1) else if w = 1 then ((cSh (C.1.2.2 x.toNat) : Nat) : Int) else if w = 2 then ((cLo (C.1.2.2 x.toNat) : Nat) : Int) else if w = 3 then C.1.1 (800 + x.toNat) else if w = 4 then C.1.1 (806 + x.toNat) else if w = 5 then ((C.1.2.1.filter (isOf x)).length : Int) else -2
def mF (w : Int) (M : Mem) : Int := if w = 0 then mLoaf M else if w = 1 then mRes M else if w = 2 then ((mLk M).length : Int) else if w = 3 then mSteps M else if w = 4 then mUses M else -2
def ofMF (m w : Int) (C : CS) : Int := if ¬ (0 ≤ m ∧ m < (C.1.2.1.length : Int)) then -1 else match C.1.2.1[m.toNat]? with
  | some M => mF w M
  | none => -1
def lkMF (i w : Int) (M : Mem) : Int := if ¬ (0 ≤ i ∧ i < ((mLk M).length : Int)) then -1 else match (mLk M)[i.toNat]? with
  | some x => if w = 0 then x.1 else if w = 1 then x.2 else -2
  | none => -1
def lookF (m i w : Int) (C : CS) : Int := if ¬ (0 ≤ m ∧ m < (C.1.2.1.length : Int)) then -1 else match C.1.2.1[m.toNat]? with
  | some M => lkMF i w M
  | none => -1
def cntF (w : Int) (C : CS) : Int := if w = 0 then (C.1.2.1.length : Int) else if w = 1 then C.1.1 812 else if w = 2 then C.1.1 813 else if w = 3 then (C.2.2.2.length : Int) else if w = 4 then (C.2.1.length : Int) else if w = 5 then C.1.1 0 else if w = 6 then C.1.1 1 else if w = 7 then ((lset (fun l => decide (C.1.2.2 l ≠ [])) 6 : Nat) : Int) else -2
section ASKS
variable {G : GT} {d k n : Nat} {σ : Sg} {Q : Option AV → Sg → Prop} {Φ : Sg} {E : Nat → Nat} {C : CS}
theorem sp_X5_ofShelf {x w : Int} (h : RepC Φ E C σ) (hx : i32 x) (hwd : i32 w) (hdp : 40 ≤ d) (hQ : Q (some (Vi (ofSF x w C))) σ) : WA G d k n mX5_ofShelf 0 [Va 0, Vi x, Vi w] [] σ Q := by
  have hk0 := h.1.1.1
  have hr2 : hR σ 0 2 = some (oS (E 6)) := h.2.1.2.2.1
  have hr6 := oS_r (h.2.1.1 6 (by omega))
  have hw := h.2.2.2.1.2
  obtain ⟨hS, hSf, hSr, hSm⟩ := h.2.2.2.1.1
  have hks := hS.1
  have hk1 := hS.2.1
  have hr1 : hR σ (oS (E 6)) 0 = some (oS (E 6) + 1) := hS.2.2.2.2.2.2.2.1
  obtain ⟨pm, hpm, hpm1, h14⟩ := hSf.2.1
  unfold ofSF at hQ
  refine ar_iload_n 1 rfl d_X5_ofShelf_0 rfl ?_
  refine ar_callS0 (M' := mX5_isShelf) (As := [_]) (ls' := [Vi _]) 4 rfl d_X5_ofShelf_1 ml_X5_61 mt_X5_isShelf rfl (Nat.le_of_ble_eq_true rfl) rfl (Nat.le_of_ble_eq_true rfl) (by omega) ?_
  refine sp_X5_isShelf hx (fun g1 => ?_) (fun g1 => ?_)
  · refine ar_if_ne 9 7 rfl rfl d_X5_ofShelf_4 (by omega) (fun g4 => ?_) (fun h => absurd h (by decide))
    refine ar_iload_n 10 rfl d_X5_ofShelf_9 rfl ?_
    rw [if_neg (fun h => h g1)] at hQ
    obtain ⟨p, rfl⟩ : ∃ p : Nat, x = (p : Int) := ⟨x.toNat, by omega⟩
    have hp : p < 12 := by omega
    have hv := hSf.1 p hp
    simp only [Int.toNat_natCast] at hQ
    by_cases c0 : w = 0
    · subst c0
      rw [if_pos rfl] at hQ
      refine ar_tsIn (off := 26) 36 d_X5_ofShelf_10 (by omega) (by omega) rfl rfl ?_
      refine ar_aload_n 37 rfl d_X5_ofShelf_36 rfl ?_
      refine ar_getA 40 rfl d_X5_ofShelf_37 fl_X5_16 rfl (by assumption) (by assumption) ?_
      refine ar_getA 43 rfl d_X5_ofShelf_40 fl_X5_68 rfl (by assumption) (by assumption) ?_
      refine ar_iload_n 44 rfl d_X5_ofShelf_43 rfl ?_
      refine ar_ilv (y := (C.1.1 (2 + p))) 45 rfl d_X5_ofShelf_44 (by assumption) (by omega) (by rw [Int.toNat_natCast]; exact hv) ?_
      refine WA.ret (some (Vi _)) ⟨d_X5_ofShelf_45, rfl, Or.inl rfl⟩ ?_
      exact hQ
    · rw [if_neg c0] at hQ
      by_cases c1 : w = 1
      · subst c1
        rw [if_pos rfl] at hQ
        refine ar_tsIn (off := 36) 46 d_X5_ofShelf_10 (by omega) (by omega) rfl rfl ?_
        refine ar_aload_n 47 rfl d_X5_ofShelf_46 rfl ?_
        refine ar_getA 50 rfl d_X5_ofShelf_47 fl_X5_16 rfl (by assumption) (by assumption) ?_
        refine ar_giv (y := (pm : Int)) 53 rfl d_X5_ofShelf_50 fl_X5_71 rfl (by assumption) hpm1 ?_
        refine ar_iload_n 54 rfl d_X5_ofShelf_53 rfl ?_
        refine ar_callS0 (M' := mX5_bitOf) (As := [_, _]) (ls' := [Vi _, Vi _]) 57 rfl d_X5_ofShelf_54 ml_X5_75 mt_X5_bitOf rfl (Nat.le_of_ble_eq_true rfl) rfl (Nat.le_of_ble_eq_true rfl) (by omega) ?_
        refine sp_X5_bitOf (by omega) (by omega) ?_
        refine WA.ret (some (Vi _)) ⟨d_X5_ofShelf_57, rfl, Or.inl rfl⟩ ?_
        rw [h14 p hp] at hQ
        exact hQ
      · rw [if_neg c1] at hQ
        by_cases c2 : w = 2
        · subst c2
          rw [if_pos rfl] at hQ
          refine ar_tsIn (off := 48) 58 d_X5_ofShelf_10 (by omega) (by omega) rfl rfl ?_
          refine ar_aload_n 59 rfl d_X5_ofShelf_58 rfl ?_
          refine ar_getA 62 rfl d_X5_ofShelf_59 fl_X5_16 rfl (by assumption) (by assumption) ?_
          refine ar_iload_n 63 rfl d_X5_ofShelf_62 rfl ?_
          refine ar_callV0 (M' := mX4_loavesNaming) (As := [_]) (ls' := [Va _, Vi _, Vu, Vu]) 66 rfl d_X5_ofShelf_63 ml_X5_128 mt_X4_loavesNaming (by assumption) rfl (Nat.le_of_ble_eq_true rfl) rfl (Nat.le_of_ble_eq_true rfl) (by omega) ?_
          refine sp_X4_loavesNaming hS hSr hp (fun l x hl hx e1 e2 => ?_) (by omega) ?_
          · rcases ((hw.2.2.2.2.2.2.2.2 l hl).2 x hx).2.2.1 e1 with q | q <;> omega
          refine WA.ret (some (Vi _)) ⟨d_X5_ofShelf_66, rfl, Or.inl rfl⟩ ?_
          exact hQ
        · rw [if_neg c2] at hQ
          refine ar_tsOut 67 d_X5_ofShelf_10 (by omega) (by omega) rfl ?_
          refine ar_bipush 69 rfl d_X5_ofShelf_67 rfl ?_
          refine WA.ret (some (Vi _)) ⟨d_X5_ofShelf_69, rfl, Or.inl rfl⟩ ?_
          exact hQ
  · refine ar_if_ne 9 7 rfl rfl d_X5_ofShelf_4 (by omega) (fun h => absurd h (by decide)) (fun g4 => ?_)
    refine ar_iconst 8 rfl d_X5_ofShelf_7 ?_
    refine WA.ret (some (Vi _)) ⟨d_X5_ofShelf_8, rfl, Or.inl rfl⟩ ?_
    rw [if_pos g1] at hQ
    exact hQ
theorem sp_X5_ofLoaf {x w : Int} (h : RepC Φ E C σ) (hx : i32 x) (hwd : i32 w) (hdp : 40 ≤ d) (hQ : Q (some (Vi (ofLF x w C))) σ) : WA G d k n mX5_ofLoaf 0 [Va 0, Vi x, Vi w, Vu] [] σ Q := by
  have hk0 := h.1.1.1
  have hr2 : hR σ 0 2 = some (oS (E 6)) := h.2.1.2.2.1
  have hr6 := oS_r (h.2.1.1 6 (by omega))
  have hw := h.2.2.2.1.2
  obtain ⟨hS, hSf, hSr, hSm⟩ := h.2.2.2.1.1
  have hks := hS.1
  have hk3 : sk σ (oS (E 6) + 3) = (14, 6) := hS.2.2.2.1
  have hr3 : hR σ (oS (E 6)) 3 = some (oS (E 6) + 3) := hS.2.2.2.2.2.2.2.2.2.1
  have hk5 : sk σ (oS (E 6) + 5) = (10, 6) := hS.2.2.2.2.2.1
  have hr7 : hR σ (oS (E 6)) 7 = some (oS (E 6) + 5) := hS.2.2.2.2.2.2.2.2.2.2.2.1
  have hk6 : sk σ (oS (E 6) + 6) = (10, 6) := hS.2.2.2.2.2.2.1
  have hr8 : hR σ (oS (E 6)) 8 = some (oS (E 6) + 6) := hS.2.2.2.2.2.2.2.2.2.2.2.2.1
  unfold ofLF at hQ
  refine ar_iload_n 1 rfl d_X5_ofLoaf_0 rfl ?_
  refine ar_callS0 (M' := mX5_isLoaf) (As := [_]) (ls' := [Vi _]) 4 rfl d_X5_ofLoaf_1 ml_X5_79 mt_X5_isLoaf rfl (Nat.le_of_ble_eq_true rfl) rfl (Nat.le_of_ble_eq_true rfl) (by omega) ?_
  refine sp_X5_isLoaf hx (fun g1 => ?_) (fun g1 => ?_)
  · refine ar_if_ne 9 7 rfl rfl d_X5_ofLoaf_4 (by omega) (fun g4 => ?_) (fun h => absurd h (by decide))
    refine ar_aload_n 10 rfl d_X5_ofLoaf_9 rfl ?_
    refine ar_getA 13 rfl d_X5_ofLoaf_10 fl_X5_16 rfl (by assumption) (by assumption) ?_
    refine ar_getA 16 rfl d_X5_ofLoaf_13 fl_X5_116 rfl (by assumption) (by assumption) ?_
    refine ar_iload_n 17 rfl d_X5_ofLoaf_16 rfl ?_
    refine ar_aald 18 rfl d_X5_ofLoaf_17 (by assumption) (by omega) (by omega) ?_
    refine ar_ast_3 19 rfl d_X5_ofLoaf_18 rfl (by intro _ h; cases h) ?_
    refine ar_iload_n 20 rfl d_X5_ofLoaf_19 rfl ?_
    rw [if_neg (fun h => h g1)] at hQ
    obtain ⟨p, rfl⟩ : ∃ p : Nat, x = (p : Int) := ⟨x.toNat, by omega⟩
    have hp : p < 6 := by omega
    have hb := hSf.2.2.2.2.1 p hp
    have hu := hSf.2.2.2.2.2.1 p hp
    simp only [Int.toNat_natCast] at hQ
    by_cases c0 : w = 0
    · subst c0
      rw [if_pos rfl] at hQ
      refine ar_tsIn (off := 40) 60 d_X5_ofLoaf_20 (by omega) (by omega) rfl rfl ?_
      refine ar_aload_n 61 rfl d_X5_ofLoaf_60 rfl ?_
      refine ar_ifnonnull 68 64 rfl rfl d_X5_ofLoaf_61 (fun a61 g61 => ?_) (fun g61 => ?_)
      · obtain ⟨hne, r1, hRc, hrr⟩ : C.1.2.2 p ≠ [] ∧ ∃ r1, RRec σ r1 (C.1.2.2 p) ∧ hR σ (oS (E 6) + 3) ((p : Int)).toNat = some r1 := by
          rcases hSr p hp with e | ⟨e, r1, _, _, e2, e3⟩
          · rw [Int.toNat_natCast, e.2] at g61
            cases g61
          · exact ⟨e, r1, e3, by rw [Int.toNat_natCast]; exact e2⟩
        rw [hrr]
        have hkr := hRc.1
        refine ar_iconst 69 rfl d_X5_ofLoaf_68 ?_
        refine WA.ret (some (Vi _)) ⟨d_X5_ofLoaf_69, rfl, Or.inl rfl⟩ ?_
        rw [if_neg hne] at hQ
        exact hQ
      · refine ar_iconst 65 rfl d_X5_ofLoaf_64 ?_
        refine ar_goto 69 rfl d_X5_ofLoaf_65 ?_
        refine WA.ret (some (Vi _)) ⟨d_X5_ofLoaf_69, rfl, Or.inl rfl⟩ ?_
        have hn0 : C.1.2.2 p = [] := by
          rcases hSr p hp with e | ⟨e, r1, _, _, e2, _⟩
          · exact e.1
          · exact absurd (g61.symm.trans e2) (by simp)
        rw [if_pos hn0] at hQ
        exact hQ
    · rw [if_neg c0] at hQ
      by_cases c1 : w = 1
      · subst c1
        rw [if_pos rfl] at hQ
        refine ar_tsIn (off := 50) 70 d_X5_ofLoaf_20 (by omega) (by omega) rfl rfl ?_
        refine ar_aload_n 71 rfl d_X5_ofLoaf_70 rfl ?_
        refine ar_ifnonnull 78 74 rfl rfl d_X5_ofLoaf_71 (fun a71 g71 => ?_) (fun g71 => ?_)
        · obtain ⟨hne, r1, hRc, hrr⟩ : C.1.2.2 p ≠ [] ∧ ∃ r1, RRec σ r1 (C.1.2.2 p) ∧ hR σ (oS (E 6) + 3) ((p : Int)).toNat = some r1 := by
            rcases hSr p hp with e | ⟨e, r1, _, _, e2, e3⟩
            · rw [Int.toNat_natCast, e.2] at g71
              cases g71
            · exact ⟨e, r1, e3, by rw [Int.toNat_natCast]; exact e2⟩
          rw [hrr]
          have hkr := hRc.1
          refine ar_aload_n 79 rfl d_X5_ofLoaf_78 rfl ?_
          refine ar_giv (y := ((cSh (C.1.2.2 p) : Nat) : Int)) 82 rfl d_X5_ofLoaf_79 fl_X5_132 rfl (by assumption) hRc.2.2.2.2.2.2.2.1 ?_
          refine WA.ret (some (Vi _)) ⟨d_X5_ofLoaf_82, rfl, Or.inl rfl⟩ ?_
          exact hQ
        · refine ar_iconst 75 rfl d_X5_ofLoaf_74 ?_
          refine ar_goto 82 rfl d_X5_ofLoaf_75 ?_
          refine WA.ret (some (Vi _)) ⟨d_X5_ofLoaf_82, rfl, Or.inl rfl⟩ ?_
          have hn0 : C.1.2.2 p = [] := by
            rcases hSr p hp with e | ⟨e, r1, _, _, e2, _⟩
            · exact e.1
            · exact absurd (g71.symm.trans e2) (by simp)
          rw [hn0] at hQ
          exact hQ
      · rw [if_neg c1] at hQ
        by_cases c2 : w = 2
        · subst c2
          rw [if_pos rfl] at hQ
          refine ar_tsIn (off := 63) 83 d_X5_ofLoaf_20 (by omega) (by omega) rfl rfl ?_
          refine ar_aload_n 84 rfl d_X5_ofLoaf_83 rfl ?_
          refine ar_ifnonnull 91 87 rfl rfl d_X5_ofLoaf_84 (fun a84 g84 => ?_) (fun g84 => ?_)
          · obtain ⟨hne, r1, hRc, hrr⟩ : C.1.2.2 p ≠ [] ∧ ∃ r1, RRec σ r1 (C.1.2.2 p) ∧ hR σ (oS (E 6) + 3) ((p : Int)).toNat = some r1 := by
              rcases hSr p hp with e | ⟨e, r1, _, _, e2, e3⟩
              · rw [Int.toNat_natCast, e.2] at g84
                cases g84
              · exact ⟨e, r1, e3, by rw [Int.toNat_natCast]; exact e2⟩
            rw [hrr]
            have hkr := hRc.1
            refine ar_aload_n 92 rfl d_X5_ofLoaf_91 rfl ?_
            refine ar_giv (y := ((cLo (C.1.2.2 p) : Nat) : Int)) 95 rfl d_X5_ofLoaf_92 fl_X5_135 rfl (by assumption) hRc.2.2.2.2.2.2.2.2.1 ?_
            refine WA.ret (some (Vi _)) ⟨d_X5_ofLoaf_95, rfl, Or.inl rfl⟩ ?_
            exact hQ
          · refine ar_iconst 88 rfl d_X5_ofLoaf_87 ?_
            refine ar_goto 95 rfl d_X5_ofLoaf_88 ?_
            refine WA.ret (some (Vi _)) ⟨d_X5_ofLoaf_95, rfl, Or.inl rfl⟩ ?_
            have hn0 : C.1.2.2 p = [] := by
              rcases hSr p hp with e | ⟨e, r1, _, _, e2, _⟩
              · exact e.1
              · exact absurd (g84.symm.trans e2) (by simp)
            rw [hn0] at hQ
            exact hQ
        · rw [if_neg c2] at hQ
          by_cases c3 : w = 3
          · subst c3
            rw [if_pos rfl] at hQ
            refine ar_tsIn (off := 76) 96 d_X5_ofLoaf_20 (by omega) (by omega) rfl rfl ?_
            refine ar_aload_n 97 rfl d_X5_ofLoaf_96 rfl ?_
            refine ar_getA 100 rfl d_X5_ofLoaf_97 fl_X5_16 rfl (by assumption) (by assumption) ?_
            refine ar_getA 103 rfl d_X5_ofLoaf_100 fl_X5_136 rfl (by assumption) (by assumption) ?_
            refine ar_iload_n 104 rfl d_X5_ofLoaf_103 rfl ?_
            refine ar_ilv (y := (C.1.1 (800 + p))) 105 rfl d_X5_ofLoaf_104 (by assumption) (by omega) (by rw [Int.toNat_natCast]; exact hb) ?_
            refine WA.ret (some (Vi _)) ⟨d_X5_ofLoaf_105, rfl, Or.inl rfl⟩ ?_
            exact hQ
          · rw [if_neg c3] at hQ
            by_cases c4 : w = 4
            · subst c4
              rw [if_pos rfl] at hQ
              refine ar_tsIn (off := 86) 106 d_X5_ofLoaf_20 (by omega) (by omega) rfl rfl ?_
              refine ar_aload_n 107 rfl d_X5_ofLoaf_106 rfl ?_
              refine ar_getA 110 rfl d_X5_ofLoaf_107 fl_X5_16 rfl (by assumption) (by assumption) ?_
              refine ar_getA 113 rfl d_X5_ofLoaf_110 fl_X5_139 rfl (by assumption) (by assumption) ?_
              refine ar_iload_n 114 rfl d_X5_ofLoaf_113 rfl ?_
              refine ar_ilv (y := (C.1.1 (806 + p))) 115 rfl d_X5_ofLoaf_114 (by assumption) (by omega) (by rw [Int.toNat_natCast]; exact hu) ?_
              refine WA.ret (some (Vi _)) ⟨d_X5_ofLoaf_115, rfl, Or.inl rfl⟩ ?_
              exact hQ
            · rw [if_neg c4] at hQ
              by_cases c5 : w = 5
              · subst c5
                rw [if_pos rfl] at hQ
                refine ar_tsIn (off := 96) 116 d_X5_ofLoaf_20 (by omega) (by omega) rfl rfl ?_
                refine ar_aload_n 117 rfl d_X5_ofLoaf_116 rfl ?_
                refine ar_getA 120 rfl d_X5_ofLoaf_117 fl_X5_16 rfl (by assumption) (by assumption) ?_
                refine ar_iload_n 121 rfl d_X5_ofLoaf_120 rfl ?_
                refine ar_callV0 (M' := mX4_memoriesOf) (As := [_]) (ls' := [Va _, Vi _, Vu, Vu]) 124 rfl d_X5_ofLoaf_121 ml_X5_142 mt_X4_memoriesOf (by assumption) rfl (Nat.le_of_ble_eq_true rfl) rfl (Nat.le_of_ble_eq_true rfl) (by omega) ?_
                refine sp_X4_memoriesOf hS hSm (by omega) (fun M hM => ?_) ?_
                · have hh := hw.2.2.2.2.2.2.1 M hM
                  have := hh.1
                  have := hh.2.1
                  omega
                refine WA.ret (some (Vi _)) ⟨d_X5_ofLoaf_124, rfl, Or.inl rfl⟩ ?_
                exact hQ
              · rw [if_neg c5] at hQ
                refine ar_tsOut 125 d_X5_ofLoaf_20 (by omega) (by omega) rfl ?_
                refine ar_bipush 127 rfl d_X5_ofLoaf_125 rfl ?_
                refine WA.ret (some (Vi _)) ⟨d_X5_ofLoaf_127, rfl, Or.inl rfl⟩ ?_
                exact hQ
  · refine ar_if_ne 9 7 rfl rfl d_X5_ofLoaf_4 (by omega) (fun h => absurd h (by decide)) (fun g4 => ?_)
    refine ar_iconst 8 rfl d_X5_ofLoaf_7 ?_
    refine WA.ret (some (Vi _)) ⟨d_X5_ofLoaf_8, rfl, Or.inl rfl⟩ ?_
    rw [if_pos g1] at hQ
    exact hQ
theorem sp_X5_ofMemory {m w : Int} (h : RepC Φ E C σ) (hm : i32 m) (hwd : i32 w) (hdp : 40 ≤ d) (hQ : Q (some (Vi (ofMF m w C))) σ) : WA G d k n mX5_ofMemory 0 [Va 0, Vi m, Vi w, Vu] [] σ Q := by
  have hk0 := h.1.1.1
  have hr2 : hR σ 0 2 = some (oS (E 6)) := h.2.1.2.2.1
  have hr6 := oS_r (h.2.1.1 6 (by omega))
  have hw := h.2.2.2.1.2
  obtain ⟨hS, hSf, hSr, hSm⟩ := h.2.2.2.1.1
  have hks := hS.1
  unfold ofMF at hQ
  refine ar_aload_n 1 rfl d_X5_ofMemory_0 rfl ?_
  refine ar_iload_n 2 rfl d_X5_ofMemory_1 rfl ?_
  refine ar_callV0 (M' := mX5_isMemory) (As := [_]) (ls' := [Va _, Vi _]) 5 rfl d_X5_ofMemory_2 ml_X5_86 mt_X5_isMemory (by assumption) rfl (Nat.le_of_ble_eq_true rfl) rfl (Nat.le_of_ble_eq_true rfl) (by omega) ?_
  refine sp_X5_isMemory h hm (fun g2 => ?_) (fun g2 => ?_)
  · refine ar_if_ne 10 8 rfl rfl d_X5_ofMemory_5 (by omega) (fun g5 => ?_) (fun h => absurd h (by decide))
    rw [if_neg (fun h => h g2)] at hQ
    obtain ⟨p, rfl⟩ : ∃ p : Nat, m = (p : Int) := ⟨m.toNat, by omega⟩
    have hpl : p < C.1.2.1.length := by omega
    have hM : C.1.2.1[p]? = some C.1.2.1[p] := List.getElem?_eq_getElem hpl
    rw [Int.toNat_natCast, hM] at hQ
    simp only [] at hQ
    generalize C.1.2.1[p] = M at hM hQ
    have hl16 := hSm.1
    obtain ⟨mo, hmo, hsho, _, _⟩ := hSm.at hS (i := p) (by omega)
    have hRM := hSm.2.2.2.2 p M mo hM hmo
    have hkm := hsho.1
    have hk4 : sk σ (oS (E 6) + 4) = (12, 17) := hS.2.2.2.2.1
    have hr4 : hR σ (oS (E 6)) 4 = some (oS (E 6) + 4) := hS.2.2.2.2.2.2.2.2.2.2.1
    refine ar_aload_n 11 rfl d_X5_ofMemory_10 rfl ?_
    refine ar_getA 14 rfl d_X5_ofMemory_11 fl_X5_16 rfl (by assumption) (by assumption) ?_
    refine ar_getA 17 rfl d_X5_ofMemory_14 fl_X5_145 rfl (by assumption) (by assumption) ?_
    refine ar_iload_n 18 rfl d_X5_ofMemory_17 rfl ?_
    refine ar_aalA 19 rfl d_X5_ofMemory_18 (by assumption) (by omega) (by omega) hmo ?_
    refine ar_ast_3 20 rfl d_X5_ofMemory_19 rfl (by intro _ h; cases h) ?_
    refine ar_iload_n 21 rfl d_X5_ofMemory_20 rfl ?_
    unfold mF at hQ
    by_cases c0 : w = 0
    · subst c0
      rw [if_pos rfl] at hQ
      refine ar_tsIn (off := 35) 56 d_X5_ofMemory_21 (by omega) (by omega) rfl rfl ?_
      refine ar_aload_n 57 rfl d_X5_ofMemory_56 rfl ?_
      refine ar_giv (y := (mLoaf M)) 60 rfl d_X5_ofMemory_57 fl_X5_149 rfl (by assumption) hRM.1 ?_
      refine WA.ret (some (Vi _)) ⟨d_X5_ofMemory_60, rfl, Or.inl rfl⟩ ?_
      exact hQ
    · rw [if_neg c0] at hQ
      by_cases c1 : w = 1
      · subst c1
        rw [if_pos rfl] at hQ
        refine ar_tsIn (off := 40) 61 d_X5_ofMemory_21 (by omega) (by omega) rfl rfl ?_
        refine ar_aload_n 62 rfl d_X5_ofMemory_61 rfl ?_
        refine ar_giv (y := (mRes M)) 65 rfl d_X5_ofMemory_62 fl_X5_154 rfl (by assumption) hRM.2.1 ?_
        refine WA.ret (some (Vi _)) ⟨d_X5_ofMemory_65, rfl, Or.inl rfl⟩ ?_
        exact hQ
      · rw [if_neg c1] at hQ
        by_cases c2 : w = 2
        · subst c2
          rw [if_pos rfl] at hQ
          refine ar_tsIn (off := 45) 66 d_X5_ofMemory_21 (by omega) (by omega) rfl rfl ?_
          refine ar_aload_n 67 rfl d_X5_ofMemory_66 rfl ?_
          refine ar_giv (y := ((mLk M).length : Int)) 70 rfl d_X5_ofMemory_67 fl_X5_157 rfl (by assumption) hRM.2.2.2.2.2.1 ?_
          refine WA.ret (some (Vi _)) ⟨d_X5_ofMemory_70, rfl, Or.inl rfl⟩ ?_
          exact hQ
        · rw [if_neg c2] at hQ
          by_cases c3 : w = 3
          · subst c3
            rw [if_pos rfl] at hQ
            refine ar_tsIn (off := 50) 71 d_X5_ofMemory_21 (by omega) (by omega) rfl rfl ?_
            refine ar_aload_n 72 rfl d_X5_ofMemory_71 rfl ?_
            refine ar_giv (y := (mSteps M)) 75 rfl d_X5_ofMemory_72 fl_X5_160 rfl (by assumption) hRM.2.2.1 ?_
            refine WA.ret (some (Vi _)) ⟨d_X5_ofMemory_75, rfl, Or.inl rfl⟩ ?_
            exact hQ
          · rw [if_neg c3] at hQ
            by_cases c4 : w = 4
            · subst c4
              rw [if_pos rfl] at hQ
              refine ar_tsIn (off := 55) 76 d_X5_ofMemory_21 (by omega) (by omega) rfl rfl ?_
              refine ar_aload_n 77 rfl d_X5_ofMemory_76 rfl ?_
              refine ar_giv (y := (mUses M)) 80 rfl d_X5_ofMemory_77 fl_X5_163 rfl (by assumption) hRM.2.2.2.1 ?_
              refine WA.ret (some (Vi _)) ⟨d_X5_ofMemory_80, rfl, Or.inl rfl⟩ ?_
              exact hQ
            · rw [if_neg c4] at hQ
              refine ar_tsOut 81 d_X5_ofMemory_21 (by omega) (by omega) rfl ?_
              refine ar_bipush 83 rfl d_X5_ofMemory_81 rfl ?_
              refine WA.ret (some (Vi _)) ⟨d_X5_ofMemory_83, rfl, Or.inl rfl⟩ ?_
              exact hQ
  · refine ar_if_ne 10 8 rfl rfl d_X5_ofMemory_5 (by omega) (fun h => absurd h (by decide)) (fun g5 => ?_)
    refine ar_iconst 9 rfl d_X5_ofMemory_8 ?_
    refine WA.ret (some (Vi _)) ⟨d_X5_ofMemory_9, rfl, Or.inl rfl⟩ ?_
    rw [if_pos g2] at hQ
    exact hQ
theorem sp_X5_look {m i w : Int} (h : RepC Φ E C σ) (hm : i32 m) (hi : i32 i) (hwd : i32 w) (hdp : 40 ≤ d) (hQ : Q (some (Vi (lookF m i w C))) σ) : WA G d k n mX5_look 0 [Va 0, Vi m, Vi i, Vi w, Vu] [] σ Q := by
  have hk0 := h.1.1.1
  have hr2 : hR σ 0 2 = some (oS (E 6)) := h.2.1.2.2.1
  have hr6 := oS_r (h.2.1.1 6 (by omega))
  have hw := h.2.2.2.1.2
  obtain ⟨hS, hSf, hSr, hSm⟩ := h.2.2.2.1.1
  have hks := hS.1
  unfold lookF at hQ
  refine ar_aload_n 1 rfl d_X5_look_0 rfl ?_
  refine ar_iload_n 2 rfl d_X5_look_1 rfl ?_
  refine ar_callV0 (M' := mX5_isMemory) (As := [_]) (ls' := [Va _, Vi _]) 5 rfl d_X5_look_2 ml_X5_86 mt_X5_isMemory (by assumption) rfl (Nat.le_of_ble_eq_true rfl) rfl (Nat.le_of_ble_eq_true rfl) (by omega) ?_
  refine sp_X5_isMemory h hm (fun g2 => ?_) (fun g2 => ?_)
  · refine ar_if_ne 10 8 rfl rfl d_X5_look_5 (by omega) (fun g5 => ?_) (fun h => absurd h (by decide))
    rw [if_neg (fun h => h g2)] at hQ
    obtain ⟨p, rfl⟩ : ∃ p : Nat, m = (p : Int) := ⟨m.toNat, by omega⟩
    have hpl : p < C.1.2.1.length := by omega
    have hM : C.1.2.1[p]? = some C.1.2.1[p] := List.getElem?_eq_getElem hpl
    rw [Int.toNat_natCast, hM] at hQ
    simp only [] at hQ
    generalize C.1.2.1[p] = M at hM hQ
    have hl16 := hSm.1
    obtain ⟨mo, hmo, hsho, _, _⟩ := hSm.at hS (i := p) (by omega)
    have hRM := hSm.2.2.2.2 p M mo hM hmo
    have hkm := hsho.1
    have hk4 : sk σ (oS (E 6) + 4) = (12, 17) := hS.2.2.2.2.1
    have hr4 : hR σ (oS (E 6)) 4 = some (oS (E 6) + 4) := hS.2.2.2.2.2.2.2.2.2.2.1
    have hWl := (hw.2.2.2.2.2.2.1 M (List.mem_of_getElem? hM))
    have hlen := WFl_len hWl.2.2.2.2.2.2
    have hl6 := hWl.2.1
    have hl0 := hWl.1
    unfold lkMF at hQ
    refine ar_aload_n 11 rfl d_X5_look_10 rfl ?_
    refine ar_getA 14 rfl d_X5_look_11 fl_X5_16 rfl (by assumption) (by assumption) ?_
    refine ar_getA 17 rfl d_X5_look_14 fl_X5_145 rfl (by assumption) (by assumption) ?_
    refine ar_iload_n 18 rfl d_X5_look_17 rfl ?_
    refine ar_aalA 19 rfl d_X5_look_18 (by assumption) (by omega) (by omega) hmo ?_
    refine ar_ast_4 21 rfl d_X5_look_19 rfl (by intro _ h; cases h) ?_
    refine ar_iload_n 22 rfl d_X5_look_21 rfl ?_
    refine ar_if_lt 34 25 rfl rfl d_X5_look_22 (by omega) (fun g22 => ?_) (fun g22 => ?_)
    · refine ar_iconst 35 rfl d_X5_look_34 ?_
      refine WA.ret (some (Vi _)) ⟨d_X5_look_35, rfl, Or.inl rfl⟩ ?_
      rw [if_pos (by omega)] at hQ
      exact hQ
    · refine ar_iload_n 26 rfl d_X5_look_25 rfl ?_
      refine ar_aload 28 rfl d_X5_look_26 rfl ?_
      refine ar_giv (y := ((mLk M).length : Int)) 31 rfl d_X5_look_28 fl_X5_157 rfl (by assumption) hRM.2.2.2.2.2.1 ?_
      refine ar_icmp_lt 36 34 rfl rfl d_X5_look_31 (by omega) (by omega) (fun g31 => ?_) (fun g31 => ?_)
      · obtain ⟨j, rfl⟩ : ∃ j : Nat, i = (j : Int) := ⟨i.toNat, by omega⟩
        have hj : j < (mLk M).length := by omega
        have hxj : (mLk M)[j]? = some (mLk M)[j] := List.getElem?_eq_getElem hj
        rw [if_neg (by omega), Int.toNat_natCast, hxj] at hQ
        simp only [] at hQ
        generalize (mLk M)[j] = x at hxj hQ
        have hxv := hRM.2.2.2.2.2.2 j x hxj
        have hk1 := hsho.2.1
        have hk2 := hsho.2.2.1
        have hr6m := hsho.2.2.2.1
        have hr7m := hsho.2.2.2.2
        refine ar_iload_n 37 rfl d_X5_look_36 rfl ?_
        by_cases c0 : w = 0
        · subst c0
          rw [if_pos rfl] at hQ
          refine ar_lsw (off := 27) 64 d_X5_look_37 (by decide) (by omega) (by rw [Op.lookupswitch.offset_cons, if_pos rfl]) rfl ?_
          refine ar_aload 66 rfl d_X5_look_64 rfl ?_
          refine ar_getA 69 rfl d_X5_look_66 fl_X5_166 rfl (by assumption) (by assumption) ?_
          refine ar_iload_n 70 rfl d_X5_look_69 rfl ?_
          refine ar_ilv (y := x.1) 71 rfl d_X5_look_70 (by assumption) (by omega) (by rw [Int.toNat_natCast]; exact hxv.1) ?_
          refine WA.ret (some (Vi _)) ⟨d_X5_look_71, rfl, Or.inl rfl⟩ ?_
          exact hQ
        · rw [if_neg c0] at hQ
          by_cases c1 : w = 1
          · subst c1
            rw [if_pos rfl] at hQ
            refine ar_lsw (off := 35) 72 d_X5_look_37 (by decide) (by omega) (by rw [Op.lookupswitch.offset_cons, if_neg (by decide), Op.lookupswitch.offset_cons, if_pos rfl]) rfl ?_
            refine ar_aload 74 rfl d_X5_look_72 rfl ?_
            refine ar_getA 77 rfl d_X5_look_74 fl_X5_169 rfl (by assumption) (by assumption) ?_
            refine ar_iload_n 78 rfl d_X5_look_77 rfl ?_
            refine ar_ilv (y := x.2) 79 rfl d_X5_look_78 (by assumption) (by omega) (by rw [Int.toNat_natCast]; exact hxv.2) ?_
            refine WA.ret (some (Vi _)) ⟨d_X5_look_79, rfl, Or.inl rfl⟩ ?_
            exact hQ
          · rw [if_neg c1] at hQ
            refine ar_lsw (off := 43) 80 d_X5_look_37 (by decide) (by omega) (by rw [Op.lookupswitch.offset_cons, if_neg (fun h => c0 h.symm), Op.lookupswitch.offset_cons, if_neg (fun h => c1 h.symm)]; rfl) rfl ?_
            refine ar_bipush 82 rfl d_X5_look_80 rfl ?_
            refine WA.ret (some (Vi _)) ⟨d_X5_look_82, rfl, Or.inl rfl⟩ ?_
            exact hQ
      · refine ar_iconst 35 rfl d_X5_look_34 ?_
        refine WA.ret (some (Vi _)) ⟨d_X5_look_35, rfl, Or.inl rfl⟩ ?_
        rw [if_pos (by omega)] at hQ
        exact hQ
  · refine ar_if_ne 10 8 rfl rfl d_X5_look_5 (by omega) (fun h => absurd h (by decide)) (fun g5 => ?_)
    refine ar_iconst 9 rfl d_X5_look_8 ?_
    refine WA.ret (some (Vi _)) ⟨d_X5_look_9, rfl, Or.inl rfl⟩ ?_
    rw [if_pos g2] at hQ
    exact hQ
theorem sp_X5_count {w : Int} (h : RepC Φ E C σ) (hwd : i32 w) (hdp : 40 ≤ d) (hQ : Q (some (Vi (cntF w C))) σ) : WA G d k n mX5_count 0 [Va 0, Vi w] [] σ Q := by
  have hk0 := h.1.1.1
  have hr2 : hR σ 0 2 = some (oS (E 6)) := h.2.1.2.2.1
  have hr6 := oS_r (h.2.1.1 6 (by omega))
  have hw := h.2.2.2.1.2
  obtain ⟨hS, hSf, hSr, hSm⟩ := h.2.2.2.1.1
  have hks := hS.1
  have hk2 : sk σ (oS (E 6) + 2) = (10, 2) := hS.2.2.1
  have hrs : hR σ (oS (E 6)) 2 = some (oS (E 6) + 2) := hS.2.2.2.2.2.2.2.2.1
  unfold cntF at hQ
  refine ar_iload_n 1 rfl d_X5_count_0 rfl ?_
  by_cases c0 : w = 0
  · subst c0
    rw [if_pos rfl] at hQ
    refine ar_tsIn (off := 47) 48 d_X5_count_1 (by omega) (by omega) rfl rfl ?_
    refine ar_aload_n 49 rfl d_X5_count_48 rfl ?_
    refine ar_getA 52 rfl d_X5_count_49 fl_X5_16 rfl (by assumption) (by assumption) ?_
    refine ar_giv (y := (C.1.2.1.length : Int)) 55 rfl d_X5_count_52 fl_X5_93 rfl (by assumption) hSm.2.1 ?_
    refine WA.ret (some (Vi _)) ⟨d_X5_count_55, rfl, Or.inl rfl⟩ ?_
    exact hQ
  · rw [if_neg c0] at hQ
    by_cases c1 : w = 1
    · subst c1
      rw [if_pos rfl] at hQ
      refine ar_tsIn (off := 55) 56 d_X5_count_1 (by omega) (by omega) rfl rfl ?_
      refine ar_aload_n 57 rfl d_X5_count_56 rfl ?_
      refine ar_getA 60 rfl d_X5_count_57 fl_X5_16 rfl (by assumption) (by assumption) ?_
      refine ar_giv (y := (C.1.1 812)) 63 rfl d_X5_count_60 fl_X5_172 rfl (by assumption) hSf.2.2.2.2.2.2.1 ?_
      refine WA.ret (some (Vi _)) ⟨d_X5_count_63, rfl, Or.inl rfl⟩ ?_
      exact hQ
    · rw [if_neg c1] at hQ
      by_cases c2 : w = 2
      · subst c2
        rw [if_pos rfl] at hQ
        refine ar_tsIn (off := 63) 64 d_X5_count_1 (by omega) (by omega) rfl rfl ?_
        refine ar_aload_n 65 rfl d_X5_count_64 rfl ?_
        refine ar_getA 68 rfl d_X5_count_65 fl_X5_16 rfl (by assumption) (by assumption) ?_
        refine ar_giv (y := (C.1.1 813)) 71 rfl d_X5_count_68 fl_X5_175 rfl (by assumption) hSf.2.2.2.2.2.2.2.1 ?_
        refine WA.ret (some (Vi _)) ⟨d_X5_count_71, rfl, Or.inl rfl⟩ ?_
        exact hQ
      · rw [if_neg c2] at hQ
        by_cases c3 : w = 3
        · subst c3
          rw [if_pos rfl] at hQ
          refine ar_tsIn (off := 71) 72 d_X5_count_1 (by omega) (by omega) rfl rfl ?_
          refine ar_aload_n 73 rfl d_X5_count_72 rfl ?_
          refine ar_giv (y := (C.2.2.2.length : Int)) 76 rfl d_X5_count_73 fl_X5_100 rfl (by assumption) h.2.2.2.2.2.2.1 ?_
          refine WA.ret (some (Vi _)) ⟨d_X5_count_76, rfl, Or.inl rfl⟩ ?_
          exact hQ
        · rw [if_neg c3] at hQ
          by_cases c4 : w = 4
          · subst c4
            rw [if_pos rfl] at hQ
            refine ar_tsIn (off := 76) 77 d_X5_count_1 (by omega) (by omega) rfl rfl ?_
            refine ar_aload_n 78 rfl d_X5_count_77 rfl ?_
            refine ar_giv (y := (C.2.1.length : Int)) 81 rfl d_X5_count_78 fl_X5_178 rfl (by assumption) h.2.2.2.2.1.1 ?_
            refine WA.ret (some (Vi _)) ⟨d_X5_count_81, rfl, Or.inl rfl⟩ ?_
            exact hQ
          · rw [if_neg c4] at hQ
            by_cases c5 : w = 5
            · subst c5
              rw [if_pos rfl] at hQ
              refine ar_tsIn (off := 81) 82 d_X5_count_1 (by omega) (by omega) rfl rfl ?_
              refine ar_aload_n 83 rfl d_X5_count_82 rfl ?_
              refine ar_getA 86 rfl d_X5_count_83 fl_X5_16 rfl (by assumption) (by assumption) ?_
              refine ar_getA 89 rfl d_X5_count_86 fl_X5_55 rfl (by assumption) (by assumption) ?_
              refine ar_iconst 90 rfl d_X5_count_89 ?_
              refine ar_ilv (y := (C.1.1 0)) 91 rfl d_X5_count_90 (by assumption) (by omega) hSf.2.2.1 ?_
              refine WA.ret (some (Vi _)) ⟨d_X5_count_91, rfl, Or.inl rfl⟩ ?_
              exact hQ
            · rw [if_neg c5] at hQ
              by_cases c6 : w = 6
              · subst c6
                rw [if_pos rfl] at hQ
                refine ar_tsIn (off := 91) 92 d_X5_count_1 (by omega) (by omega) rfl rfl ?_
                refine ar_aload_n 93 rfl d_X5_count_92 rfl ?_
                refine ar_getA 96 rfl d_X5_count_93 fl_X5_16 rfl (by assumption) (by assumption) ?_
                refine ar_getA 99 rfl d_X5_count_96 fl_X5_55 rfl (by assumption) (by assumption) ?_
                refine ar_iconst 100 rfl d_X5_count_99 ?_
                refine ar_ilv (y := (C.1.1 1)) 101 rfl d_X5_count_100 (by assumption) (by omega) hSf.2.2.2.1 ?_
                refine WA.ret (some (Vi _)) ⟨d_X5_count_101, rfl, Or.inl rfl⟩ ?_
                exact hQ
              · rw [if_neg c6] at hQ
                by_cases c7 : w = 7
                · subst c7
                  rw [if_pos rfl] at hQ
                  refine ar_tsIn (off := 101) 102 d_X5_count_1 (by omega) (by omega) rfl rfl ?_
                  refine ar_aload_n 103 rfl d_X5_count_102 rfl ?_
                  refine ar_getA 106 rfl d_X5_count_103 fl_X5_16 rfl (by assumption) (by assumption) ?_
                  refine ar_callV0 (M' := mX4_loavesWithRecipe) (As := []) (ls' := [Va _, Vu, Vu]) 109 rfl d_X5_count_106 ml_X5_181 mt_X4_loavesWithRecipe (by assumption) rfl (Nat.le_of_ble_eq_true rfl) rfl (Nat.le_of_ble_eq_true rfl) (by omega) ?_
                  refine sp_X4_loavesWithRecipe hS hSr ?_
                  refine WA.ret (some (Vi _)) ⟨d_X5_count_109, rfl, Or.inl rfl⟩ ?_
                  exact hQ
                · rw [if_neg c7] at hQ
                  refine ar_tsOut 110 d_X5_count_1 (by omega) (by omega) rfl ?_
                  refine ar_bipush 112 rfl d_X5_count_110 rfl ?_
                  refine WA.ret (some (Vi _)) ⟨d_X5_count_112, rfl, Or.inl rfl⟩ ?_
                  exact hQ
end ASKS
